theorem in_X0 : ∀ w ∈ u_ws RX0 TX0 2, w ∈ TBg := by
  intro w hw
  obtain ⟨k, hk, rfl⟩ := List.mem_map.mp hw
  have hk := List.mem_range.mp hk
  match k, hk with
  | 0, _ => exact tw_520
  | 1, _ => exact tw_522
  | (j + 2), hk => exact absurd hk (by omega)
theorem in_X1 : ∀ w ∈ u_ws RX1 TX1 5, w ∈ TBg := by
  intro w hw
  obtain ⟨k, hk, rfl⟩ := List.mem_map.mp hw
  have hk := List.mem_range.mp hk
  match k, hk with
  | 0, _ => exact tw_436
  | 1, _ => exact tw_438
  | 2, _ => exact tw_440
  | 3, _ => exact tw_442
  | 4, _ => exact tw_444
  | (j + 5), hk => exact absurd hk (by omega)
theorem in_X2 : ∀ w ∈ u_ws RX2 TX2 9, w ∈ TBg := by
  intro w hw
  obtain ⟨k, hk, rfl⟩ := List.mem_map.mp hw
  have hk := List.mem_range.mp hk
  match k, hk with
  | 0, _ => exact tw_546
  | 1, _ => exact tw_548
  | 2, _ => exact tw_550
  | 3, _ => exact tw_552
  | 4, _ => exact tw_554
  | 5, _ => exact tw_556
  | 6, _ => exact tw_558
  | 7, _ => exact tw_560
  | 8, _ => exact tw_562
  | (j + 9), hk => exact absurd hk (by omega)
theorem in_X3 : ∀ w ∈ u_ws RX3 TX3 7, w ∈ TBg := by
  intro w hw
  obtain ⟨k, hk, rfl⟩ := List.mem_map.mp hw
  have hk := List.mem_range.mp hk
  match k, hk with
  | 0, _ => exact tw_497
  | 1, _ => exact tw_499
  | 2, _ => exact tw_501
  | 3, _ => exact tw_503
  | 4, _ => exact tw_505
  | 5, _ => exact tw_507
  | 6, _ => exact tw_509
  | (j + 7), hk => exact absurd hk (by omega)
theorem in_X4 : ∀ w ∈ u_ws RX4 TX4 5, w ∈ TBg := by
  intro w hw
  obtain ⟨k, hk, rfl⟩ := List.mem_map.mp hw
  have hk := List.mem_range.mp hk
  match k, hk with
  | 0, _ => exact tw_410
  | 1, _ => exact tw_412
  | 2, _ => exact tw_414
  | 3, _ => exact tw_416
  | 4, _ => exact tw_418
  | (j + 5), hk => exact absurd hk (by omega)
theorem in_X5 : ∀ w ∈ u_ws RX5 TX5 18, w ∈ TBg := by
  intro w hw
  obtain ⟨k, hk, rfl⟩ := List.mem_map.mp hw
  have hk := List.mem_range.mp hk
  match k, hk with
  | 0, _ => exact tw_230
  | 1, _ => exact tw_232
  | 2, _ => exact tw_234
  | 3, _ => exact tw_236
  | 4, _ => exact tw_238
  | 5, _ => exact tw_240
  | 6, _ => exact tw_242
  | 7, _ => exact tw_244
  | 8, _ => exact tw_246
  | 9, _ => exact tw_248
  | 10, _ => exact tw_250
  | 11, _ => exact tw_252
  | 12, _ => exact tw_254
  | 13, _ => exact tw_256
  | 14, _ => exact tw_258
  | 15, _ => exact tw_260
  | 16, _ => exact tw_262
  | 17, _ => exact tw_264
  | (j + 18), hk => exact absurd hk (by omega)
theorem in_X6 : ∀ w ∈ u_ws RX6 TX6 9, w ∈ TBg := by
  intro w hw
  obtain ⟨k, hk, rfl⟩ := List.mem_map.mp hw
  have hk := List.mem_range.mp hk
  match k, hk with
  | 0, _ => exact tw_345
  | 1, _ => exact tw_347
  | 2, _ => exact tw_349
  | 3, _ => exact tw_351
  | 4, _ => exact tw_353
  | 5, _ => exact tw_355
  | 6, _ => exact tw_357
  | 7, _ => exact tw_359
  | 8, _ => exact tw_361
  | (j + 9), hk => exact absurd hk (by omega)
theorem in_X7 : ∀ w ∈ u_ws RX7 TX7 1, w ∈ TBg := by
  intro w hw
  obtain ⟨k, hk, rfl⟩ := List.mem_map.mp hw
  have hk := List.mem_range.mp hk
  match k, hk with
  | 0, _ => exact tw_456
  | (j + 1), hk => exact absurd hk (by omega)
theorem in_X8 : ∀ w ∈ u_ws RX8 TX8 5, w ∈ TBg := by
  intro w hw
  obtain ⟨k, hk, rfl⟩ := List.mem_map.mp hw
  have hk := List.mem_range.mp hk
  match k, hk with
  | 0, _ => exact tw_372
  | 1, _ => exact tw_374
  | 2, _ => exact tw_376
  | 3, _ => exact tw_378
  | 4, _ => exact tw_380
  | (j + 5), hk => exact absurd hk (by omega)
theorem in_X9 : ∀ w ∈ u_ws RX9 TX9 4, w ∈ TBg := by
  intro w hw
  obtain ⟨k, hk, rfl⟩ := List.mem_map.mp hw
  have hk := List.mem_range.mp hk
  match k, hk with
  | 0, _ => exact tw_471
  | 1, _ => exact tw_473
  | 2, _ => exact tw_475
  | 3, _ => exact tw_477
  | (j + 4), hk => exact absurd hk (by omega)
theorem in_X10 : ∀ w ∈ u_ws RX10 TX10 6, w ∈ TBg := by
  intro w hw
  obtain ⟨k, hk, rfl⟩ := List.mem_map.mp hw
  have hk := List.mem_range.mp hk
  match k, hk with
  | 0, _ => exact tw_139
  | 1, _ => exact tw_141
  | 2, _ => exact tw_143
  | 3, _ => exact tw_145
  | 4, _ => exact tw_147
  | 5, _ => exact tw_149
  | (j + 6), hk => exact absurd hk (by omega)
theorem in_X11 : ∀ w ∈ u_ws RX11 TX11 14, w ∈ TBg := by
  intro w hw
  obtain ⟨k, hk, rfl⟩ := List.mem_map.mp hw
  have hk := List.mem_range.mp hk
  match k, hk with
  | 0, _ => exact tw_581
  | 1, _ => exact tw_583
  | 2, _ => exact tw_585
  | 3, _ => exact tw_587
  | 4, _ => exact tw_589
  | 5, _ => exact tw_591
  | 6, _ => exact tw_593
  | 7, _ => exact tw_595
  | 8, _ => exact tw_597
  | 9, _ => exact tw_599
  | 10, _ => exact tw_601
  | 11, _ => exact tw_603
  | 12, _ => exact tw_605
  | 13, _ => exact tw_607
  | (j + 14), hk => exact absurd hk (by omega)
theorem in_X12 : ∀ w ∈ u_ws RX12 TX12 79, w ∈ TBg := by
  intro w hw
  obtain ⟨k, hk, rfl⟩ := List.mem_map.mp hw
  have hk := List.mem_range.mp hk
  match k, hk with
  | 0, _ => exact tw_1161
  | 1, _ => exact tw_1163
  | 2, _ => exact tw_1165
  | 3, _ => exact tw_1167
  | 4, _ => exact tw_1169
  | 5, _ => exact tw_1171
  | 6, _ => exact tw_1173
  | 7, _ => exact tw_1175
  | 8, _ => exact tw_1177
  | 9, _ => exact tw_1179
  | 10, _ => exact tw_1181
  | 11, _ => exact tw_1183
  | 12, _ => exact tw_1185
  | 13, _ => exact tw_1187
  | 14, _ => exact tw_1189
  | 15, _ => exact tw_1191
  | 16, _ => exact tw_1193
  | 17, _ => exact tw_1195
  | 18, _ => exact tw_1197
  | 19, _ => exact tw_1199
  | 20, _ => exact tw_1201
  | 21, _ => exact tw_1203
  | 22, _ => exact tw_1205
  | 23, _ => exact tw_1207
  | 24, _ => exact tw_1209
  | 25, _ => exact tw_1211
  | 26, _ => exact tw_1213
  | 27, _ => exact tw_1215
  | 28, _ => exact tw_1217
  | 29, _ => exact tw_1219
  | 30, _ => exact tw_1221
  | 31, _ => exact tw_1223
  | 32, _ => exact tw_1225
  | 33, _ => exact tw_1227
  | 34, _ => exact tw_1229
  | 35, _ => exact tw_1231
  | 36, _ => exact tw_1233
  | 37, _ => exact tw_1235
  | 38, _ => exact tw_1237
  | 39, _ => exact tw_1239
  | 40, _ => exact tw_1241
  | 41, _ => exact tw_1243
  | 42, _ => exact tw_1245
  | 43, _ => exact tw_1247
  | 44, _ => exact tw_1249
  | 45, _ => exact tw_1251
  | 46, _ => exact tw_1253
  | 47, _ => exact tw_1255
  | 48, _ => exact tw_1257
  | 49, _ => exact tw_1259
  | 50, _ => exact tw_1261
  | 51, _ => exact tw_1263
  | 52, _ => exact tw_1265
  | 53, _ => exact tw_1267
  | 54, _ => exact tw_1269
  | 55, _ => exact tw_1271
  | 56, _ => exact tw_1273
  | 57, _ => exact tw_1275
  | 58, _ => exact tw_1277
  | 59, _ => exact tw_1279
  | 60, _ => exact tw_1281
  | 61, _ => exact tw_1283
  | 62, _ => exact tw_1285
  | 63, _ => exact tw_1287
  | 64, _ => exact tw_1289
  | 65, _ => exact tw_1291
  | 66, _ => exact tw_1293
  | 67, _ => exact tw_1295
  | 68, _ => exact tw_1297
  | 69, _ => exact tw_1299
  | 70, _ => exact tw_1301
  | 71, _ => exact tw_1303
  | 72, _ => exact tw_1305
  | 73, _ => exact tw_1307
  | 74, _ => exact tw_1309
  | 75, _ => exact tw_1311
  | 76, _ => exact tw_1313
  | 77, _ => exact tw_1315
  | 78, _ => exact tw_1317
  | (j + 79), hk => exact absurd hk (by omega)
abbrev MX0_init : MX := (cX0_init, RX0, 1, none, { frames := 1, cells := 2, slots := 794, locals := 20 }, true)
theorem okX0_init : MOkI yX0_init MX0_init 0 := ⟨⟨tw_516, tw_96, by decide +kernel, by decide +kernel, by decide +kernel⟩, tw_515, rfl, rfl⟩
abbrev MX0_lookOut : MX := (cX0_lookOut, RX0, 4, none, { frames := 4, cells := 0, slots := 0, locals := 97 }, false)
theorem okX0_lookOut : MOkV yX0_lookOut MX0_lookOut 2 := ⟨⟨tw_979, tw_96, by decide +kernel, by decide +kernel, by decide +kernel⟩, tw_977, tw_978⟩
abbrev MX0_fewestMinutes : MX := (cX0_fewestMinutes, RX0, 8, (some .int), { frames := 2, cells := 0, slots := 0, locals := 45 }, false)
theorem okX0_fewestMinutes : MOkV yX0_fewestMinutes MX0_fewestMinutes 4 := ⟨⟨tw_989, tw_96, by decide +kernel, by decide +kernel, by decide +kernel⟩, tw_987, tw_988⟩
abbrev MX0_arrive : MX := (cX0_arrive, RX0, 5, none, { frames := 1, cells := 0, slots := 0, locals := 21 }, false)
theorem okX0_arrive : MOkV yX0_arrive MX0_arrive 3 := ⟨⟨tw_993, tw_96, by decide +kernel, by decide +kernel, by decide +kernel⟩, tw_992, tw_34⟩
abbrev MX1_init : MX := (cX1_init, RX1, 3, none, { frames := 2, cells := 17, slots := 88, locals := 40 }, true)
theorem okX1_init : MOkI yX1_init MX1_init 1 := ⟨⟨tw_387, tw_91, by decide +kernel, by decide +kernel, by decide +kernel⟩, tw_386, rfl, rfl⟩
abbrev MX1_begin : MX := (cX1_begin, RX1, 3, none, { frames := 2, cells := 0, slots := 0, locals := 47 }, false)
theorem okX1_begin : MOkV yX1_begin MX1_begin 1 := ⟨⟨tw_741, tw_91, by decide +kernel, by decide +kernel, by decide +kernel⟩, tw_739, tw_740⟩
abbrev MX1_goStep : MX := (cX1_goStep, RX1, 2, none, { frames := 3, cells := 0, slots := 0, locals := 72 }, false)
theorem okX1_goStep : MOkV yX1_goStep MX1_goStep 0 := ⟨⟨tw_768, tw_91, by decide +kernel, by decide +kernel, by decide +kernel⟩, tw_766, tw_767⟩
abbrev MX1_strew : MX := (cX1_strew, RX1, 3, none, { frames := 0, cells := 0, slots := 0, locals := 0 }, false)
theorem okX1_strew : MOkV yX1_strew MX1_strew 2 := ⟨⟨tw_818, tw_91, by decide +kernel, by decide +kernel, by decide +kernel⟩, tw_816, tw_817⟩
abbrev MX1_keepIn : MX := (cX1_keepIn, RX1, 3, none, { frames := 2, cells := 0, slots := 0, locals := 48 }, false)
theorem okX1_keepIn : MOkV yX1_keepIn MX1_keepIn 1 := ⟨⟨tw_1055, tw_91, by decide +kernel, by decide +kernel, by decide +kernel⟩, tw_1053, tw_1054⟩
abbrev MX1_takeFrom : MX := (cX1_takeFrom, RX1, 3, none, { frames := 2, cells := 0, slots := 0, locals := 48 }, false)
theorem okX1_takeFrom : MOkV yX1_takeFrom MX1_takeFrom 1 := ⟨⟨tw_1067, tw_91, by decide +kernel, by decide +kernel, by decide +kernel⟩, tw_1065, tw_1066⟩
abbrev MX2_init : MX := (cX2_init, RX2, 1, none, { frames := 2, cells := 6, slots := 135, locals := 40 }, true)
theorem okX2_init : MOkI yX2_init MX2_init 0 := ⟨⟨tw_529, tw_97, by decide +kernel, by decide +kernel, by decide +kernel⟩, tw_528, rfl, rfl⟩
abbrev MX2_clear : MX := (cX2_clear, RX2, 1, none, { frames := 0, cells := 0, slots := 0, locals := 0 }, false)
theorem okX2_clear : MOkV yX2_clear MX2_clear 0 := ⟨⟨tw_752, tw_97, by decide +kernel, by decide +kernel, by decide +kernel⟩, tw_750, tw_751⟩
abbrev MX2_add : MX := (cX2_add, RX2, 3, (some .int), { frames := 0, cells := 0, slots := 0, locals := 0 }, false)
theorem okX2_add : MOkV yX2_add MX2_add 2 := ⟨⟨tw_1015, tw_97, by decide +kernel, by decide +kernel, by decide +kernel⟩, tw_1013, tw_1014⟩
abbrev MX2_takeBack : MX := (cX2_takeBack, RX2, 3, (some .boolean), { frames := 0, cells := 0, slots := 0, locals := 0 }, false)
theorem okX2_takeBack : MOkV yX2_takeBack MX2_takeBack 2 := ⟨⟨tw_1023, tw_97, by decide +kernel, by decide +kernel, by decide +kernel⟩, tw_1021, tw_1022⟩
abbrev MX2_leftAt : MX := (cX2_leftAt, RX2, 6, (some .int), { frames := 0, cells := 0, slots := 0, locals := 0 }, false)
theorem okX2_leftAt : MOkV yX2_leftAt MX2_leftAt 2 := ⟨⟨tw_889, tw_97, by decide +kernel, by decide +kernel, by decide +kernel⟩, tw_887, tw_888⟩
abbrev MX2_lookBack : MX := (cX2_lookBack, RX2, 7, none, { frames := 3, cells := 0, slots := 0, locals := 72 }, false)
theorem okX2_lookBack : MOkV yX2_lookBack MX2_lookBack 4 := ⟨⟨tw_1002, tw_97, by decide +kernel, by decide +kernel, by decide +kernel⟩, tw_1000, tw_1001⟩
abbrev MX2_shown : MX := (cX2_shown, RX2, 2, (some .int), { frames := 0, cells := 0, slots := 0, locals := 0 }, false)
theorem okX2_shown : MOkV yX2_shown MX2_shown 1 := ⟨⟨tw_1008, tw_97, by decide +kernel, by decide +kernel, by decide +kernel⟩, tw_1006, tw_1007⟩
abbrev MX2_choose : MX := (cX2_choose, RX2, 7, none, { frames := 4, cells := 0, slots := 0, locals := 98 }, false)
theorem okX2_choose : MOkV yX2_choose MX2_choose 3 := ⟨⟨tw_1040, tw_97, by decide +kernel, by decide +kernel, by decide +kernel⟩, tw_1038, tw_1039⟩
abbrev MX2_mostAlike : MX := (cX2_mostAlike, RX2, 9, (some .int), { frames := 1, cells := 0, slots := 0, locals := 21 }, false)
theorem okX2_mostAlike : MOkV yX2_mostAlike MX2_mostAlike 3 := ⟨⟨tw_1046, tw_97, by decide +kernel, by decide +kernel, by decide +kernel⟩, tw_1045, tw_35⟩
abbrev MX3_init : MX := (cX3_init, RX3, 1, none, { frames := 1, cells := 4, slots := 654, locals := 20 }, true)
theorem okX3_init : MOkI yX3_init MX3_init 0 := ⟨⟨tw_484, tw_95, by decide +kernel, by decide +kernel, by decide +kernel⟩, tw_483, rfl, rfl⟩
abbrev MX3_forget : MX := (cX3_forget, RX3, 1, none, { frames := 0, cells := 0, slots := 0, locals := 0 }, false)
theorem okX3_forget : MOkV yX3_forget MX3_forget 0 := ⟨⟨tw_756, tw_95, by decide +kernel, by decide +kernel, by decide +kernel⟩, tw_754, tw_755⟩
abbrev MX3_goAbout : MX := (cX3_goAbout, RX3, 8, (some .boolean), { frames := 6, cells := 0, slots := 0, locals := 155 }, false)
theorem okX3_goAbout : MOkV yX3_goAbout MX3_goAbout 4 := ⟨⟨tw_923, tw_95, by decide +kernel, by decide +kernel, by decide +kernel⟩, tw_921, tw_922⟩
abbrev MX3_measure : MX := (cX3_measure, RX3, 7, none, { frames := 1, cells := 0, slots := 0, locals := 23 }, false)
theorem okX3_measure : MOkV yX3_measure MX3_measure 1 := ⟨⟨tw_933, tw_95, by decide +kernel, by decide +kernel, by decide +kernel⟩, tw_932, tw_27⟩
abbrev MX3_lineUp : MX := (cX3_lineUp, RX3, 5, (some .boolean), { frames := 0, cells := 0, slots := 0, locals := 0 }, false)
theorem okX3_lineUp : MOkV yX3_lineUp MX3_lineUp 2 := ⟨⟨tw_942, tw_95, by decide +kernel, by decide +kernel, by decide +kernel⟩, tw_941, tw_28⟩
abbrev MX3_tryOrder : MX := (cX3_tryOrder, RX3, 7, none, { frames := 5, cells := 0, slots := 0, locals := 129 }, false)
theorem okX3_tryOrder : MOkV yX3_tryOrder MX3_tryOrder 4 := ⟨⟨tw_949, tw_95, by decide +kernel, by decide +kernel, by decide +kernel⟩, tw_948, tw_29⟩
abbrev MX3_minutesTo : MX := (cX3_minutesTo, RX3, 4, (some .int), { frames := 0, cells := 0, slots := 0, locals := 0 }, false)
theorem okX3_minutesTo : MOkV yX3_minutesTo MX3_minutesTo 2 := ⟨⟨tw_953, tw_95, by decide +kernel, by decide +kernel, by decide +kernel⟩, tw_952, tw_30⟩
abbrev MX3_countWhite : MX := (cX3_countWhite, RX3, 10, (some .int), { frames := 4, cells := 0, slots := 0, locals := 100 }, false)
theorem okX3_countWhite : MOkV yX3_countWhite MX3_countWhite 4 := ⟨⟨tw_957, tw_95, by decide +kernel, by decide +kernel, by decide +kernel⟩, tw_956, tw_31⟩
abbrev MX3_nextOrder : MX := (cX3_nextOrder, RX3, 6, (some .boolean), { frames := 1, cells := 0, slots := 0, locals := 23 }, false)
theorem okX3_nextOrder : MOkV yX3_nextOrder MX3_nextOrder 1 := ⟨⟨tw_963, tw_95, by decide +kernel, by decide +kernel, by decide +kernel⟩, tw_962, tw_32⟩
abbrev MX3_swap : MX := (cX3_swap, RX3, 4, none, { frames := 0, cells := 0, slots := 0, locals := 0 }, false)
theorem okX3_swap : MOkV yX3_swap MX3_swap 2 := ⟨⟨tw_967, tw_95, by decide +kernel, by decide +kernel, by decide +kernel⟩, tw_966, tw_33⟩
abbrev MX4_init : MX := (cX4_init, RX4, 1, none, { frames := 1, cells := 1, slots := 5, locals := 20 }, true)
theorem okX4_init : MOkI yX4_init MX4_init 0 := ⟨⟨tw_394, tw_92, by decide +kernel, by decide +kernel, by decide +kernel⟩, tw_393, rfl, rfl⟩
abbrev MX4_begin : MX := (cX4_begin, RX4, 2, none, { frames := 1, cells := 0, slots := 0, locals := 26 }, false)
theorem okX4_begin : MOkV yX4_begin MX4_begin 1 := ⟨⟨tw_745, tw_92, by decide +kernel, by decide +kernel, by decide +kernel⟩, tw_743, tw_744⟩
abbrev MX4_copy : MX := (cX4_copy, RX4, 2, none, { frames := 1, cells := 0, slots := 0, locals := 26 }, false)
theorem okX4_copy : MOkV yX4_copy MX4_copy 1 := ⟨⟨tw_855, tw_92, by decide +kernel, by decide +kernel, by decide +kernel⟩, tw_853, tw_854⟩
abbrev MX4_keepIn : MX := (cX4_keepIn, RX4, 3, none, { frames := 1, cells := 0, slots := 0, locals := 26 }, false)
theorem okX4_keepIn : MOkV yX4_keepIn MX4_keepIn 2 := ⟨⟨tw_1059, tw_92, by decide +kernel, by decide +kernel, by decide +kernel⟩, tw_1057, tw_1058⟩
abbrev MX4_takeFrom : MX := (cX4_takeFrom, RX4, 3, none, { frames := 1, cells := 0, slots := 0, locals := 26 }, false)
theorem okX4_takeFrom : MOkV yX4_takeFrom MX4_takeFrom 2 := ⟨⟨tw_1071, tw_92, by decide +kernel, by decide +kernel, by decide +kernel⟩, tw_1069, tw_1070⟩
abbrev MX4_isWhite : MX := (cX4_isWhite, RX4, 1, (some .boolean), { frames := 0, cells := 0, slots := 0, locals := 0 }, false)
theorem okX4_isWhite : MOkV yX4_isWhite MX4_isWhite 0 := ⟨⟨tw_826, tw_92, by decide +kernel, by decide +kernel, by decide +kernel⟩, tw_824, tw_825⟩
abbrev MX4_isBlocked : MX := (cX4_isBlocked, RX4, 2, (some .boolean), { frames := 0, cells := 0, slots := 0, locals := 0 }, false)
theorem okX4_isBlocked : MOkV yX4_isBlocked MX4_isBlocked 1 := ⟨⟨tw_830, tw_92, by decide +kernel, by decide +kernel, by decide +kernel⟩, tw_828, tw_829⟩
abbrev MX4_goStep : MX := (cX4_goStep, RX4, 8, none, { frames := 2, cells := 0, slots := 0, locals := 45 }, false)
theorem okX4_goStep : MOkV yX4_goStep MX4_goStep 4 := ⟨⟨tw_772, tw_92, by decide +kernel, by decide +kernel, by decide +kernel⟩, tw_770, tw_771⟩
abbrev MX4_warmBy : MX := (cX4_warmBy, RX4, 6, none, { frames := 0, cells := 0, slots := 0, locals := 0 }, false)
theorem okX4_warmBy : MOkV yX4_warmBy MX4_warmBy 2 := ⟨⟨tw_784, tw_92, by decide +kernel, by decide +kernel, by decide +kernel⟩, tw_783, tw_20⟩
abbrev MX4_meltOrFreeze : MX := (cX4_meltOrFreeze, RX4, 5, none, { frames := 1, cells := 0, slots := 0, locals := 21 }, false)
theorem okX4_meltOrFreeze : MOkV yX4_meltOrFreeze MX4_meltOrFreeze 0 := ⟨⟨tw_790, tw_92, by decide +kernel, by decide +kernel, by decide +kernel⟩, tw_789, tw_21⟩
abbrev MX4_runOff : MX := (cX4_runOff, RX4, 3, none, { frames := 0, cells := 0, slots := 0, locals := 0 }, false)
theorem okX4_runOff : MOkV yX4_runOff MX4_runOff 1 := ⟨⟨tw_798, tw_92, by decide +kernel, by decide +kernel, by decide +kernel⟩, tw_797, tw_22⟩
abbrev MX5_init : MX := (cX5_init, RX5, 2, none, { frames := 2, cells := 25, slots := 194, locals := 40 }, true)
theorem okX5_init : MOkI yX5_init MX5_init 0 := ⟨⟨tw_115, tw_83, by decide +kernel, by decide +kernel, by decide +kernel⟩, tw_114, rfl, rfl⟩
abbrev MX5_clear : MX := (cX5_clear, RX5, 1, none, { frames := 0, cells := 0, slots := 0, locals := 0 }, false)
theorem okX5_clear : MOkV yX5_clear MX5_clear 0 := ⟨⟨tw_157, tw_83, by decide +kernel, by decide +kernel, by decide +kernel⟩, tw_155, tw_156⟩
abbrev MX5_yardNamed : MX := (cX5_yardNamed, RX5, 4, (some .int), { frames := 0, cells := 0, slots := 0, locals := 0 }, false)
theorem okX5_yardNamed : MOkV yX5_yardNamed MX5_yardNamed 1 := ⟨⟨tw_681, tw_83, by decide +kernel, by decide +kernel, by decide +kernel⟩, tw_679, tw_680⟩
abbrev MX5_hasWay : MX := (cX5_hasWay, RX5, 4, (some .boolean), { frames := 0, cells := 0, slots := 0, locals := 0 }, false)
theorem okX5_hasWay : MOkV yX5_hasWay MX5_hasWay 2 := ⟨⟨tw_717, tw_83, by decide +kernel, by decide +kernel, by decide +kernel⟩, tw_715, tw_716⟩
abbrev MX5_hasSlip : MX := (cX5_hasSlip, RX5, 3, (some .boolean), { frames := 0, cells := 0, slots := 0, locals := 0 }, false)
theorem okX5_hasSlip : MOkV yX5_hasSlip MX5_hasSlip 1 := ⟨⟨tw_729, tw_83, by decide +kernel, by decide +kernel, by decide +kernel⟩, tw_727, tw_728⟩
abbrev MX5_hourOf : MX := (cX5_hourOf, RX5, 2, (some .int), { frames := 1, cells := 0, slots := 0, locals := 21 }, false)
theorem okX5_hourOf : MOkV yX5_hourOf MX5_hourOf 1 := ⟨⟨tw_776, tw_83, by decide +kernel, by decide +kernel, by decide +kernel⟩, tw_774, tw_775⟩
abbrev MX5_snowlessFrom : MX := (cX5_snowlessFrom, RX5, 2, (some .int), { frames := 0, cells := 0, slots := 0, locals := 0 }, false)
theorem okX5_snowlessFrom : MOkV yX5_snowlessFrom MX5_snowlessFrom 0 := ⟨⟨tw_850, tw_83, by decide +kernel, by decide +kernel, by decide +kernel⟩, tw_848, tw_849⟩
abbrev MX5_weightOf : MX := (cX5_weightOf, RX5, 4, (some .int), { frames := 0, cells := 0, slots := 0, locals := 0 }, false)
theorem okX5_weightOf : MOkV yX5_weightOf MX5_weightOf 1 := ⟨⟨tw_893, tw_83, by decide +kernel, by decide +kernel, by decide +kernel⟩, tw_891, tw_892⟩
abbrev MX6_init : MX := (cX6_init, RX6, 6, none, { frames := 5, cells := 2, slots := 20, locals := 106 }, true)
theorem okX6_init : MOkI yX6_init MX6_init 0 := ⟨⟨tw_277, tw_86, by decide +kernel, by decide +kernel, by decide +kernel⟩, tw_276, rfl, rfl⟩
abbrev MX6_begin : MX := (cX6_begin, RX6, 3, none, { frames := 3, cells := 0, slots := 0, locals := 63 }, false)
theorem okX6_begin : MOkV yX6_begin MX6_begin 2 := ⟨⟨tw_635, tw_86, by decide +kernel, by decide +kernel, by decide +kernel⟩, tw_633, tw_634⟩
abbrev MX6_advance : MX := (cX6_advance, RX6, 1, none, { frames := 2, cells := 0, slots := 0, locals := 43 }, false)
theorem okX6_advance : MOkV yX6_advance MX6_advance 0 := ⟨⟨tw_642, tw_86, by decide +kernel, by decide +kernel, by decide +kernel⟩, tw_640, tw_641⟩
abbrev MX6_scanWord : MX := (cX6_scanWord, RX6, 1, none, { frames := 1, cells := 0, slots := 0, locals := 23 }, false)
theorem okX6_scanWord : MOkV yX6_scanWord MX6_scanWord 0 := ⟨⟨tw_649, tw_86, by decide +kernel, by decide +kernel, by decide +kernel⟩, tw_648, tw_1⟩
abbrev MX6_scanNumber : MX := (cX6_scanNumber, RX6, 2, none, { frames := 1, cells := 0, slots := 0, locals := 20 }, false)
theorem okX6_scanNumber : MOkV yX6_scanNumber MX6_scanNumber 0 := ⟨⟨tw_660, tw_86, by decide +kernel, by decide +kernel, by decide +kernel⟩, tw_659, tw_3⟩
abbrev MX6_keywordWith : MX := (cX6_keywordWith, RX6, 4, (some .int), { frames := 0, cells := 0, slots := 0, locals := 0 }, false)
theorem okX6_keywordWith : MOkV yX6_keywordWith MX6_keywordWith 1 := ⟨⟨tw_653, tw_86, by decide +kernel, by decide +kernel, by decide +kernel⟩, tw_652, tw_2⟩
abbrev MX6_isLetter : MX := (cX6_isLetter, RX6, 1, (some .boolean), { frames := 0, cells := 0, slots := 0, locals := 0 }, false)
theorem okX6_isLetter : MOkS yX6_isLetter MX6_isLetter 1 := ⟨⟨tw_645, tw_86, by decide +kernel, by decide +kernel, by decide +kernel⟩, tw_644⟩
abbrev MX6_isDigit : MX := (cX6_isDigit, RX6, 1, (some .boolean), { frames := 0, cells := 0, slots := 0, locals := 0 }, false)
theorem okX6_isDigit : MOkS yX6_isDigit MX6_isDigit 1 := ⟨⟨tw_656, tw_86, by decide +kernel, by decide +kernel, by decide +kernel⟩, tw_655⟩
abbrev MX6_withLetter : MX := (cX6_withLetter, RX6, 3, (some .long), { frames := 0, cells := 0, slots := 0, locals := 0 }, false)
theorem okX6_withLetter : MOkS yX6_withLetter MX6_withLetter 2 := ⟨⟨tw_330, tw_86, by decide +kernel, by decide +kernel, by decide +kernel⟩, tw_329⟩
abbrev MX7_init : MX := (cX7_init, RX7, 1, none, { frames := 2, cells := 2, slots := 10, locals := 40 }, true)
theorem okX7_init : MOkI yX7_init MX7_init 0 := ⟨⟨tw_451, tw_93, by decide +kernel, by decide +kernel, by decide +kernel⟩, tw_450, rfl, rfl⟩
abbrev MX7_firstWhite : MX := (cX7_firstWhite, RX7, 9, (some .int), { frames := 3, cells := 0, slots := 0, locals := 72 }, false)
theorem okX7_firstWhite : MOkV yX7_firstWhite MX7_firstWhite 5 := ⟨⟨tw_846, tw_93, by decide +kernel, by decide +kernel, by decide +kernel⟩, tw_844, tw_845⟩
abbrev MX7_lastInTime : MX := (cX7_lastInTime, RX7, 5, (some .int), { frames := 4, cells := 0, slots := 0, locals := 100 }, false)
theorem okX7_lastInTime : MOkV yX7_lastInTime MX7_lastInTime 3 := ⟨⟨tw_880, tw_93, by decide +kernel, by decide +kernel, by decide +kernel⟩, tw_878, tw_879⟩
abbrev MX7_snowBehind : MX := (cX7_snowBehind, RX7, 6, (some .int), { frames := 3, cells := 0, slots := 0, locals := 72 }, false)
theorem okX7_snowBehind : MOkV yX7_snowBehind MX7_snowBehind 4 := ⟨⟨tw_865, tw_93, by decide +kernel, by decide +kernel, by decide +kernel⟩, tw_863, tw_864⟩
abbrev MX7_markBlocked : MX := (cX7_markBlocked, RX7, 6, none, { frames := 3, cells := 0, slots := 0, locals := 72 }, false)
theorem okX7_markBlocked : MOkV yX7_markBlocked MX7_markBlocked 3 := ⟨⟨tw_984, tw_93, by decide +kernel, by decide +kernel, by decide +kernel⟩, tw_982, tw_983⟩
abbrev MX8_init : MX := (cX8_init, RX8, 2, none, { frames := 6, cells := 3, slots := 29, locals := 131 }, true)
theorem okX8_init : MOkI yX8_init MX8_init 1 := ⟨⟨tw_271, tw_85, by decide +kernel, by decide +kernel, by decide +kernel⟩, tw_270, rfl, rfl⟩
abbrev MX8_parse : MX := (cX8_parse, RX8, 5, (some .boolean), { frames := 6, cells := 0, slots := 0, locals := 132 }, false)
theorem okX8_parse : MOkV yX8_parse MX8_parse 3 := ⟨⟨tw_630, tw_85, by decide +kernel, by decide +kernel, by decide +kernel⟩, tw_628, tw_629⟩
abbrev MX8_parseYard : MX := (cX8_parseYard, RX8, 3, none, { frames := 5, cells := 0, slots := 0, locals := 109 }, false)
theorem okX8_parseYard : MOkV yX8_parseYard MX8_parseYard 0 := ⟨⟨tw_664, tw_85, by decide +kernel, by decide +kernel, by decide +kernel⟩, tw_663, tw_4⟩
abbrev MX8_parseLayers : MX := (cX8_parseLayers, RX8, 3, none, { frames := 4, cells := 0, slots := 0, locals := 87 }, false)
theorem okX8_parseLayers : MOkV yX8_parseLayers MX8_parseLayers 1 := ⟨⟨tw_697, tw_85, by decide +kernel, by decide +kernel, by decide +kernel⟩, tw_696, tw_11⟩
abbrev MX8_parseWay : MX := (cX8_parseWay, RX8, 4, none, { frames := 5, cells := 0, slots := 0, locals := 109 }, false)
theorem okX8_parseWay : MOkV yX8_parseWay MX8_parseWay 0 := ⟨⟨tw_709, tw_85, by decide +kernel, by decide +kernel, by decide +kernel⟩, tw_708, tw_14⟩
abbrev MX8_parseHour : MX := (cX8_parseHour, RX8, 1, none, { frames := 4, cells := 0, slots := 0, locals := 87 }, false)
theorem okX8_parseHour : MOkV yX8_parseHour MX8_parseHour 0 := ⟨⟨tw_721, tw_85, by decide +kernel, by decide +kernel, by decide +kernel⟩, tw_720, tw_16⟩
abbrev MX8_parseSlip : MX := (cX8_parseSlip, RX8, 2, none, { frames := 4, cells := 0, slots := 0, locals := 87 }, false)
theorem okX8_parseSlip : MOkV yX8_parseSlip MX8_parseSlip 0 := ⟨⟨tw_725, tw_85, by decide +kernel, by decide +kernel, by decide +kernel⟩, tw_724, tw_17⟩
abbrev MX8_parseOnce : MX := (cX8_parseOnce, RX8, 3, none, { frames := 5, cells := 0, slots := 0, locals := 109 }, false)
theorem okX8_parseOnce : MOkV yX8_parseOnce MX8_parseOnce 1 := ⟨⟨tw_733, tw_85, by decide +kernel, by decide +kernel, by decide +kernel⟩, tw_732, tw_18⟩
abbrev MX8_takeSemicolon : MX := (cX8_takeSemicolon, RX8, 1, none, { frames := 3, cells := 0, slots := 0, locals := 63 }, false)
theorem okX8_takeSemicolon : MOkV yX8_takeSemicolon MX8_takeSemicolon 0 := ⟨⟨tw_737, tw_85, by decide +kernel, by decide +kernel, by decide +kernel⟩, tw_736, tw_19⟩
abbrev MX8_takeKeyword : MX := (cX8_takeKeyword, RX8, 2, none, { frames := 3, cells := 0, slots := 0, locals := 63 }, false)
theorem okX8_takeKeyword : MOkV yX8_takeKeyword MX8_takeKeyword 1 := ⟨⟨tw_689, tw_85, by decide +kernel, by decide +kernel, by decide +kernel⟩, tw_688, tw_9⟩
abbrev MX8_takeSort : MX := (cX8_takeSort, RX8, 2, (some .int), { frames := 3, cells := 0, slots := 0, locals := 63 }, false)
theorem okX8_takeSort : MOkV yX8_takeSort MX8_takeSort 0 := ⟨⟨tw_685, tw_85, by decide +kernel, by decide +kernel, by decide +kernel⟩, tw_684, tw_8⟩
abbrev MX8_takeName : MX := (cX8_takeName, RX8, 3, (some .long), { frames := 3, cells := 0, slots := 0, locals := 63 }, false)
theorem okX8_takeName : MOkV yX8_takeName MX8_takeName 0 := ⟨⟨tw_677, tw_85, by decide +kernel, by decide +kernel, by decide +kernel⟩, tw_676, tw_7⟩
abbrev MX8_takeYard : MX := (cX8_takeYard, RX8, 5, (some .int), { frames := 4, cells := 0, slots := 0, locals := 85 }, false)
theorem okX8_takeYard : MOkV yX8_takeYard MX8_takeYard 0 := ⟨⟨tw_713, tw_85, by decide +kernel, by decide +kernel, by decide +kernel⟩, tw_712, tw_15⟩
abbrev MX8_takeNumber : MX := (cX8_takeNumber, RX8, 4, (some .int), { frames := 3, cells := 0, slots := 0, locals := 63 }, false)
theorem okX8_takeNumber : MOkV yX8_takeNumber MX8_takeNumber 2 := ⟨⟨tw_693, tw_85, by decide +kernel, by decide +kernel, by decide +kernel⟩, tw_692, tw_10⟩
abbrev MX8_isValueNext : MX := (cX8_isValueNext, RX8, 1, (some .boolean), { frames := 0, cells := 0, slots := 0, locals := 0 }, false)
theorem okX8_isValueNext : MOkV yX8_isValueNext MX8_isValueNext 0 := ⟨⟨tw_705, tw_85, by decide +kernel, by decide +kernel, by decide +kernel⟩, tw_704, tw_13⟩
abbrev MX8_takeValue : MX := (cX8_takeValue, RX8, 5, (some .int), { frames := 3, cells := 0, slots := 0, locals := 63 }, false)
theorem okX8_takeValue : MOkV yX8_takeValue MX8_takeValue 2 := ⟨⟨tw_701, tw_85, by decide +kernel, by decide +kernel, by decide +kernel⟩, tw_700, tw_12⟩
abbrev MX8_refuseToken : MX := (cX8_refuseToken, RX8, 1, none, { frames := 1, cells := 0, slots := 0, locals := 22 }, false)
theorem okX8_refuseToken : MOkV yX8_refuseToken MX8_refuseToken 0 := ⟨⟨tw_668, tw_85, by decide +kernel, by decide +kernel, by decide +kernel⟩, tw_667, tw_5⟩
abbrev MX8_refuse : MX := (cX8_refuse, RX8, 3, none, { frames := 0, cells := 0, slots := 0, locals := 0 }, false)
theorem okX8_refuse : MOkV yX8_refuse MX8_refuse 2 := ⟨⟨tw_672, tw_85, by decide +kernel, by decide +kernel, by decide +kernel⟩, tw_671, tw_6⟩
abbrev MX9_init : MX := (cX9_init, RX9, 1, none, { frames := 1, cells := 0, slots := 0, locals := 20 }, true)
theorem okX9_init : MOkI yX9_init MX9_init 0 := ⟨⟨tw_463, tw_94, by decide +kernel, by decide +kernel, by decide +kernel⟩, tw_462, rfl, rfl⟩
abbrev MX9_weigh : MX := (cX9_weigh, RX9, 10, none, { frames := 5, cells := 0, slots := 0, locals := 130 }, false)
theorem okX9_weigh : MOkV yX9_weigh MX9_weigh 5 := ⟨⟨tw_908, tw_94, by decide +kernel, by decide +kernel, by decide +kernel⟩, tw_906, tw_907⟩
abbrev MX9_sumHarm : MX := (cX9_sumHarm, RX9, 11, (some .int), { frames := 4, cells := 0, slots := 0, locals := 100 }, false)
theorem okX9_sumHarm : MOkV yX9_sumHarm MX9_sumHarm 5 := ⟨⟨tw_914, tw_94, by decide +kernel, by decide +kernel, by decide +kernel⟩, tw_913, tw_26⟩
abbrev MX10_init : MX := (cX10_init, RX10, 1, none, { frames := 1, cells := 1, slots := 5, locals := 20 }, true)
theorem okX10_init : MOkI yX10_init MX10_init 0 := ⟨⟨tw_122, tw_84, by decide +kernel, by decide +kernel, by decide +kernel⟩, tw_121, rfl, rfl⟩
abbrev MX11_init : MX := (cX11_init, RX11, 1, none, { frames := 7, cells := 99, slots := 4098, locals := 152 }, true)
theorem okX11_init : MOkI yX11_init MX11_init 0 := ⟨⟨tw_107, tw_82, by decide +kernel, by decide +kernel, by decide +kernel⟩, tw_106, rfl, rfl⟩
abbrev MX11_feed : MX := (cX11_feed, RX11, 6, (some .int), { frames := 1, cells := 0, slots := 0, locals := 22 }, false)
theorem okX11_feed : MOkV yX11_feed MX11_feed 5 := ⟨⟨tw_614, tw_82, by decide +kernel, by decide +kernel, by decide +kernel⟩, tw_612, tw_613⟩
abbrev MX11_end : MX := (cX11_end, RX11, 2, (some .int), { frames := 0, cells := 0, slots := 0, locals := 0 }, false)
theorem okX11_end : MOkV yX11_end MX11_end 1 := ⟨⟨tw_622, tw_82, by decide +kernel, by decide +kernel, by decide +kernel⟩, tw_620, tw_621⟩
abbrev MX11_land : MX := (cX11_land, RX11, 4, (some .int), { frames := 7, cells := 0, slots := 0, locals := 156 }, false)
theorem okX11_land : MOkV yX11_land MX11_land 0 := ⟨⟨tw_626, tw_82, by decide +kernel, by decide +kernel, by decide +kernel⟩, tw_624, tw_625⟩
abbrev MX11_fault : MX := (cX11_fault, RX11, 2, (some .int), { frames := 0, cells := 0, slots := 0, locals := 0 }, false)
theorem okX11_fault : MOkV yX11_fault MX11_fault 1 := ⟨⟨tw_760, tw_82, by decide +kernel, by decide +kernel, by decide +kernel⟩, tw_758, tw_759⟩
abbrev MX11_run : MX := (cX11_run, RX11, 3, (some .int), { frames := 4, cells := 0, slots := 0, locals := 93 }, false)
theorem okX11_run : MOkV yX11_run MX11_run 1 := ⟨⟨tw_764, tw_82, by decide +kernel, by decide +kernel, by decide +kernel⟩, tw_762, tw_763⟩
abbrev MX11_shift : MX := (cX11_shift, RX11, 3, (some .int), { frames := 1, cells := 0, slots := 0, locals := 20 }, false)
theorem okX11_shift : MOkV yX11_shift MX11_shift 1 := ⟨⟨tw_802, tw_82, by decide +kernel, by decide +kernel, by decide +kernel⟩, tw_800, tw_801⟩
abbrev MX11_spread : MX := (cX11_spread, RX11, 3, (some .int), { frames := 1, cells := 0, slots := 0, locals := 22 }, false)
theorem okX11_spread : MOkV yX11_spread MX11_spread 2 := ⟨⟨tw_810, tw_82, by decide +kernel, by decide +kernel, by decide +kernel⟩, tw_808, tw_809⟩
abbrev MX11_yard : MX := (cX11_yard, RX11, 5, (some .int), { frames := 1, cells := 0, slots := 0, locals := 21 }, false)
theorem okX11_yard : MOkV yX11_yard MX11_yard 2 := ⟨⟨tw_822, tw_82, by decide +kernel, by decide +kernel, by decide +kernel⟩, tw_820, tw_821⟩
abbrev MX11_warm : MX := (cX11_warm, RX11, 3, (some .int), { frames := 2, cells := 0, slots := 0, locals := 43 }, false)
theorem okX11_warm : MOkV yX11_warm MX11_warm 2 := ⟨⟨tw_834, tw_82, by decide +kernel, by decide +kernel, by decide +kernel⟩, tw_832, tw_833⟩
abbrev MX11_when : MX := (cX11_when, RX11, 3, (some .int), { frames := 4, cells := 0, slots := 0, locals := 100 }, false)
theorem okX11_when : MOkV yX11_when MX11_when 2 := ⟨⟨tw_842, tw_82, by decide +kernel, by decide +kernel, by decide +kernel⟩, tw_840, tw_841⟩
abbrev MX11_deep : MX := (cX11_deep, RX11, 4, (some .int), { frames := 4, cells := 0, slots := 0, locals := 97 }, false)
theorem okX11_deep : MOkV yX11_deep MX11_deep 3 := ⟨⟨tw_861, tw_82, by decide +kernel, by decide +kernel, by decide +kernel⟩, tw_859, tw_860⟩
abbrev MX11_least : MX := (cX11_least, RX11, 4, (some .int), { frames := 4, cells := 0, slots := 0, locals := 100 }, false)
theorem okX11_least : MOkV yX11_least MX11_least 2 := ⟨⟨tw_869, tw_82, by decide +kernel, by decide +kernel, by decide +kernel⟩, tw_867, tw_868⟩
abbrev MX11_latest : MX := (cX11_latest, RX11, 5, (some .int), { frames := 5, cells := 0, slots := 0, locals := 124 }, false)
theorem okX11_latest : MOkV yX11_latest MX11_latest 3 := ⟨⟨tw_873, tw_82, by decide +kernel, by decide +kernel, by decide +kernel⟩, tw_871, tw_872⟩
abbrev MX11_odds : MX := (cX11_odds, RX11, 7, (some .int), { frames := 4, cells := 0, slots := 0, locals := 100 }, false)
theorem okX11_odds : MOkV yX11_odds MX11_odds 3 := ⟨⟨tw_885, tw_82, by decide +kernel, by decide +kernel, by decide +kernel⟩, tw_883, tw_884⟩
abbrev MX11_plan : MX := (cX11_plan, RX11, 6, (some .int), { frames := 6, cells := 0, slots := 0, locals := 159 }, false)
theorem okX11_plan : MOkV yX11_plan MX11_plan 4 := ⟨⟨tw_900, tw_82, by decide +kernel, by decide +kernel, by decide +kernel⟩, tw_898, tw_899⟩
abbrev MX11_round : MX := (cX11_round, RX11, 4, (some .int), { frames := 7, cells := 0, slots := 0, locals := 182 }, false)
theorem okX11_round : MOkV yX11_round MX11_round 3 := ⟨⟨tw_919, tw_82, by decide +kernel, by decide +kernel, by decide +kernel⟩, tw_917, tw_918⟩
abbrev MX11_lies : MX := (cX11_lies, RX11, 2, (some .int), { frames := 0, cells := 0, slots := 0, locals := 0 }, false)
theorem okX11_lies : MOkV yX11_lies MX11_lies 1 := ⟨⟨tw_971, tw_82, by decide +kernel, by decide +kernel, by decide +kernel⟩, tw_969, tw_970⟩
abbrev MX11_open : MX := (cX11_open, RX11, 4, (some .int), { frames := 5, cells := 0, slots := 0, locals := 120 }, false)
theorem okX11_open : MOkV yX11_open MX11_open 3 := ⟨⟨tw_975, tw_82, by decide +kernel, by decide +kernel, by decide +kernel⟩, tw_973, tw_974⟩
abbrev MX11_read : MX := (cX11_read, RX11, 8, (some .int), { frames := 4, cells := 0, slots := 0, locals := 98 }, false)
theorem okX11_read : MOkV yX11_read MX11_read 5 := ⟨⟨tw_998, tw_82, by decide +kernel, by decide +kernel, by decide +kernel⟩, tw_996, tw_997⟩
abbrev MX11_untell : MX := (cX11_untell, RX11, 2, (some .boolean), { frames := 1, cells := 0, slots := 0, locals := 22 }, false)
theorem okX11_untell : MOkV yX11_untell MX11_untell 1 := ⟨⟨tw_1019, tw_82, by decide +kernel, by decide +kernel, by decide +kernel⟩, tw_1017, tw_1018⟩
abbrev MX11_later : MX := (cX11_later, RX11, 2, (some .int), { frames := 0, cells := 0, slots := 0, locals := 0 }, false)
theorem okX11_later : MOkV yX11_later MX11_later 1 := ⟨⟨tw_1027, tw_82, by decide +kernel, by decide +kernel, by decide +kernel⟩, tw_1025, tw_1026⟩
abbrev MX11_left : MX := (cX11_left, RX11, 2, (some .int), { frames := 1, cells := 0, slots := 0, locals := 25 }, false)
theorem okX11_left : MOkV yX11_left MX11_left 1 := ⟨⟨tw_1032, tw_82, by decide +kernel, by decide +kernel, by decide +kernel⟩, tw_1030, tw_1031⟩
abbrev MX11_tells : MX := (cX11_tells, RX11, 5, (some .int), { frames := 5, cells := 0, slots := 0, locals := 124 }, false)
theorem okX11_tells : MOkV yX11_tells MX11_tells 3 := ⟨⟨tw_1036, tw_82, by decide +kernel, by decide +kernel, by decide +kernel⟩, tw_1034, tw_1035⟩
abbrev MX11_image : MX := (cX11_image, RX11, 2, (some .int), { frames := 3, cells := 0, slots := 0, locals := 70 }, false)
theorem okX11_image : MOkV yX11_image MX11_image 1 := ⟨⟨tw_1051, tw_82, by decide +kernel, by decide +kernel, by decide +kernel⟩, tw_1049, tw_1050⟩
abbrev MX11_back : MX := (cX11_back, RX11, 2, (some .int), { frames := 3, cells := 0, slots := 0, locals := 70 }, false)
theorem okX11_back : MOkV yX11_back MX11_back 1 := ⟨⟨tw_1063, tw_82, by decide +kernel, by decide +kernel, by decide +kernel⟩, tw_1061, tw_1062⟩
abbrev MX11_about : MX := (cX11_about, RX11, 2, (some .int), { frames := 0, cells := 0, slots := 0, locals := 0 }, false)
theorem okX11_about : MOkV yX11_about MX11_about 1 := ⟨⟨tw_1075, tw_82, by decide +kernel, by decide +kernel, by decide +kernel⟩, tw_1073, tw_1074⟩
abbrev MX11_append : MX := (cX11_append, RX11, 3, none, { frames := 0, cells := 0, slots := 0, locals := 0 }, false)
theorem okX11_append : MOkV yX11_append MX11_append 1 := ⟨⟨tw_618, tw_82, by decide +kernel, by decide +kernel, by decide +kernel⟩, tw_617, tw_0⟩
abbrev MX11_isYard : MX := (cX11_isYard, RX11, 2, (some .boolean), { frames := 0, cells := 0, slots := 0, locals := 0 }, false)
theorem okX11_isYard : MOkV yX11_isYard MX11_isYard 1 := ⟨⟨tw_814, tw_82, by decide +kernel, by decide +kernel, by decide +kernel⟩, tw_813, tw_23⟩
abbrev MX11_isLayer : MX := (cX11_isLayer, RX11, 3, (some .boolean), { frames := 1, cells := 0, slots := 0, locals := 21 }, false)
theorem okX11_isLayer : MOkV yX11_isLayer MX11_isLayer 2 := ⟨⟨tw_838, tw_82, by decide +kernel, by decide +kernel, by decide +kernel⟩, tw_837, tw_24⟩
abbrev MX11_isSet : MX := (cX11_isSet, RX11, 2, (some .boolean), { frames := 0, cells := 0, slots := 0, locals := 0 }, false)
theorem okX11_isSet : MOkV yX11_isSet MX11_isSet 1 := ⟨⟨tw_904, tw_82, by decide +kernel, by decide +kernel, by decide +kernel⟩, tw_903, tw_25⟩
abbrev MX11_isShift : MX := (cX11_isShift, RX11, 1, (some .boolean), { frames := 0, cells := 0, slots := 0, locals := 0 }, false)
theorem okX11_isShift : MOkS yX11_isShift MX11_isShift 1 := ⟨⟨tw_805, tw_82, by decide +kernel, by decide +kernel, by decide +kernel⟩, tw_804⟩
abbrev MX11_isSalt : MX := (cX11_isSalt, RX11, 1, (some .boolean), { frames := 0, cells := 0, slots := 0, locals := 0 }, false)
theorem okX11_isSalt : MOkS yX11_isSalt MX11_isSalt 1 := ⟨⟨tw_876, tw_82, by decide +kernel, by decide +kernel, by decide +kernel⟩, tw_875⟩
abbrev MX11_lowest : MX := (cX11_lowest, RX11, 7, (some .int), { frames := 0, cells := 0, slots := 0, locals := 0 }, false)
theorem okX11_lowest : MOkS yX11_lowest MX11_lowest 3 := ⟨⟨tw_896, tw_82, by decide +kernel, by decide +kernel, by decide +kernel⟩, tw_895⟩
abbrev MX12_init : MX := (cX12_init, RX12, 1, none, { frames := 1, cells := 45, slots := 4050, locals := 20 }, true)
theorem okX12_init : MOkI yX12_init MX12_init 0 := ⟨⟨tw_1080, tw_98, by decide +kernel, by decide +kernel, by decide +kernel⟩, tw_1079, rfl, rfl⟩
abbrev MX12_feed : MX := (cX12_feed, RX12, 6, (some .int), { frames := 1, cells := 0, slots := 0, locals := 22 }, false)
theorem okX12_feed : MOkV yX12_feed MX12_feed 5 := ⟨⟨tw_1323, tw_98, by decide +kernel, by decide +kernel, by decide +kernel⟩, tw_1321, tw_1322⟩
abbrev MX12_four : MX := (cX12_four, RX12, 3, none, { frames := 0, cells := 0, slots := 0, locals := 0 }, false)
theorem okX12_four : MOkV yX12_four MX12_four 1 := ⟨⟨tw_1327, tw_98, by decide +kernel, by decide +kernel, by decide +kernel⟩, tw_1326, tw_36⟩
abbrev MX12_end : MX := (cX12_end, RX12, 2, (some .int), { frames := 0, cells := 0, slots := 0, locals := 0 }, false)
theorem okX12_end : MOkV yX12_end MX12_end 1 := ⟨⟨tw_1331, tw_98, by decide +kernel, by decide +kernel, by decide +kernel⟩, tw_1329, tw_1330⟩
abbrev MX12_here : MX := (cX12_here, RX12, 2, (some .int), { frames := 0, cells := 0, slots := 0, locals := 0 }, false)
theorem okX12_here : MOkV yX12_here MX12_here 1 := ⟨⟨tw_1347, tw_98, by decide +kernel, by decide +kernel, by decide +kernel⟩, tw_1346, tw_39⟩
abbrev MX12_isLetter : MX := (cX12_isLetter, RX12, 1, (some .boolean), { frames := 0, cells := 0, slots := 0, locals := 0 }, false)
theorem okX12_isLetter : MOkS yX12_isLetter MX12_isLetter 1 := ⟨⟨tw_1350, tw_98, by decide +kernel, by decide +kernel, by decide +kernel⟩, tw_1349⟩
abbrev MX12_isDigit : MX := (cX12_isDigit, RX12, 1, (some .boolean), { frames := 0, cells := 0, slots := 0, locals := 0 }, false)
theorem okX12_isDigit : MOkS yX12_isDigit MX12_isDigit 1 := ⟨⟨tw_1353, tw_98, by decide +kernel, by decide +kernel, by decide +kernel⟩, tw_1352⟩
abbrev MX12_token : MX := (cX12_token, RX12, 3, none, { frames := 1, cells := 0, slots := 0, locals := 21 }, false)
theorem okX12_token : MOkV yX12_token MX12_token 0 := ⟨⟨tw_1343, tw_98, by decide +kernel, by decide +kernel, by decide +kernel⟩, tw_1342, tw_38⟩
abbrev MX12_wrongAt : MX := (cX12_wrongAt, RX12, 3, none, { frames := 0, cells := 0, slots := 0, locals := 0 }, false)
theorem okX12_wrongAt : MOkV yX12_wrongAt MX12_wrongAt 2 := ⟨⟨tw_1397, tw_98, by decide +kernel, by decide +kernel, by decide +kernel⟩, tw_1396, tw_45⟩
abbrev MX12_wrong : MX := (cX12_wrong, RX12, 2, none, { frames := 1, cells := 0, slots := 0, locals := 22 }, false)
theorem okX12_wrong : MOkV yX12_wrong MX12_wrong 1 := ⟨⟨tw_1393, tw_98, by decide +kernel, by decide +kernel, by decide +kernel⟩, tw_1392, tw_44⟩
abbrev MX12_isWord : MX := (cX12_isWord, RX12, 3, (some .boolean), { frames := 0, cells := 0, slots := 0, locals := 0 }, false)
theorem okX12_isWord : MOkV yX12_isWord MX12_isWord 1 := ⟨⟨tw_1362, tw_98, by decide +kernel, by decide +kernel, by decide +kernel⟩, tw_1361, tw_41⟩
abbrev MX12_isName : MX := (cX12_isName, RX12, 3, (some .boolean), { frames := 0, cells := 0, slots := 0, locals := 0 }, false)
theorem okX12_isName : MOkV yX12_isName MX12_isName 0 := ⟨⟨tw_1370, tw_98, by decide +kernel, by decide +kernel, by decide +kernel⟩, tw_1369, tw_43⟩
abbrev MX12_want : MX := (cX12_want, RX12, 3, none, { frames := 2, cells := 0, slots := 0, locals := 43 }, false)
theorem okX12_want : MOkV yX12_want MX12_want 1 := ⟨⟨tw_1409, tw_98, by decide +kernel, by decide +kernel, by decide +kernel⟩, tw_1408, tw_48⟩
abbrev MX12_toldNumber : MX := (cX12_toldNumber, RX12, 4, (some .int), { frames := 2, cells := 0, slots := 0, locals := 43 }, false)
theorem okX12_toldNumber : MOkV yX12_toldNumber MX12_toldNumber 2 := ⟨⟨tw_1413, tw_98, by decide +kernel, by decide +kernel, by decide +kernel⟩, tw_1412, tw_49⟩
abbrev MX12_told : MX := (cX12_told, RX12, 5, (some .int), { frames := 3, cells := 0, slots := 0, locals := 66 }, false)
theorem okX12_told : MOkV yX12_told MX12_told 3 := ⟨⟨tw_1405, tw_98, by decide +kernel, by decide +kernel, by decide +kernel⟩, tw_1404, tw_47⟩
abbrev MX12_signed : MX := (cX12_signed, RX12, 5, (some .int), { frames := 2, cells := 0, slots := 0, locals := 43 }, false)
theorem okX12_signed : MOkV yX12_signed MX12_signed 1 := ⟨⟨tw_1417, tw_98, by decide +kernel, by decide +kernel, by decide +kernel⟩, tw_1416, tw_50⟩
abbrev MX12_find : MX := (cX12_find, RX12, 3, (some .int), { frames := 0, cells := 0, slots := 0, locals := 0 }, false)
theorem okX12_find : MOkV yX12_find MX12_find 0 := ⟨⟨tw_1401, tw_98, by decide +kernel, by decide +kernel, by decide +kernel⟩, tw_1400, tw_46⟩
abbrev MX12_old : MX := (cX12_old, RX12, 2, (some .int), { frames := 2, cells := 0, slots := 0, locals := 43 }, false)
theorem okX12_old : MOkV yX12_old MX12_old 0 := ⟨⟨tw_1425, tw_98, by decide +kernel, by decide +kernel, by decide +kernel⟩, tw_1424, tw_52⟩
abbrev MX12_readYard : MX := (cX12_readYard, RX12, 7, none, { frames := 4, cells := 0, slots := 0, locals := 90 }, false)
theorem okX12_readYard : MOkV yX12_readYard MX12_readYard 0 := ⟨⟨tw_1366, tw_98, by decide +kernel, by decide +kernel, by decide +kernel⟩, tw_1365, tw_42⟩
abbrev MX12_readWay : MX := (cX12_readWay, RX12, 4, none, { frames := 4, cells := 0, slots := 0, locals := 90 }, false)
theorem okX12_readWay : MOkV yX12_readWay MX12_readWay 0 := ⟨⟨tw_1421, tw_98, by decide +kernel, by decide +kernel, by decide +kernel⟩, tw_1420, tw_51⟩
abbrev MX12_readHour : MX := (cX12_readHour, RX12, 1, none, { frames := 4, cells := 0, slots := 0, locals := 90 }, false)
theorem okX12_readHour : MOkV yX12_readHour MX12_readHour 0 := ⟨⟨tw_1429, tw_98, by decide +kernel, by decide +kernel, by decide +kernel⟩, tw_1428, tw_53⟩
abbrev MX12_readSlip : MX := (cX12_readSlip, RX12, 5, none, { frames := 4, cells := 0, slots := 0, locals := 90 }, false)
theorem okX12_readSlip : MOkV yX12_readSlip MX12_readSlip 0 := ⟨⟨tw_1433, tw_98, by decide +kernel, by decide +kernel, by decide +kernel⟩, tw_1432, tw_54⟩
abbrev MX12_readNumber : MX := (cX12_readNumber, RX12, 1, (some .int), { frames := 3, cells := 0, slots := 0, locals := 66 }, false)
theorem okX12_readNumber : MOkV yX12_readNumber MX12_readNumber 0 := ⟨⟨tw_1437, tw_98, by decide +kernel, by decide +kernel, by decide +kernel⟩, tw_1436, tw_55⟩
abbrev MX12_readOld : MX := (cX12_readOld, RX12, 1, (some .int), { frames := 3, cells := 0, slots := 0, locals := 64 }, false)
theorem okX12_readOld : MOkV yX12_readOld MX12_readOld 0 := ⟨⟨tw_1441, tw_98, by decide +kernel, by decide +kernel, by decide +kernel⟩, tw_1440, tw_56⟩
abbrev MX12_readLine : MX := (cX12_readLine, RX12, 1, none, { frames := 5, cells := 0, slots := 0, locals := 116 }, false)
theorem okX12_readLine : MOkV yX12_readLine MX12_readLine 0 := ⟨⟨tw_1357, tw_98, by decide +kernel, by decide +kernel, by decide +kernel⟩, tw_1356, tw_40⟩
abbrev MX12_readAll : MX := (cX12_readAll, RX12, 2, none, { frames := 6, cells := 0, slots := 0, locals := 136 }, false)
theorem okX12_readAll : MOkV yX12_readAll MX12_readAll 0 := ⟨⟨tw_1339, tw_98, by decide +kernel, by decide +kernel, by decide +kernel⟩, tw_1338, tw_37⟩
abbrev MX12_land : MX := (cX12_land, RX12, 2, (some .int), { frames := 7, cells := 0, slots := 0, locals := 157 }, false)
theorem okX12_land : MOkV yX12_land MX12_land 0 := ⟨⟨tw_1335, tw_98, by decide +kernel, by decide +kernel, by decide +kernel⟩, tw_1333, tw_1334⟩
abbrev MX12_fault : MX := (cX12_fault, RX12, 2, (some .int), { frames := 0, cells := 0, slots := 0, locals := 0 }, false)
theorem okX12_fault : MOkV yX12_fault MX12_fault 1 := ⟨⟨tw_1445, tw_98, by decide +kernel, by decide +kernel, by decide +kernel⟩, tw_1443, tw_1444⟩
abbrev MX12_isIn : MX := (cX12_isIn, RX12, 3, (some .boolean), { frames := 0, cells := 0, slots := 0, locals := 0 }, false)
theorem okX12_isIn : MOkS yX12_isIn MX12_isIn 3 := ⟨⟨tw_1452, tw_98, by decide +kernel, by decide +kernel, by decide +kernel⟩, tw_1451⟩
abbrev MX12_isYard : MX := (cX12_isYard, RX12, 2, (some .boolean), { frames := 1, cells := 0, slots := 0, locals := 22 }, false)
theorem okX12_isYard : MOkV yX12_isYard MX12_isYard 1 := ⟨⟨tw_1488, tw_98, by decide +kernel, by decide +kernel, by decide +kernel⟩, tw_1487, tw_62⟩
abbrev MX12_bring : MX := (cX12_bring, RX12, 3, none, { frames := 0, cells := 0, slots := 0, locals := 0 }, false)
theorem okX12_bring : MOkV yX12_bring MX12_bring 1 := ⟨⟨tw_1456, tw_98, by decide +kernel, by decide +kernel, by decide +kernel⟩, tw_1455, tw_57⟩
abbrev MX12_takeBack : MX := (cX12_takeBack, RX12, 3, none, { frames := 0, cells := 0, slots := 0, locals := 0 }, false)
theorem okX12_takeBack : MOkV yX12_takeBack MX12_takeBack 1 := ⟨⟨tw_1475, tw_98, by decide +kernel, by decide +kernel, by decide +kernel⟩, tw_1474, tw_61⟩
abbrev MX12_beginYard : MX := (cX12_beginYard, RX12, 3, none, { frames := 0, cells := 0, slots := 0, locals := 0 }, false)
theorem okX12_beginYard : MOkV yX12_beginYard MX12_beginYard 1 := ⟨⟨tw_1551, tw_98, by decide +kernel, by decide +kernel, by decide +kernel⟩, tw_1550, tw_69⟩
abbrev MX12_lesser : MX := (cX12_lesser, RX12, 2, (some .int), { frames := 0, cells := 0, slots := 0, locals := 0 }, false)
theorem okX12_lesser : MOkS yX12_lesser MX12_lesser 2 := ⟨⟨tw_1463, tw_98, by decide +kernel, by decide +kernel, by decide +kernel⟩, tw_1462⟩
abbrev MX12_goOn : MX := (cX12_goOn, RX12, 12, none, { frames := 2, cells := 0, slots := 0, locals := 43 }, false)
theorem okX12_goOn : MOkV yX12_goOn MX12_goOn 3 := ⟨⟨tw_1460, tw_98, by decide +kernel, by decide +kernel, by decide +kernel⟩, tw_1459, tw_58⟩
abbrev MX12_turn : MX := (cX12_turn, RX12, 3, none, { frames := 1, cells := 0, slots := 0, locals := 21 }, false)
theorem okX12_turn : MOkV yX12_turn MX12_turn 0 := ⟨⟨tw_1467, tw_98, by decide +kernel, by decide +kernel, by decide +kernel⟩, tw_1466, tw_59⟩
abbrev MX12_runOff : MX := (cX12_runOff, RX12, 2, none, { frames := 0, cells := 0, slots := 0, locals := 0 }, false)
theorem okX12_runOff : MOkV yX12_runOff MX12_runOff 1 := ⟨⟨tw_1471, tw_98, by decide +kernel, by decide +kernel, by decide +kernel⟩, tw_1470, tw_60⟩
abbrev MX12_isWhite : MX := (cX12_isWhite, RX12, 1, (some .boolean), { frames := 0, cells := 0, slots := 0, locals := 0 }, false)
theorem okX12_isWhite : MOkV yX12_isWhite MX12_isWhite 0 := ⟨⟨tw_1496, tw_98, by decide +kernel, by decide +kernel, by decide +kernel⟩, tw_1495, tw_63⟩
abbrev MX12_isBlocked : MX := (cX12_isBlocked, RX12, 2, (some .boolean), { frames := 0, cells := 0, slots := 0, locals := 0 }, false)
theorem okX12_isBlocked : MOkV yX12_isBlocked MX12_isBlocked 1 := ⟨⟨tw_1500, tw_98, by decide +kernel, by decide +kernel, by decide +kernel⟩, tw_1499, tw_64⟩
abbrev MX12_run : MX := (cX12_run, RX12, 4, (some .int), { frames := 3, cells := 0, slots := 0, locals := 74 }, false)
theorem okX12_run : MOkV yX12_run MX12_run 1 := ⟨⟨tw_1449, tw_98, by decide +kernel, by decide +kernel, by decide +kernel⟩, tw_1447, tw_1448⟩
abbrev MX12_shift : MX := (cX12_shift, RX12, 3, (some .int), { frames := 1, cells := 0, slots := 0, locals := 22 }, false)
theorem okX12_shift : MOkV yX12_shift MX12_shift 1 := ⟨⟨tw_1479, tw_98, by decide +kernel, by decide +kernel, by decide +kernel⟩, tw_1477, tw_1478⟩
abbrev MX12_spread : MX := (cX12_spread, RX12, 3, (some .int), { frames := 2, cells := 0, slots := 0, locals := 43 }, false)
theorem okX12_spread : MOkV yX12_spread MX12_spread 2 := ⟨⟨tw_1484, tw_98, by decide +kernel, by decide +kernel, by decide +kernel⟩, tw_1482, tw_1483⟩
abbrev MX12_yard : MX := (cX12_yard, RX12, 3, (some .int), { frames := 2, cells := 0, slots := 0, locals := 43 }, false)
theorem okX12_yard : MOkV yX12_yard MX12_yard 2 := ⟨⟨tw_1492, tw_98, by decide +kernel, by decide +kernel, by decide +kernel⟩, tw_1490, tw_1491⟩
abbrev MX12_warm : MX := (cX12_warm, RX12, 3, (some .int), { frames := 2, cells := 0, slots := 0, locals := 43 }, false)
theorem okX12_warm : MOkV yX12_warm MX12_warm 2 := ⟨⟨tw_1504, tw_98, by decide +kernel, by decide +kernel, by decide +kernel⟩, tw_1502, tw_1503⟩
abbrev MX12_isShift : MX := (cX12_isShift, RX12, 1, (some .boolean), { frames := 1, cells := 0, slots := 0, locals := 22 }, false)
theorem okX12_isShift : MOkS yX12_isShift MX12_isShift 1 := ⟨⟨tw_1511, tw_98, by decide +kernel, by decide +kernel, by decide +kernel⟩, tw_1510⟩
abbrev MX12_firstWhite : MX := (cX12_firstWhite, RX12, 6, (some .int), { frames := 3, cells := 0, slots := 0, locals := 74 }, false)
theorem okX12_firstWhite : MOkV yX12_firstWhite MX12_firstWhite 4 := ⟨⟨tw_1515, tw_98, by decide +kernel, by decide +kernel, by decide +kernel⟩, tw_1514, tw_65⟩
abbrev MX12_when : MX := (cX12_when, RX12, 3, (some .int), { frames := 4, cells := 0, slots := 0, locals := 99 }, false)
theorem okX12_when : MOkV yX12_when MX12_when 2 := ⟨⟨tw_1508, tw_98, by decide +kernel, by decide +kernel, by decide +kernel⟩, tw_1506, tw_1507⟩
abbrev MX12_deep : MX := (cX12_deep, RX12, 5, (some .int), { frames := 3, cells := 0, slots := 0, locals := 74 }, false)
theorem okX12_deep : MOkV yX12_deep MX12_deep 3 := ⟨⟨tw_1519, tw_98, by decide +kernel, by decide +kernel, by decide +kernel⟩, tw_1517, tw_1518⟩
abbrev MX12_least : MX := (cX12_least, RX12, 4, (some .int), { frames := 4, cells := 0, slots := 0, locals := 99 }, false)
theorem okX12_least : MOkV yX12_least MX12_least 2 := ⟨⟨tw_1523, tw_98, by decide +kernel, by decide +kernel, by decide +kernel⟩, tw_1521, tw_1522⟩
abbrev MX12_latest : MX := (cX12_latest, RX12, 5, (some .int), { frames := 4, cells := 0, slots := 0, locals := 99 }, false)
theorem okX12_latest : MOkV yX12_latest MX12_latest 3 := ⟨⟨tw_1527, tw_98, by decide +kernel, by decide +kernel, by decide +kernel⟩, tw_1525, tw_1526⟩
abbrev MX12_common : MX := (cX12_common, RX12, 5, (some .int), { frames := 0, cells := 0, slots := 0, locals := 0 }, false)
theorem okX12_common : MOkS yX12_common MX12_common 2 := ⟨⟨tw_1558, tw_98, by decide +kernel, by decide +kernel, by decide +kernel⟩, tw_1557⟩
abbrev MX12_weightOf : MX := (cX12_weightOf, RX12, 4, (some .int), { frames := 0, cells := 0, slots := 0, locals := 0 }, false)
theorem okX12_weightOf : MOkV yX12_weightOf MX12_weightOf 1 := ⟨⟨tw_1555, tw_98, by decide +kernel, by decide +kernel, by decide +kernel⟩, tw_1554, tw_70⟩
abbrev MX12_odds : MX := (cX12_odds, RX12, 8, (some .int), { frames := 6, cells := 0, slots := 0, locals := 147 }, false)
theorem okX12_odds : MOkV yX12_odds MX12_odds 3 := ⟨⟨tw_1531, tw_98, by decide +kernel, by decide +kernel, by decide +kernel⟩, tw_1529, tw_1530⟩
abbrev MX12_isSet : MX := (cX12_isSet, RX12, 2, (some .boolean), { frames := 1, cells := 0, slots := 0, locals := 22 }, false)
theorem okX12_isSet : MOkV yX12_isSet MX12_isSet 1 := ⟨⟨tw_1566, tw_98, by decide +kernel, by decide +kernel, by decide +kernel⟩, tw_1565, tw_71⟩
abbrev MX12_costOf : MX := (cX12_costOf, RX12, 9, (some .int), { frames := 4, cells := 0, slots := 0, locals := 99 }, false)
theorem okX12_costOf : MOkV yX12_costOf MX12_costOf 4 := ⟨⟨tw_1570, tw_98, by decide +kernel, by decide +kernel, by decide +kernel⟩, tw_1569, tw_72⟩
abbrev MX12_plan : MX := (cX12_plan, RX12, 10, (some .int), { frames := 6, cells := 0, slots := 0, locals := 147 }, false)
theorem okX12_plan : MOkV yX12_plan MX12_plan 4 := ⟨⟨tw_1562, tw_98, by decide +kernel, by decide +kernel, by decide +kernel⟩, tw_1560, tw_1561⟩
abbrev MX12_layFar : MX := (cX12_layFar, RX12, 4, none, { frames := 1, cells := 0, slots := 0, locals := 21 }, false)
theorem okX12_layFar : MOkV yX12_layFar MX12_layFar 0 := ⟨⟨tw_1578, tw_98, by decide +kernel, by decide +kernel, by decide +kernel⟩, tw_1577, tw_73⟩
abbrev MX12_layWhite : MX := (cX12_layWhite, RX12, 5, none, { frames := 4, cells := 0, slots := 0, locals := 99 }, false)
theorem okX12_layWhite : MOkV yX12_layWhite MX12_layWhite 2 := ⟨⟨tw_1583, tw_98, by decide +kernel, by decide +kernel, by decide +kernel⟩, tw_1582, tw_74⟩
abbrev MX12_minutesOf : MX := (cX12_minutesOf, RX12, 5, (some .int), { frames := 0, cells := 0, slots := 0, locals := 0 }, false)
theorem okX12_minutesOf : MOkV yX12_minutesOf MX12_minutesOf 1 := ⟨⟨tw_1591, tw_98, by decide +kernel, by decide +kernel, by decide +kernel⟩, tw_1590, tw_76⟩
abbrev MX12_whitesOf : MX := (cX12_whitesOf, RX12, 4, (some .int), { frames := 1, cells := 0, slots := 0, locals := 24 }, false)
theorem okX12_whitesOf : MOkV yX12_whitesOf MX12_whitesOf 1 := ⟨⟨tw_1587, tw_98, by decide +kernel, by decide +kernel, by decide +kernel⟩, tw_1586, tw_75⟩
abbrev MX12_nextOrder : MX := (cX12_nextOrder, RX12, 6, (some .boolean), { frames := 1, cells := 0, slots := 0, locals := 23 }, false)
theorem okX12_nextOrder : MOkV yX12_nextOrder MX12_nextOrder 1 := ⟨⟨tw_1595, tw_98, by decide +kernel, by decide +kernel, by decide +kernel⟩, tw_1594, tw_77⟩
abbrev MX12_swap : MX := (cX12_swap, RX12, 4, none, { frames := 0, cells := 0, slots := 0, locals := 0 }, false)
theorem okX12_swap : MOkV yX12_swap MX12_swap 2 := ⟨⟨tw_1599, tw_98, by decide +kernel, by decide +kernel, by decide +kernel⟩, tw_1598, tw_78⟩
abbrev MX12_round : MX := (cX12_round, RX12, 11, (some .int), { frames := 5, cells := 0, slots := 0, locals := 123 }, false)
theorem okX12_round : MOkV yX12_round MX12_round 3 := ⟨⟨tw_1574, tw_98, by decide +kernel, by decide +kernel, by decide +kernel⟩, tw_1572, tw_1573⟩
abbrev MX12_lies : MX := (cX12_lies, RX12, 2, (some .int), { frames := 1, cells := 0, slots := 0, locals := 22 }, false)
theorem okX12_lies : MOkV yX12_lies MX12_lies 1 := ⟨⟨tw_1603, tw_98, by decide +kernel, by decide +kernel, by decide +kernel⟩, tw_1601, tw_1602⟩
abbrev MX12_layBlocked : MX := (cX12_layBlocked, RX12, 3, none, { frames := 3, cells := 0, slots := 0, locals := 74 }, false)
theorem okX12_layBlocked : MOkV yX12_layBlocked MX12_layBlocked 0 := ⟨⟨tw_1611, tw_98, by decide +kernel, by decide +kernel, by decide +kernel⟩, tw_1610, tw_79⟩
abbrev MX12_open : MX := (cX12_open, RX12, 8, (some .int), { frames := 4, cells := 0, slots := 0, locals := 96 }, false)
theorem okX12_open : MOkV yX12_open MX12_open 3 := ⟨⟨tw_1607, tw_98, by decide +kernel, by decide +kernel, by decide +kernel⟩, tw_1605, tw_1606⟩
abbrev MX12_read : MX := (cX12_read, RX12, 6, (some .int), { frames := 2, cells := 0, slots := 0, locals := 43 }, false)
theorem okX12_read : MOkV yX12_read MX12_read 5 := ⟨⟨tw_1615, tw_98, by decide +kernel, by decide +kernel, by decide +kernel⟩, tw_1613, tw_1614⟩
abbrev MX12_untell : MX := (cX12_untell, RX12, 2, (some .boolean), { frames := 1, cells := 0, slots := 0, locals := 22 }, false)
theorem okX12_untell : MOkV yX12_untell MX12_untell 1 := ⟨⟨tw_1619, tw_98, by decide +kernel, by decide +kernel, by decide +kernel⟩, tw_1617, tw_1618⟩
abbrev MX12_later : MX := (cX12_later, RX12, 2, (some .int), { frames := 0, cells := 0, slots := 0, locals := 0 }, false)
theorem okX12_later : MOkV yX12_later MX12_later 1 := ⟨⟨tw_1623, tw_98, by decide +kernel, by decide +kernel, by decide +kernel⟩, tw_1621, tw_1622⟩
abbrev MX12_counts : MX := (cX12_counts, RX12, 3, (some .boolean), { frames := 0, cells := 0, slots := 0, locals := 0 }, false)
theorem okX12_counts : MOkV yX12_counts MX12_counts 2 := ⟨⟨tw_1539, tw_98, by decide +kernel, by decide +kernel, by decide +kernel⟩, tw_1538, tw_66⟩
abbrev MX12_warmBehind : MX := (cX12_warmBehind, RX12, 6, (some .int), { frames := 3, cells := 0, slots := 0, locals := 74 }, false)
theorem okX12_warmBehind : MOkV yX12_warmBehind MX12_warmBehind 4 := ⟨⟨tw_1547, tw_98, by decide +kernel, by decide +kernel, by decide +kernel⟩, tw_1546, tw_68⟩
abbrev MX12_isSo : MX := (cX12_isSo, RX12, 4, (some .boolean), { frames := 4, cells := 0, slots := 0, locals := 99 }, false)
theorem okX12_isSo : MOkV yX12_isSo MX12_isSo 2 := ⟨⟨tw_1543, tw_98, by decide +kernel, by decide +kernel, by decide +kernel⟩, tw_1542, tw_67⟩
abbrev MX12_left : MX := (cX12_left, RX12, 6, (some .int), { frames := 5, cells := 0, slots := 0, locals := 122 }, false)
theorem okX12_left : MOkV yX12_left MX12_left 1 := ⟨⟨tw_1535, tw_98, by decide +kernel, by decide +kernel, by decide +kernel⟩, tw_1533, tw_1534⟩
abbrev MX12_greatestPart : MX := (cX12_greatestPart, RX12, 9, (some .int), { frames := 4, cells := 0, slots := 0, locals := 99 }, false)
theorem okX12_greatestPart : MOkV yX12_greatestPart MX12_greatestPart 4 := ⟨⟨tw_1633, tw_98, by decide +kernel, by decide +kernel, by decide +kernel⟩, tw_1632, tw_80⟩
abbrev MX12_tells : MX := (cX12_tells, RX12, 10, (some .int), { frames := 6, cells := 0, slots := 0, locals := 147 }, false)
theorem okX12_tells : MOkV yX12_tells MX12_tells 3 := ⟨⟨tw_1629, tw_98, by decide +kernel, by decide +kernel, by decide +kernel⟩, tw_1627, tw_1628⟩
abbrev MX12_isBox : MX := (cX12_isBox, RX12, 1, (some .boolean), { frames := 0, cells := 0, slots := 0, locals := 0 }, false)
theorem okX12_isBox : MOkS yX12_isBox MX12_isBox 1 := ⟨⟨tw_1640, tw_98, by decide +kernel, by decide +kernel, by decide +kernel⟩, tw_1639⟩
abbrev MX12_image : MX := (cX12_image, RX12, 3, (some .int), { frames := 1, cells := 0, slots := 0, locals := 20 }, false)
theorem okX12_image : MOkV yX12_image MX12_image 1 := ⟨⟨tw_1637, tw_98, by decide +kernel, by decide +kernel, by decide +kernel⟩, tw_1635, tw_1636⟩
abbrev MX12_back : MX := (cX12_back, RX12, 3, (some .int), { frames := 1, cells := 0, slots := 0, locals := 20 }, false)
theorem okX12_back : MOkV yX12_back MX12_back 1 := ⟨⟨tw_1644, tw_98, by decide +kernel, by decide +kernel, by decide +kernel⟩, tw_1642, tw_1643⟩
abbrev MX12_about : MX := (cX12_about, RX12, 2, (some .int), { frames := 0, cells := 0, slots := 0, locals := 0 }, false)
theorem okX12_about : MOkV yX12_about MX12_about 1 := ⟨⟨tw_1648, tw_98, by decide +kernel, by decide +kernel, by decide +kernel⟩, tw_1646, tw_1647⟩
abbrev MJ6_bitCount_0f7a4 : MX := (cJ6_bitCount_0f7a4, RJ6, 1, (some .int), { frames := 0, cells := 0, slots := 0, locals := 0 }, false)
theorem okJ6_bitCount_0f7a4 : MOkS yJ6_bitCount_0f7a4 MJ6_bitCount_0f7a4 1 := ⟨⟨tw_926, tw_101, by decide +kernel, by decide +kernel, by decide +kernel⟩, tw_925⟩
abbrev MJ9_abs_0f7a4 : MX := (cJ9_abs_0f7a4, RJ9, 1, (some .int), { frames := 0, cells := 0, slots := 0, locals := 0 }, false)
theorem okJ9_abs_0f7a4 : MOkS yJ9_abs_0f7a4 MJ9_abs_0f7a4 1 := ⟨⟨tw_1011, tw_99, by decide +kernel, by decide +kernel, by decide +kernel⟩, tw_1010⟩
abbrev MJ9_max_7cf53 : MX := (cJ9_max_7cf53, RJ9, 2, (some .int), { frames := 0, cells := 0, slots := 0, locals := 0 }, false)
theorem okJ9_max_7cf53 : MOkS yJ9_max_7cf53 MJ9_max_7cf53 2 := ⟨⟨tw_780, tw_99, by decide +kernel, by decide +kernel, by decide +kernel⟩, tw_779⟩
abbrev MJ9_min_7cf53 : MX := (cJ9_min_7cf53, RJ9, 2, (some .int), { frames := 0, cells := 0, slots := 0, locals := 0 }, false)
theorem okJ9_min_7cf53 : MOkS yJ9_min_7cf53 MJ9_min_7cf53 2 := ⟨⟨tw_638, tw_99, by decide +kernel, by decide +kernel, by decide +kernel⟩, tw_637⟩
abbrev MJ0_length_8abf5 : MX := (cJ0_length_8abf5, RJ0, 1, (some .int), { frames := 1, cells := 0, slots := 0, locals := 20 }, false)
theorem okJ0_length_8abf5 : MOkV yJ0_length_8abf5 MJ0_length_8abf5 0 := ⟨⟨tw_283, tw_87, by decide +kernel, by decide +kernel, by decide +kernel⟩, tw_281, tw_282⟩
abbrev MJ0_charAt_5068e : MX := (cJ0_charAt_5068e, RJ0, 2, (some .char), { frames := 4, cells := 0, slots := 0, locals := 85 }, false)
theorem okJ0_charAt_5068e : MOkV yJ0_charAt_5068e MJ0_charAt_5068e 1 := ⟨⟨tw_293, tw_87, by decide +kernel, by decide +kernel, by decide +kernel⟩, tw_291, tw_292⟩
abbrev MJ0_coder_7d493 : MX := (cJ0_coder_7d493, RJ0, 1, (some .byte), { frames := 0, cells := 0, slots := 0, locals := 0 }, false)
theorem okJ0_coder_7d493 : MOkV yJ0_coder_7d493 MJ0_coder_7d493 0 := ⟨⟨tw_287, tw_87, by decide +kernel, by decide +kernel, by decide +kernel⟩, tw_285, tw_286⟩
abbrev MJ0_isLatin1_aae02 : MX := (cJ0_isLatin1_aae02, RJ0, 1, (some .boolean), { frames := 0, cells := 0, slots := 0, locals := 0 }, false)
theorem okJ0_isLatin1_aae02 : MOkV yJ0_isLatin1_aae02 MJ0_isLatin1_aae02 0 := ⟨⟨tw_297, tw_87, by decide +kernel, by decide +kernel, by decide +kernel⟩, tw_295, tw_296⟩
abbrev MJ1_charAt_3b067 : MX := (cJ1_charAt_3b067, RJ1, 2, (some .char), { frames := 2, cells := 0, slots := 0, locals := 43 }, false)
theorem okJ1_charAt_3b067 : MOkS yJ1_charAt_3b067 MJ1_charAt_3b067 2 := ⟨⟨tw_300, tw_88, by decide +kernel, by decide +kernel, by decide +kernel⟩, tw_299⟩
abbrev MJ7_fill_53178 : MX := (cJ7_fill_53178, RJ7, 4, none, { frames := 0, cells := 0, slots := 0, locals := 0 }, false)
theorem okJ7_fill_53178 : MOkS yJ7_fill_53178 MJ7_fill_53178 2 := ⟨⟨tw_937, tw_102, by decide +kernel, by decide +kernel, by decide +kernel⟩, tw_936⟩
abbrev MJ7_fill_031fb : MX := (cJ7_fill_031fb, RJ7, 4, none, { frames := 0, cells := 0, slots := 0, locals := 0 }, false)
theorem okJ7_fill_031fb : MOkS yJ7_fill_031fb MJ7_fill_031fb 2 := ⟨⟨tw_945, tw_102, by decide +kernel, by decide +kernel, by decide +kernel⟩, tw_944⟩

/-! WHAT STANDS AT EVERY PLACE OF THE LAW, 0 -/
theorem k361 : pm_k 361 = 13 := by decide +kernel
theorem ml361 : pm_ml 361 = 8 := by decide +kernel
theorem rt361 : pm_rt 361 = (some .boolean) := by decide +kernel
theorem hh361 : pm_hh 361 = [] := by decide +kernel
theorem cl361_0 : ([(0, .new 8, 3), (3, .dup, 4), (4, .invokespecial 114, 7), (7, .astore_n 1, 8), (8, .new 115, 11), (11, .dup, 12), (12, .invokespecial 117, 15), (15, .astore_n 2, 16), (16, .iconst 1, 17), (17, .newarray .long, 19), (19, .astore_n 3, 20), (20, .iconst 0, 21), (21, .istore 4, 23), (23, .iload 4, 25), (25, .aload_n 0, 26), (26, .arraylength, 27), (27, .bipush 7, 29), (29, .isub, 30), (30, .if_icmp .gt 2552, 33), (33, .aload_n 0, 34), (34, .iload 4, 36), (36, .iaload, 37), (37, .bipush 63, 39), (39, .iand, 40), (40, .tableswitch 2536 0 40 #[180, 253, 309, 377, 433, 489, 502, 515, 571, 639, 707, 775, 831, 949, 962, 1018, 1074, 1142, 1210, 1266, 1322, 1335, 1391, 1447, 1510, 1566, 1622, 1635, 1703, 1771, 1850, 1918, 1998, 2066, 2158, 2238, 2342, 2460, 2473, 2486, 2511], 220), (220, .aload_n 1, 221), (221, .aload_n 0, 222), (222, .iload 4, 224), (224, .iconst 1, 225), (225, .iadd, 226), (226, .iaload, 227), (227, .aload_n 0, 228), (228, .iload 4, 230), (230, .iconst 2, 231), (231, .iadd, 232), (232, .iaload, 233), (233, .aload_n 0, 234), (234, .iload 4, 236), (236, .iconst 3, 237), (237, .iadd, 238)] : List (Nat × Instr × Nat)).all (fun q => decide (pm_code 361 q.1 = some q.2)) = true := by decide +kernel
theorem c361_0 : pm_code 361 0 = some (.new 8, 3) := pm_of cl361_0 0 (q := (0, .new 8, 3)) rfl
theorem c361_3 : pm_code 361 3 = some (.dup, 4) := pm_of cl361_0 1 (q := (3, .dup, 4)) rfl
theorem c361_4 : pm_code 361 4 = some (.invokespecial 114, 7) := pm_of cl361_0 2 (q := (4, .invokespecial 114, 7)) rfl
theorem c361_7 : pm_code 361 7 = some (.astore_n 1, 8) := pm_of cl361_0 3 (q := (7, .astore_n 1, 8)) rfl
theorem c361_8 : pm_code 361 8 = some (.new 115, 11) := pm_of cl361_0 4 (q := (8, .new 115, 11)) rfl
theorem c361_11 : pm_code 361 11 = some (.dup, 12) := pm_of cl361_0 5 (q := (11, .dup, 12)) rfl
theorem c361_12 : pm_code 361 12 = some (.invokespecial 117, 15) := pm_of cl361_0 6 (q := (12, .invokespecial 117, 15)) rfl
theorem c361_15 : pm_code 361 15 = some (.astore_n 2, 16) := pm_of cl361_0 7 (q := (15, .astore_n 2, 16)) rfl
theorem c361_16 : pm_code 361 16 = some (.iconst 1, 17) := pm_of cl361_0 8 (q := (16, .iconst 1, 17)) rfl
theorem c361_17 : pm_code 361 17 = some (.newarray .long, 19) := pm_of cl361_0 9 (q := (17, .newarray .long, 19)) rfl
theorem c361_19 : pm_code 361 19 = some (.astore_n 3, 20) := pm_of cl361_0 10 (q := (19, .astore_n 3, 20)) rfl
theorem c361_20 : pm_code 361 20 = some (.iconst 0, 21) := pm_of cl361_0 11 (q := (20, .iconst 0, 21)) rfl
theorem c361_21 : pm_code 361 21 = some (.istore 4, 23) := pm_of cl361_0 12 (q := (21, .istore 4, 23)) rfl
theorem c361_23 : pm_code 361 23 = some (.iload 4, 25) := pm_of cl361_0 13 (q := (23, .iload 4, 25)) rfl
theorem c361_25 : pm_code 361 25 = some (.aload_n 0, 26) := pm_of cl361_0 14 (q := (25, .aload_n 0, 26)) rfl
theorem c361_26 : pm_code 361 26 = some (.arraylength, 27) := pm_of cl361_0 15 (q := (26, .arraylength, 27)) rfl
theorem c361_27 : pm_code 361 27 = some (.bipush 7, 29) := pm_of cl361_0 16 (q := (27, .bipush 7, 29)) rfl
theorem c361_29 : pm_code 361 29 = some (.isub, 30) := pm_of cl361_0 17 (q := (29, .isub, 30)) rfl
theorem c361_30 : pm_code 361 30 = some (.if_icmp .gt 2552, 33) := pm_of cl361_0 18 (q := (30, .if_icmp .gt 2552, 33)) rfl
theorem c361_33 : pm_code 361 33 = some (.aload_n 0, 34) := pm_of cl361_0 19 (q := (33, .aload_n 0, 34)) rfl
theorem c361_34 : pm_code 361 34 = some (.iload 4, 36) := pm_of cl361_0 20 (q := (34, .iload 4, 36)) rfl
theorem c361_36 : pm_code 361 36 = some (.iaload, 37) := pm_of cl361_0 21 (q := (36, .iaload, 37)) rfl
theorem c361_37 : pm_code 361 37 = some (.bipush 63, 39) := pm_of cl361_0 22 (q := (37, .bipush 63, 39)) rfl
theorem c361_39 : pm_code 361 39 = some (.iand, 40) := pm_of cl361_0 23 (q := (39, .iand, 40)) rfl
theorem c361_40 : pm_code 361 40 = some (.tableswitch 2536 0 40 #[180, 253, 309, 377, 433, 489, 502, 515, 571, 639, 707, 775, 831, 949, 962, 1018, 1074, 1142, 1210, 1266, 1322, 1335, 1391, 1447, 1510, 1566, 1622, 1635, 1703, 1771, 1850, 1918, 1998, 2066, 2158, 2238, 2342, 2460, 2473, 2486, 2511], 220) := pm_of cl361_0 24 (q := (40, .tableswitch 2536 0 40 #[180, 253, 309, 377, 433, 489, 502, 515, 571, 639, 707, 775, 831, 949, 962, 1018, 1074, 1142, 1210, 1266, 1322, 1335, 1391, 1447, 1510, 1566, 1622, 1635, 1703, 1771, 1850, 1918, 1998, 2066, 2158, 2238, 2342, 2460, 2473, 2486, 2511], 220)) rfl
theorem c361_220 : pm_code 361 220 = some (.aload_n 1, 221) := pm_of cl361_0 25 (q := (220, .aload_n 1, 221)) rfl
theorem c361_221 : pm_code 361 221 = some (.aload_n 0, 222) := pm_of cl361_0 26 (q := (221, .aload_n 0, 222)) rfl
theorem c361_222 : pm_code 361 222 = some (.iload 4, 224) := pm_of cl361_0 27 (q := (222, .iload 4, 224)) rfl
theorem c361_224 : pm_code 361 224 = some (.iconst 1, 225) := pm_of cl361_0 28 (q := (224, .iconst 1, 225)) rfl
theorem c361_225 : pm_code 361 225 = some (.iadd, 226) := pm_of cl361_0 29 (q := (225, .iadd, 226)) rfl
theorem c361_226 : pm_code 361 226 = some (.iaload, 227) := pm_of cl361_0 30 (q := (226, .iaload, 227)) rfl
theorem c361_227 : pm_code 361 227 = some (.aload_n 0, 228) := pm_of cl361_0 31 (q := (227, .aload_n 0, 228)) rfl
theorem c361_228 : pm_code 361 228 = some (.iload 4, 230) := pm_of cl361_0 32 (q := (228, .iload 4, 230)) rfl
theorem c361_230 : pm_code 361 230 = some (.iconst 2, 231) := pm_of cl361_0 33 (q := (230, .iconst 2, 231)) rfl
theorem c361_231 : pm_code 361 231 = some (.iadd, 232) := pm_of cl361_0 34 (q := (231, .iadd, 232)) rfl
theorem c361_232 : pm_code 361 232 = some (.iaload, 233) := pm_of cl361_0 35 (q := (232, .iaload, 233)) rfl
theorem c361_233 : pm_code 361 233 = some (.aload_n 0, 234) := pm_of cl361_0 36 (q := (233, .aload_n 0, 234)) rfl
theorem c361_234 : pm_code 361 234 = some (.iload 4, 236) := pm_of cl361_0 37 (q := (234, .iload 4, 236)) rfl
theorem c361_236 : pm_code 361 236 = some (.iconst 3, 237) := pm_of cl361_0 38 (q := (236, .iconst 3, 237)) rfl
theorem c361_237 : pm_code 361 237 = some (.iadd, 238) := pm_of cl361_0 39 (q := (237, .iadd, 238)) rfl
theorem cl361_1 : ([(238, .iaload, 239), (239, .aload_n 0, 240), (240, .iload 4, 242), (242, .iconst 4, 243), (243, .iadd, 244), (244, .iaload, 245), (245, .aload_n 0, 246), (246, .iload 4, 248), (248, .iconst 5, 249), (249, .iadd, 250), (250, .iaload, 251), (251, .invokevirtual 118, 254), (254, .aload_n 2, 255), (255, .aload_n 0, 256), (256, .iload 4, 258), (258, .iconst 1, 259), (259, .iadd, 260), (260, .iaload, 261), (261, .aload_n 0, 262), (262, .iload 4, 264), (264, .iconst 2, 265), (265, .iadd, 266), (266, .iaload, 267), (267, .aload_n 0, 268), (268, .iload 4, 270), (270, .iconst 3, 271), (271, .iadd, 272), (272, .iaload, 273), (273, .aload_n 0, 274), (274, .iload 4, 276), (276, .iconst 4, 277), (277, .iadd, 278), (278, .iaload, 279), (279, .aload_n 0, 280), (280, .iload 4, 282), (282, .iconst 5, 283), (283, .iadd, 284), (284, .iaload, 285), (285, .invokevirtual 121, 288), (288, .if_icmp .eq 2288, 291)] : List (Nat × Instr × Nat)).all (fun q => decide (pm_code 361 q.1 = some q.2)) = true := by decide +kernel
theorem c361_238 : pm_code 361 238 = some (.iaload, 239) := pm_of cl361_1 0 (q := (238, .iaload, 239)) rfl
theorem c361_239 : pm_code 361 239 = some (.aload_n 0, 240) := pm_of cl361_1 1 (q := (239, .aload_n 0, 240)) rfl
theorem c361_240 : pm_code 361 240 = some (.iload 4, 242) := pm_of cl361_1 2 (q := (240, .iload 4, 242)) rfl
theorem c361_242 : pm_code 361 242 = some (.iconst 4, 243) := pm_of cl361_1 3 (q := (242, .iconst 4, 243)) rfl
theorem c361_243 : pm_code 361 243 = some (.iadd, 244) := pm_of cl361_1 4 (q := (243, .iadd, 244)) rfl
theorem c361_244 : pm_code 361 244 = some (.iaload, 245) := pm_of cl361_1 5 (q := (244, .iaload, 245)) rfl
theorem c361_245 : pm_code 361 245 = some (.aload_n 0, 246) := pm_of cl361_1 6 (q := (245, .aload_n 0, 246)) rfl
theorem c361_246 : pm_code 361 246 = some (.iload 4, 248) := pm_of cl361_1 7 (q := (246, .iload 4, 248)) rfl
theorem c361_248 : pm_code 361 248 = some (.iconst 5, 249) := pm_of cl361_1 8 (q := (248, .iconst 5, 249)) rfl
theorem c361_249 : pm_code 361 249 = some (.iadd, 250) := pm_of cl361_1 9 (q := (249, .iadd, 250)) rfl
theorem c361_250 : pm_code 361 250 = some (.iaload, 251) := pm_of cl361_1 10 (q := (250, .iaload, 251)) rfl
theorem c361_251 : pm_code 361 251 = some (.invokevirtual 118, 254) := pm_of cl361_1 11 (q := (251, .invokevirtual 118, 254)) rfl
theorem c361_254 : pm_code 361 254 = some (.aload_n 2, 255) := pm_of cl361_1 12 (q := (254, .aload_n 2, 255)) rfl
theorem c361_255 : pm_code 361 255 = some (.aload_n 0, 256) := pm_of cl361_1 13 (q := (255, .aload_n 0, 256)) rfl
theorem c361_256 : pm_code 361 256 = some (.iload 4, 258) := pm_of cl361_1 14 (q := (256, .iload 4, 258)) rfl
theorem c361_258 : pm_code 361 258 = some (.iconst 1, 259) := pm_of cl361_1 15 (q := (258, .iconst 1, 259)) rfl
theorem c361_259 : pm_code 361 259 = some (.iadd, 260) := pm_of cl361_1 16 (q := (259, .iadd, 260)) rfl
theorem c361_260 : pm_code 361 260 = some (.iaload, 261) := pm_of cl361_1 17 (q := (260, .iaload, 261)) rfl
theorem c361_261 : pm_code 361 261 = some (.aload_n 0, 262) := pm_of cl361_1 18 (q := (261, .aload_n 0, 262)) rfl
theorem c361_262 : pm_code 361 262 = some (.iload 4, 264) := pm_of cl361_1 19 (q := (262, .iload 4, 264)) rfl
theorem c361_264 : pm_code 361 264 = some (.iconst 2, 265) := pm_of cl361_1 20 (q := (264, .iconst 2, 265)) rfl
theorem c361_265 : pm_code 361 265 = some (.iadd, 266) := pm_of cl361_1 21 (q := (265, .iadd, 266)) rfl
theorem c361_266 : pm_code 361 266 = some (.iaload, 267) := pm_of cl361_1 22 (q := (266, .iaload, 267)) rfl
theorem c361_267 : pm_code 361 267 = some (.aload_n 0, 268) := pm_of cl361_1 23 (q := (267, .aload_n 0, 268)) rfl
theorem c361_268 : pm_code 361 268 = some (.iload 4, 270) := pm_of cl361_1 24 (q := (268, .iload 4, 270)) rfl
theorem c361_270 : pm_code 361 270 = some (.iconst 3, 271) := pm_of cl361_1 25 (q := (270, .iconst 3, 271)) rfl
theorem c361_271 : pm_code 361 271 = some (.iadd, 272) := pm_of cl361_1 26 (q := (271, .iadd, 272)) rfl
theorem c361_272 : pm_code 361 272 = some (.iaload, 273) := pm_of cl361_1 27 (q := (272, .iaload, 273)) rfl
theorem c361_273 : pm_code 361 273 = some (.aload_n 0, 274) := pm_of cl361_1 28 (q := (273, .aload_n 0, 274)) rfl
theorem c361_274 : pm_code 361 274 = some (.iload 4, 276) := pm_of cl361_1 29 (q := (274, .iload 4, 276)) rfl
theorem c361_276 : pm_code 361 276 = some (.iconst 4, 277) := pm_of cl361_1 30 (q := (276, .iconst 4, 277)) rfl
theorem c361_277 : pm_code 361 277 = some (.iadd, 278) := pm_of cl361_1 31 (q := (277, .iadd, 278)) rfl
theorem c361_278 : pm_code 361 278 = some (.iaload, 279) := pm_of cl361_1 32 (q := (278, .iaload, 279)) rfl
theorem c361_279 : pm_code 361 279 = some (.aload_n 0, 280) := pm_of cl361_1 33 (q := (279, .aload_n 0, 280)) rfl
theorem c361_280 : pm_code 361 280 = some (.iload 4, 282) := pm_of cl361_1 34 (q := (280, .iload 4, 282)) rfl
theorem c361_282 : pm_code 361 282 = some (.iconst 5, 283) := pm_of cl361_1 35 (q := (282, .iconst 5, 283)) rfl
theorem c361_283 : pm_code 361 283 = some (.iadd, 284) := pm_of cl361_1 36 (q := (283, .iadd, 284)) rfl
theorem c361_284 : pm_code 361 284 = some (.iaload, 285) := pm_of cl361_1 37 (q := (284, .iaload, 285)) rfl
theorem c361_285 : pm_code 361 285 = some (.invokevirtual 121, 288) := pm_of cl361_1 38 (q := (285, .invokevirtual 121, 288)) rfl
theorem c361_288 : pm_code 361 288 = some (.if_icmp .eq 2288, 291) := pm_of cl361_1 39 (q := (288, .if_icmp .eq 2288, 291)) rfl
theorem cl361_2 : ([(291, .iconst 0, 292), (292, .ireturn, 293), (293, .aload_n 1, 294), (294, .aload_n 0, 295), (295, .iload 4, 297), (297, .iconst 1, 298), (298, .iadd, 299), (299, .iaload, 300), (300, .aload_n 3, 301), (301, .invokestatic 122, 304), (304, .istore 5, 306), (306, .aload_n 2, 307), (307, .aload_n 0, 308), (308, .iload 4, 310), (310, .iconst 1, 311), (311, .iadd, 312), (312, .iaload, 313), (313, .invokevirtual 127, 316), (316, .istore 6, 318), (318, .aload_n 2, 319), (319, .invokevirtual 128, 322), (322, .iload 5, 324), (324, .if_icmp .eq 5, 327), (327, .iconst 0, 328), (328, .ireturn, 329), (329, .iload 5, 331), (331, .ifCond .ne 15, 334), (334, .aload_n 3, 335), (335, .iconst 0, 336), (336, .laload, 337), (337, .iload 6, 339), (339, .i2l, 340), (340, .lcmp, 341), (341, .ifCond .eq 5, 344), (344, .iconst 0, 345), (345, .ireturn, 346), (346, .goto 2230, 349), (349, .aload_n 1, 350), (350, .aload_n 0, 351), (351, .iload 4, 353)] : List (Nat × Instr × Nat)).all (fun q => decide (pm_code 361 q.1 = some q.2)) = true := by decide +kernel
theorem c361_291 : pm_code 361 291 = some (.iconst 0, 292) := pm_of cl361_2 0 (q := (291, .iconst 0, 292)) rfl
theorem c361_292 : pm_code 361 292 = some (.ireturn, 293) := pm_of cl361_2 1 (q := (292, .ireturn, 293)) rfl
theorem c361_293 : pm_code 361 293 = some (.aload_n 1, 294) := pm_of cl361_2 2 (q := (293, .aload_n 1, 294)) rfl
theorem c361_294 : pm_code 361 294 = some (.aload_n 0, 295) := pm_of cl361_2 3 (q := (294, .aload_n 0, 295)) rfl
theorem c361_295 : pm_code 361 295 = some (.iload 4, 297) := pm_of cl361_2 4 (q := (295, .iload 4, 297)) rfl
theorem c361_297 : pm_code 361 297 = some (.iconst 1, 298) := pm_of cl361_2 5 (q := (297, .iconst 1, 298)) rfl
theorem c361_298 : pm_code 361 298 = some (.iadd, 299) := pm_of cl361_2 6 (q := (298, .iadd, 299)) rfl
theorem c361_299 : pm_code 361 299 = some (.iaload, 300) := pm_of cl361_2 7 (q := (299, .iaload, 300)) rfl
theorem c361_300 : pm_code 361 300 = some (.aload_n 3, 301) := pm_of cl361_2 8 (q := (300, .aload_n 3, 301)) rfl
theorem c361_301 : pm_code 361 301 = some (.invokestatic 122, 304) := pm_of cl361_2 9 (q := (301, .invokestatic 122, 304)) rfl
theorem c361_304 : pm_code 361 304 = some (.istore 5, 306) := pm_of cl361_2 10 (q := (304, .istore 5, 306)) rfl
theorem c361_306 : pm_code 361 306 = some (.aload_n 2, 307) := pm_of cl361_2 11 (q := (306, .aload_n 2, 307)) rfl
theorem c361_307 : pm_code 361 307 = some (.aload_n 0, 308) := pm_of cl361_2 12 (q := (307, .aload_n 0, 308)) rfl
theorem c361_308 : pm_code 361 308 = some (.iload 4, 310) := pm_of cl361_2 13 (q := (308, .iload 4, 310)) rfl
theorem c361_310 : pm_code 361 310 = some (.iconst 1, 311) := pm_of cl361_2 14 (q := (310, .iconst 1, 311)) rfl
theorem c361_311 : pm_code 361 311 = some (.iadd, 312) := pm_of cl361_2 15 (q := (311, .iadd, 312)) rfl
theorem c361_312 : pm_code 361 312 = some (.iaload, 313) := pm_of cl361_2 16 (q := (312, .iaload, 313)) rfl
theorem c361_313 : pm_code 361 313 = some (.invokevirtual 127, 316) := pm_of cl361_2 17 (q := (313, .invokevirtual 127, 316)) rfl
theorem c361_316 : pm_code 361 316 = some (.istore 6, 318) := pm_of cl361_2 18 (q := (316, .istore 6, 318)) rfl
theorem c361_318 : pm_code 361 318 = some (.aload_n 2, 319) := pm_of cl361_2 19 (q := (318, .aload_n 2, 319)) rfl
theorem c361_319 : pm_code 361 319 = some (.invokevirtual 128, 322) := pm_of cl361_2 20 (q := (319, .invokevirtual 128, 322)) rfl
theorem c361_322 : pm_code 361 322 = some (.iload 5, 324) := pm_of cl361_2 21 (q := (322, .iload 5, 324)) rfl
theorem c361_324 : pm_code 361 324 = some (.if_icmp .eq 5, 327) := pm_of cl361_2 22 (q := (324, .if_icmp .eq 5, 327)) rfl
theorem c361_327 : pm_code 361 327 = some (.iconst 0, 328) := pm_of cl361_2 23 (q := (327, .iconst 0, 328)) rfl
theorem c361_328 : pm_code 361 328 = some (.ireturn, 329) := pm_of cl361_2 24 (q := (328, .ireturn, 329)) rfl
theorem c361_329 : pm_code 361 329 = some (.iload 5, 331) := pm_of cl361_2 25 (q := (329, .iload 5, 331)) rfl
theorem c361_331 : pm_code 361 331 = some (.ifCond .ne 15, 334) := pm_of cl361_2 26 (q := (331, .ifCond .ne 15, 334)) rfl
theorem c361_334 : pm_code 361 334 = some (.aload_n 3, 335) := pm_of cl361_2 27 (q := (334, .aload_n 3, 335)) rfl
theorem c361_335 : pm_code 361 335 = some (.iconst 0, 336) := pm_of cl361_2 28 (q := (335, .iconst 0, 336)) rfl
theorem c361_336 : pm_code 361 336 = some (.laload, 337) := pm_of cl361_2 29 (q := (336, .laload, 337)) rfl
theorem c361_337 : pm_code 361 337 = some (.iload 6, 339) := pm_of cl361_2 30 (q := (337, .iload 6, 339)) rfl
theorem c361_339 : pm_code 361 339 = some (.i2l, 340) := pm_of cl361_2 31 (q := (339, .i2l, 340)) rfl
theorem c361_340 : pm_code 361 340 = some (.lcmp, 341) := pm_of cl361_2 32 (q := (340, .lcmp, 341)) rfl
theorem c361_341 : pm_code 361 341 = some (.ifCond .eq 5, 344) := pm_of cl361_2 33 (q := (341, .ifCond .eq 5, 344)) rfl
theorem c361_344 : pm_code 361 344 = some (.iconst 0, 345) := pm_of cl361_2 34 (q := (344, .iconst 0, 345)) rfl
theorem c361_345 : pm_code 361 345 = some (.ireturn, 346) := pm_of cl361_2 35 (q := (345, .ireturn, 346)) rfl
theorem c361_346 : pm_code 361 346 = some (.goto 2230, 349) := pm_of cl361_2 36 (q := (346, .goto 2230, 349)) rfl
theorem c361_349 : pm_code 361 349 = some (.aload_n 1, 350) := pm_of cl361_2 37 (q := (349, .aload_n 1, 350)) rfl
theorem c361_350 : pm_code 361 350 = some (.aload_n 0, 351) := pm_of cl361_2 38 (q := (350, .aload_n 0, 351)) rfl
theorem c361_351 : pm_code 361 351 = some (.iload 4, 353) := pm_of cl361_2 39 (q := (351, .iload 4, 353)) rfl
theorem cl361_3 : ([(353, .iconst 1, 354), (354, .iadd, 355), (355, .iaload, 356), (356, .aload_n 0, 357), (357, .iload 4, 359), (359, .iconst 2, 360), (360, .iadd, 361), (361, .iaload, 362), (362, .aload_n 3, 363), (363, .invokestatic 132, 366), (366, .istore 5, 368), (368, .aload_n 2, 369), (369, .aload_n 0, 370), (370, .iload 4, 372), (372, .iconst 1, 373), (373, .iadd, 374), (374, .iaload, 375), (375, .aload_n 0, 376), (376, .iload 4, 378), (378, .iconst 2, 379), (379, .iadd, 380), (380, .iaload, 381), (381, .invokevirtual 135, 384), (384, .istore 6, 386), (386, .aload_n 2, 387), (387, .invokevirtual 128, 390), (390, .iload 5, 392), (392, .if_icmp .eq 5, 395), (395, .iconst 0, 396), (396, .ireturn, 397), (397, .iload 5, 399), (399, .ifCond .ne 15, 402), (402, .aload_n 3, 403), (403, .iconst 0, 404), (404, .laload, 405), (405, .iload 6, 407), (407, .i2l, 408), (408, .lcmp, 409), (409, .ifCond .eq 5, 412), (412, .iconst 0, 413)] : List (Nat × Instr × Nat)).all (fun q => decide (pm_code 361 q.1 = some q.2)) = true := by decide +kernel
theorem c361_353 : pm_code 361 353 = some (.iconst 1, 354) := pm_of cl361_3 0 (q := (353, .iconst 1, 354)) rfl
theorem c361_354 : pm_code 361 354 = some (.iadd, 355) := pm_of cl361_3 1 (q := (354, .iadd, 355)) rfl
theorem c361_355 : pm_code 361 355 = some (.iaload, 356) := pm_of cl361_3 2 (q := (355, .iaload, 356)) rfl
theorem c361_356 : pm_code 361 356 = some (.aload_n 0, 357) := pm_of cl361_3 3 (q := (356, .aload_n 0, 357)) rfl
theorem c361_357 : pm_code 361 357 = some (.iload 4, 359) := pm_of cl361_3 4 (q := (357, .iload 4, 359)) rfl
theorem c361_359 : pm_code 361 359 = some (.iconst 2, 360) := pm_of cl361_3 5 (q := (359, .iconst 2, 360)) rfl
theorem c361_360 : pm_code 361 360 = some (.iadd, 361) := pm_of cl361_3 6 (q := (360, .iadd, 361)) rfl
theorem c361_361 : pm_code 361 361 = some (.iaload, 362) := pm_of cl361_3 7 (q := (361, .iaload, 362)) rfl
theorem c361_362 : pm_code 361 362 = some (.aload_n 3, 363) := pm_of cl361_3 8 (q := (362, .aload_n 3, 363)) rfl
theorem c361_363 : pm_code 361 363 = some (.invokestatic 132, 366) := pm_of cl361_3 9 (q := (363, .invokestatic 132, 366)) rfl
theorem c361_366 : pm_code 361 366 = some (.istore 5, 368) := pm_of cl361_3 10 (q := (366, .istore 5, 368)) rfl
theorem c361_368 : pm_code 361 368 = some (.aload_n 2, 369) := pm_of cl361_3 11 (q := (368, .aload_n 2, 369)) rfl
theorem c361_369 : pm_code 361 369 = some (.aload_n 0, 370) := pm_of cl361_3 12 (q := (369, .aload_n 0, 370)) rfl
theorem c361_370 : pm_code 361 370 = some (.iload 4, 372) := pm_of cl361_3 13 (q := (370, .iload 4, 372)) rfl
theorem c361_372 : pm_code 361 372 = some (.iconst 1, 373) := pm_of cl361_3 14 (q := (372, .iconst 1, 373)) rfl
theorem c361_373 : pm_code 361 373 = some (.iadd, 374) := pm_of cl361_3 15 (q := (373, .iadd, 374)) rfl
theorem c361_374 : pm_code 361 374 = some (.iaload, 375) := pm_of cl361_3 16 (q := (374, .iaload, 375)) rfl
theorem c361_375 : pm_code 361 375 = some (.aload_n 0, 376) := pm_of cl361_3 17 (q := (375, .aload_n 0, 376)) rfl
theorem c361_376 : pm_code 361 376 = some (.iload 4, 378) := pm_of cl361_3 18 (q := (376, .iload 4, 378)) rfl
theorem c361_378 : pm_code 361 378 = some (.iconst 2, 379) := pm_of cl361_3 19 (q := (378, .iconst 2, 379)) rfl
theorem c361_379 : pm_code 361 379 = some (.iadd, 380) := pm_of cl361_3 20 (q := (379, .iadd, 380)) rfl
theorem c361_380 : pm_code 361 380 = some (.iaload, 381) := pm_of cl361_3 21 (q := (380, .iaload, 381)) rfl
theorem c361_381 : pm_code 361 381 = some (.invokevirtual 135, 384) := pm_of cl361_3 22 (q := (381, .invokevirtual 135, 384)) rfl
theorem c361_384 : pm_code 361 384 = some (.istore 6, 386) := pm_of cl361_3 23 (q := (384, .istore 6, 386)) rfl
theorem c361_386 : pm_code 361 386 = some (.aload_n 2, 387) := pm_of cl361_3 24 (q := (386, .aload_n 2, 387)) rfl
theorem c361_387 : pm_code 361 387 = some (.invokevirtual 128, 390) := pm_of cl361_3 25 (q := (387, .invokevirtual 128, 390)) rfl
theorem c361_390 : pm_code 361 390 = some (.iload 5, 392) := pm_of cl361_3 26 (q := (390, .iload 5, 392)) rfl
theorem c361_392 : pm_code 361 392 = some (.if_icmp .eq 5, 395) := pm_of cl361_3 27 (q := (392, .if_icmp .eq 5, 395)) rfl
theorem c361_395 : pm_code 361 395 = some (.iconst 0, 396) := pm_of cl361_3 28 (q := (395, .iconst 0, 396)) rfl
theorem c361_396 : pm_code 361 396 = some (.ireturn, 397) := pm_of cl361_3 29 (q := (396, .ireturn, 397)) rfl
theorem c361_397 : pm_code 361 397 = some (.iload 5, 399) := pm_of cl361_3 30 (q := (397, .iload 5, 399)) rfl
theorem c361_399 : pm_code 361 399 = some (.ifCond .ne 15, 402) := pm_of cl361_3 31 (q := (399, .ifCond .ne 15, 402)) rfl
theorem c361_402 : pm_code 361 402 = some (.aload_n 3, 403) := pm_of cl361_3 32 (q := (402, .aload_n 3, 403)) rfl
theorem c361_403 : pm_code 361 403 = some (.iconst 0, 404) := pm_of cl361_3 33 (q := (403, .iconst 0, 404)) rfl
theorem c361_404 : pm_code 361 404 = some (.laload, 405) := pm_of cl361_3 34 (q := (404, .laload, 405)) rfl
theorem c361_405 : pm_code 361 405 = some (.iload 6, 407) := pm_of cl361_3 35 (q := (405, .iload 6, 407)) rfl
theorem c361_407 : pm_code 361 407 = some (.i2l, 408) := pm_of cl361_3 36 (q := (407, .i2l, 408)) rfl
theorem c361_408 : pm_code 361 408 = some (.lcmp, 409) := pm_of cl361_3 37 (q := (408, .lcmp, 409)) rfl
theorem c361_409 : pm_code 361 409 = some (.ifCond .eq 5, 412) := pm_of cl361_3 38 (q := (409, .ifCond .eq 5, 412)) rfl
theorem c361_412 : pm_code 361 412 = some (.iconst 0, 413) := pm_of cl361_3 39 (q := (412, .iconst 0, 413)) rfl
theorem cl361_4 : ([(413, .ireturn, 414), (414, .goto 2162, 417), (417, .aload_n 1, 418), (418, .aload_n 0, 419), (419, .iload 4, 421), (421, .iconst 1, 422), (422, .iadd, 423), (423, .iaload, 424), (424, .aload_n 3, 425), (425, .invokestatic 136, 428), (428, .istore 5, 430), (430, .aload_n 2, 431), (431, .aload_n 0, 432), (432, .iload 4, 434), (434, .iconst 1, 435), (435, .iadd, 436), (436, .iaload, 437), (437, .invokevirtual 138, 440), (440, .istore 6, 442), (442, .aload_n 2, 443), (443, .invokevirtual 128, 446), (446, .iload 5, 448), (448, .if_icmp .eq 5, 451), (451, .iconst 0, 452), (452, .ireturn, 453), (453, .iload 5, 455), (455, .ifCond .ne 15, 458), (458, .aload_n 3, 459), (459, .iconst 0, 460), (460, .laload, 461), (461, .iload 6, 463), (463, .i2l, 464), (464, .lcmp, 465), (465, .ifCond .eq 5, 468), (468, .iconst 0, 469), (469, .ireturn, 470), (470, .goto 2106, 473), (473, .aload_n 1, 474), (474, .aload_n 0, 475), (475, .iload 4, 477)] : List (Nat × Instr × Nat)).all (fun q => decide (pm_code 361 q.1 = some q.2)) = true := by decide +kernel
theorem c361_413 : pm_code 361 413 = some (.ireturn, 414) := pm_of cl361_4 0 (q := (413, .ireturn, 414)) rfl
theorem c361_414 : pm_code 361 414 = some (.goto 2162, 417) := pm_of cl361_4 1 (q := (414, .goto 2162, 417)) rfl
theorem c361_417 : pm_code 361 417 = some (.aload_n 1, 418) := pm_of cl361_4 2 (q := (417, .aload_n 1, 418)) rfl
theorem c361_418 : pm_code 361 418 = some (.aload_n 0, 419) := pm_of cl361_4 3 (q := (418, .aload_n 0, 419)) rfl
theorem c361_419 : pm_code 361 419 = some (.iload 4, 421) := pm_of cl361_4 4 (q := (419, .iload 4, 421)) rfl
theorem c361_421 : pm_code 361 421 = some (.iconst 1, 422) := pm_of cl361_4 5 (q := (421, .iconst 1, 422)) rfl
theorem c361_422 : pm_code 361 422 = some (.iadd, 423) := pm_of cl361_4 6 (q := (422, .iadd, 423)) rfl
theorem c361_423 : pm_code 361 423 = some (.iaload, 424) := pm_of cl361_4 7 (q := (423, .iaload, 424)) rfl
theorem c361_424 : pm_code 361 424 = some (.aload_n 3, 425) := pm_of cl361_4 8 (q := (424, .aload_n 3, 425)) rfl
theorem c361_425 : pm_code 361 425 = some (.invokestatic 136, 428) := pm_of cl361_4 9 (q := (425, .invokestatic 136, 428)) rfl
theorem c361_428 : pm_code 361 428 = some (.istore 5, 430) := pm_of cl361_4 10 (q := (428, .istore 5, 430)) rfl
theorem c361_430 : pm_code 361 430 = some (.aload_n 2, 431) := pm_of cl361_4 11 (q := (430, .aload_n 2, 431)) rfl
theorem c361_431 : pm_code 361 431 = some (.aload_n 0, 432) := pm_of cl361_4 12 (q := (431, .aload_n 0, 432)) rfl
theorem c361_432 : pm_code 361 432 = some (.iload 4, 434) := pm_of cl361_4 13 (q := (432, .iload 4, 434)) rfl
theorem c361_434 : pm_code 361 434 = some (.iconst 1, 435) := pm_of cl361_4 14 (q := (434, .iconst 1, 435)) rfl
theorem c361_435 : pm_code 361 435 = some (.iadd, 436) := pm_of cl361_4 15 (q := (435, .iadd, 436)) rfl
theorem c361_436 : pm_code 361 436 = some (.iaload, 437) := pm_of cl361_4 16 (q := (436, .iaload, 437)) rfl
theorem c361_437 : pm_code 361 437 = some (.invokevirtual 138, 440) := pm_of cl361_4 17 (q := (437, .invokevirtual 138, 440)) rfl
theorem c361_440 : pm_code 361 440 = some (.istore 6, 442) := pm_of cl361_4 18 (q := (440, .istore 6, 442)) rfl
theorem c361_442 : pm_code 361 442 = some (.aload_n 2, 443) := pm_of cl361_4 19 (q := (442, .aload_n 2, 443)) rfl
theorem c361_443 : pm_code 361 443 = some (.invokevirtual 128, 446) := pm_of cl361_4 20 (q := (443, .invokevirtual 128, 446)) rfl
theorem c361_446 : pm_code 361 446 = some (.iload 5, 448) := pm_of cl361_4 21 (q := (446, .iload 5, 448)) rfl
theorem c361_448 : pm_code 361 448 = some (.if_icmp .eq 5, 451) := pm_of cl361_4 22 (q := (448, .if_icmp .eq 5, 451)) rfl
theorem c361_451 : pm_code 361 451 = some (.iconst 0, 452) := pm_of cl361_4 23 (q := (451, .iconst 0, 452)) rfl
theorem c361_452 : pm_code 361 452 = some (.ireturn, 453) := pm_of cl361_4 24 (q := (452, .ireturn, 453)) rfl
theorem c361_453 : pm_code 361 453 = some (.iload 5, 455) := pm_of cl361_4 25 (q := (453, .iload 5, 455)) rfl
theorem c361_455 : pm_code 361 455 = some (.ifCond .ne 15, 458) := pm_of cl361_4 26 (q := (455, .ifCond .ne 15, 458)) rfl
theorem c361_458 : pm_code 361 458 = some (.aload_n 3, 459) := pm_of cl361_4 27 (q := (458, .aload_n 3, 459)) rfl
theorem c361_459 : pm_code 361 459 = some (.iconst 0, 460) := pm_of cl361_4 28 (q := (459, .iconst 0, 460)) rfl
theorem c361_460 : pm_code 361 460 = some (.laload, 461) := pm_of cl361_4 29 (q := (460, .laload, 461)) rfl
theorem c361_461 : pm_code 361 461 = some (.iload 6, 463) := pm_of cl361_4 30 (q := (461, .iload 6, 463)) rfl
theorem c361_463 : pm_code 361 463 = some (.i2l, 464) := pm_of cl361_4 31 (q := (463, .i2l, 464)) rfl
theorem c361_464 : pm_code 361 464 = some (.lcmp, 465) := pm_of cl361_4 32 (q := (464, .lcmp, 465)) rfl
theorem c361_465 : pm_code 361 465 = some (.ifCond .eq 5, 468) := pm_of cl361_4 33 (q := (465, .ifCond .eq 5, 468)) rfl
theorem c361_468 : pm_code 361 468 = some (.iconst 0, 469) := pm_of cl361_4 34 (q := (468, .iconst 0, 469)) rfl
theorem c361_469 : pm_code 361 469 = some (.ireturn, 470) := pm_of cl361_4 35 (q := (469, .ireturn, 470)) rfl
theorem c361_470 : pm_code 361 470 = some (.goto 2106, 473) := pm_of cl361_4 36 (q := (470, .goto 2106, 473)) rfl
theorem c361_473 : pm_code 361 473 = some (.aload_n 1, 474) := pm_of cl361_4 37 (q := (473, .aload_n 1, 474)) rfl
theorem c361_474 : pm_code 361 474 = some (.aload_n 0, 475) := pm_of cl361_4 38 (q := (474, .aload_n 0, 475)) rfl
theorem c361_475 : pm_code 361 475 = some (.iload 4, 477) := pm_of cl361_4 39 (q := (475, .iload 4, 477)) rfl

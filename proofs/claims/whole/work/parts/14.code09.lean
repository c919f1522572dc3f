/-! WHAT STANDS AT EVERY PLACE, ON -/
theorem k361 : pm_k 361 = 13 := by decide +kernel
theorem ml361 : pm_ml 361 = 8 := by decide +kernel
theorem rt361 : pm_rt 361 = (some .boolean) := by decide +kernel
theorem hh361 : pm_hh 361 = [] := by decide +kernel
theorem cl361_0 : ([(0, .new 8, 3), (3, .dup, 4), (4, .invokespecial 114, 7), (7, .astore_n 1, 8), (8, .new 115, 11), (11, .dup, 12), (12, .invokespecial 117, 15), (15, .astore_n 2, 16), (16, .iconst 1, 17), (17, .newarray .long, 19), (19, .astore_n 3, 20), (20, .iconst 0, 21), (21, .istore 4, 23), (23, .iload 4, 25), (25, .aload_n 0, 26), (26, .arraylength, 27), (27, .bipush 7, 29), (29, .isub, 30), (30, .if_icmp .gt 2552, 33), (33, .aload_n 0, 34), (34, .iload 4, 36), (36, .iaload, 37), (37, .bipush 63, 39), (39, .iand, 40), (40, .tableswitch 2536 0 40 #[180, 253, 309, 377, 433, 489, 502, 515, 571, 639, 707, 775, 831, 949, 962, 1018, 1074, 1142, 1210, 1266, 1322, 1335, 1391, 1447, 1510, 1566, 1622, 1635, 1703, 1771, 1850, 1918, 1998, 2066, 2158, 2238, 2342, 2460, 2473, 2486, 2511], 220), (220, .aload_n 1, 221), (221, .aload_n 0, 222), (222, .iload 4, 224), (224, .iconst 1, 225), (225, .iadd, 226), (226, .iaload, 227), (227, .aload_n 0, 228), (228, .iload 4, 230), (230, .iconst 2, 231), (231, .iadd, 232), (232, .iaload, 233), (233, .aload_n 0, 234), (234, .iload 4, 236), (236, .iconst 3, 237), (237, .iadd, 238)] : List (Nat × Instr × Nat)).all (fun q => decide (pm_code 361 q.1 = some q.2)) = true := by decide +kernel
theorem c361_0 : pm_code 361 0 = some (.new 8, 3) := pm_of cl361_0 0 (q := (0, .new 8, 3)) rfl
theorem c361_3 : pm_code 361 3 = some (.dup, 4) := pm_of cl361_0 1 (q := (3, .dup, 4)) rfl
theorem c361_4 : pm_code 361 4 = some (.invokespecial 114, 7) := pm_of cl361_0 2 (q := (4, .invokespecial 114, 7)) rfl
theorem c361_7 : pm_code 361 7 = some (.astore_n 1, 8) := pm_of cl361_0 3 (q := (7, .astore_n 1, 8)) rfl
theorem c361_8 : pm_code 361 8 = some (.new 115, 11) := pm_of cl361_0 4 (q := (8, .new 115, 11)) rfl
theorem c361_11 : pm_code 361 11 = some (.dup, 12) := pm_of cl361_0 5 (q := (11, .dup, 12)) rfl
theorem c361_12 : pm_code 361 12 = some (.invokespecial 117, 15) := pm_of cl361_0 6 (q := (12, .invokespecial 117, 15)) rfl
theorem c361_15 : pm_code 361 15 = some (.astore_n 2, 16) := pm_of cl361_0 7 (q := (15, .astore_n 2, 16)) rfl
theorem c361_16 : pm_code 361 16 = some (.iconst 1, 17) := pm_of cl361_0 8 (q := (16, .iconst 1, 17)) rfl
theorem c361_17 : pm_code 361 17 = some (.newarray .long, 19) := pm_of cl361_0 9 (q := (17, .newarray .long, 19)) rfl
theorem c361_19 : pm_code 361 19 = some (.astore_n 3, 20) := pm_of cl361_0 10 (q := (19, .astore_n 3, 20)) rfl
theorem c361_20 : pm_code 361 20 = some (.iconst 0, 21) := pm_of cl361_0 11 (q := (20, .iconst 0, 21)) rfl
theorem c361_21 : pm_code 361 21 = some (.istore 4, 23) := pm_of cl361_0 12 (q := (21, .istore 4, 23)) rfl
theorem c361_23 : pm_code 361 23 = some (.iload 4, 25) := pm_of cl361_0 13 (q := (23, .iload 4, 25)) rfl
theorem c361_25 : pm_code 361 25 = some (.aload_n 0, 26) := pm_of cl361_0 14 (q := (25, .aload_n 0, 26)) rfl
theorem c361_26 : pm_code 361 26 = some (.arraylength, 27) := pm_of cl361_0 15 (q := (26, .arraylength, 27)) rfl
theorem c361_27 : pm_code 361 27 = some (.bipush 7, 29) := pm_of cl361_0 16 (q := (27, .bipush 7, 29)) rfl
theorem c361_29 : pm_code 361 29 = some (.isub, 30) := pm_of cl361_0 17 (q := (29, .isub, 30)) rfl
theorem c361_30 : pm_code 361 30 = some (.if_icmp .gt 2552, 33) := pm_of cl361_0 18 (q := (30, .if_icmp .gt 2552, 33)) rfl
theorem c361_33 : pm_code 361 33 = some (.aload_n 0, 34) := pm_of cl361_0 19 (q := (33, .aload_n 0, 34)) rfl
theorem c361_34 : pm_code 361 34 = some (.iload 4, 36) := pm_of cl361_0 20 (q := (34, .iload 4, 36)) rfl
theorem c361_36 : pm_code 361 36 = some (.iaload, 37) := pm_of cl361_0 21 (q := (36, .iaload, 37)) rfl
theorem c361_37 : pm_code 361 37 = some (.bipush 63, 39) := pm_of cl361_0 22 (q := (37, .bipush 63, 39)) rfl
theorem c361_39 : pm_code 361 39 = some (.iand, 40) := pm_of cl361_0 23 (q := (39, .iand, 40)) rfl
theorem c361_40 : pm_code 361 40 = some (.tableswitch 2536 0 40 #[180, 253, 309, 377, 433, 489, 502, 515, 571, 639, 707, 775, 831, 949, 962, 1018, 1074, 1142, 1210, 1266, 1322, 1335, 1391, 1447, 1510, 1566, 1622, 1635, 1703, 1771, 1850, 1918, 1998, 2066, 2158, 2238, 2342, 2460, 2473, 2486, 2511], 220) := pm_of cl361_0 24 (q := (40, .tableswitch 2536 0 40 #[180, 253, 309, 377, 433, 489, 502, 515, 571, 639, 707, 775, 831, 949, 962, 1018, 1074, 1142, 1210, 1266, 1322, 1335, 1391, 1447, 1510, 1566, 1622, 1635, 1703, 1771, 1850, 1918, 1998, 2066, 2158, 2238, 2342, 2460, 2473, 2486, 2511], 220)) rfl
theorem c361_220 : pm_code 361 220 = some (.aload_n 1, 221) := pm_of cl361_0 25 (q := (220, .aload_n 1, 221)) rfl
theorem c361_221 : pm_code 361 221 = some (.aload_n 0, 222) := pm_of cl361_0 26 (q := (221, .aload_n 0, 222)) rfl
theorem c361_222 : pm_code 361 222 = some (.iload 4, 224) := pm_of cl361_0 27 (q := (222, .iload 4, 224)) rfl
theorem c361_224 : pm_code 361 224 = some (.iconst 1, 225) := pm_of cl361_0 28 (q := (224, .iconst 1, 225)) rfl
theorem c361_225 : pm_code 361 225 = some (.iadd, 226) := pm_of cl361_0 29 (q := (225, .iadd, 226)) rfl
theorem c361_226 : pm_code 361 226 = some (.iaload, 227) := pm_of cl361_0 30 (q := (226, .iaload, 227)) rfl
theorem c361_227 : pm_code 361 227 = some (.aload_n 0, 228) := pm_of cl361_0 31 (q := (227, .aload_n 0, 228)) rfl
theorem c361_228 : pm_code 361 228 = some (.iload 4, 230) := pm_of cl361_0 32 (q := (228, .iload 4, 230)) rfl
theorem c361_230 : pm_code 361 230 = some (.iconst 2, 231) := pm_of cl361_0 33 (q := (230, .iconst 2, 231)) rfl
theorem c361_231 : pm_code 361 231 = some (.iadd, 232) := pm_of cl361_0 34 (q := (231, .iadd, 232)) rfl
theorem c361_232 : pm_code 361 232 = some (.iaload, 233) := pm_of cl361_0 35 (q := (232, .iaload, 233)) rfl
theorem c361_233 : pm_code 361 233 = some (.aload_n 0, 234) := pm_of cl361_0 36 (q := (233, .aload_n 0, 234)) rfl
theorem c361_234 : pm_code 361 234 = some (.iload 4, 236) := pm_of cl361_0 37 (q := (234, .iload 4, 236)) rfl
theorem c361_236 : pm_code 361 236 = some (.iconst 3, 237) := pm_of cl361_0 38 (q := (236, .iconst 3, 237)) rfl
theorem c361_237 : pm_code 361 237 = some (.iadd, 238) := pm_of cl361_0 39 (q := (237, .iadd, 238)) rfl
theorem cl361_1 : ([(238, .iaload, 239), (239, .aload_n 0, 240), (240, .iload 4, 242), (242, .iconst 4, 243), (243, .iadd, 244), (244, .iaload, 245), (245, .aload_n 0, 246), (246, .iload 4, 248), (248, .iconst 5, 249), (249, .iadd, 250), (250, .iaload, 251), (251, .invokevirtual 118, 254), (254, .aload_n 2, 255), (255, .aload_n 0, 256), (256, .iload 4, 258), (258, .iconst 1, 259), (259, .iadd, 260), (260, .iaload, 261), (261, .aload_n 0, 262), (262, .iload 4, 264), (264, .iconst 2, 265), (265, .iadd, 266), (266, .iaload, 267), (267, .aload_n 0, 268), (268, .iload 4, 270), (270, .iconst 3, 271), (271, .iadd, 272), (272, .iaload, 273), (273, .aload_n 0, 274), (274, .iload 4, 276), (276, .iconst 4, 277), (277, .iadd, 278), (278, .iaload, 279), (279, .aload_n 0, 280), (280, .iload 4, 282), (282, .iconst 5, 283), (283, .iadd, 284), (284, .iaload, 285), (285, .invokevirtual 121, 288), (288, .if_icmp .eq 2288, 291)] : List (Nat × Instr × Nat)).all (fun q => decide (pm_code 361 q.1 = some q.2)) = true := by decide +kernel
theorem c361_238 : pm_code 361 238 = some (.iaload, 239) := pm_of cl361_1 0 (q := (238, .iaload, 239)) rfl
theorem c361_239 : pm_code 361 239 = some (.aload_n 0, 240) := pm_of cl361_1 1 (q := (239, .aload_n 0, 240)) rfl
theorem c361_240 : pm_code 361 240 = some (.iload 4, 242) := pm_of cl361_1 2 (q := (240, .iload 4, 242)) rfl
theorem c361_242 : pm_code 361 242 = some (.iconst 4, 243) := pm_of cl361_1 3 (q := (242, .iconst 4, 243)) rfl
theorem c361_243 : pm_code 361 243 = some (.iadd, 244) := pm_of cl361_1 4 (q := (243, .iadd, 244)) rfl
theorem c361_244 : pm_code 361 244 = some (.iaload, 245) := pm_of cl361_1 5 (q := (244, .iaload, 245)) rfl
theorem c361_245 : pm_code 361 245 = some (.aload_n 0, 246) := pm_of cl361_1 6 (q := (245, .aload_n 0, 246)) rfl
theorem c361_246 : pm_code 361 246 = some (.iload 4, 248) := pm_of cl361_1 7 (q := (246, .iload 4, 248)) rfl
theorem c361_248 : pm_code 361 248 = some (.iconst 5, 249) := pm_of cl361_1 8 (q := (248, .iconst 5, 249)) rfl
theorem c361_249 : pm_code 361 249 = some (.iadd, 250) := pm_of cl361_1 9 (q := (249, .iadd, 250)) rfl
theorem c361_250 : pm_code 361 250 = some (.iaload, 251) := pm_of cl361_1 10 (q := (250, .iaload, 251)) rfl
theorem c361_251 : pm_code 361 251 = some (.invokevirtual 118, 254) := pm_of cl361_1 11 (q := (251, .invokevirtual 118, 254)) rfl
theorem c361_254 : pm_code 361 254 = some (.aload_n 2, 255) := pm_of cl361_1 12 (q := (254, .aload_n 2, 255)) rfl
theorem c361_255 : pm_code 361 255 = some (.aload_n 0, 256) := pm_of cl361_1 13 (q := (255, .aload_n 0, 256)) rfl
theorem c361_256 : pm_code 361 256 = some (.iload 4, 258) := pm_of cl361_1 14 (q := (256, .iload 4, 258)) rfl
theorem c361_258 : pm_code 361 258 = some (.iconst 1, 259) := pm_of cl361_1 15 (q := (258, .iconst 1, 259)) rfl
theorem c361_259 : pm_code 361 259 = some (.iadd, 260) := pm_of cl361_1 16 (q := (259, .iadd, 260)) rfl
theorem c361_260 : pm_code 361 260 = some (.iaload, 261) := pm_of cl361_1 17 (q := (260, .iaload, 261)) rfl
theorem c361_261 : pm_code 361 261 = some (.aload_n 0, 262) := pm_of cl361_1 18 (q := (261, .aload_n 0, 262)) rfl
theorem c361_262 : pm_code 361 262 = some (.iload 4, 264) := pm_of cl361_1 19 (q := (262, .iload 4, 264)) rfl
theorem c361_264 : pm_code 361 264 = some (.iconst 2, 265) := pm_of cl361_1 20 (q := (264, .iconst 2, 265)) rfl
theorem c361_265 : pm_code 361 265 = some (.iadd, 266) := pm_of cl361_1 21 (q := (265, .iadd, 266)) rfl
theorem c361_266 : pm_code 361 266 = some (.iaload, 267) := pm_of cl361_1 22 (q := (266, .iaload, 267)) rfl
theorem c361_267 : pm_code 361 267 = some (.aload_n 0, 268) := pm_of cl361_1 23 (q := (267, .aload_n 0, 268)) rfl
theorem c361_268 : pm_code 361 268 = some (.iload 4, 270) := pm_of cl361_1 24 (q := (268, .iload 4, 270)) rfl
theorem c361_270 : pm_code 361 270 = some (.iconst 3, 271) := pm_of cl361_1 25 (q := (270, .iconst 3, 271)) rfl
theorem c361_271 : pm_code 361 271 = some (.iadd, 272) := pm_of cl361_1 26 (q := (271, .iadd, 272)) rfl
theorem c361_272 : pm_code 361 272 = some (.iaload, 273) := pm_of cl361_1 27 (q := (272, .iaload, 273)) rfl
theorem c361_273 : pm_code 361 273 = some (.aload_n 0, 274) := pm_of cl361_1 28 (q := (273, .aload_n 0, 274)) rfl
theorem c361_274 : pm_code 361 274 = some (.iload 4, 276) := pm_of cl361_1 29 (q := (274, .iload 4, 276)) rfl
theorem c361_276 : pm_code 361 276 = some (.iconst 4, 277) := pm_of cl361_1 30 (q := (276, .iconst 4, 277)) rfl
theorem c361_277 : pm_code 361 277 = some (.iadd, 278) := pm_of cl361_1 31 (q := (277, .iadd, 278)) rfl
theorem c361_278 : pm_code 361 278 = some (.iaload, 279) := pm_of cl361_1 32 (q := (278, .iaload, 279)) rfl
theorem c361_279 : pm_code 361 279 = some (.aload_n 0, 280) := pm_of cl361_1 33 (q := (279, .aload_n 0, 280)) rfl
theorem c361_280 : pm_code 361 280 = some (.iload 4, 282) := pm_of cl361_1 34 (q := (280, .iload 4, 282)) rfl
theorem c361_282 : pm_code 361 282 = some (.iconst 5, 283) := pm_of cl361_1 35 (q := (282, .iconst 5, 283)) rfl
theorem c361_283 : pm_code 361 283 = some (.iadd, 284) := pm_of cl361_1 36 (q := (283, .iadd, 284)) rfl
theorem c361_284 : pm_code 361 284 = some (.iaload, 285) := pm_of cl361_1 37 (q := (284, .iaload, 285)) rfl
theorem c361_285 : pm_code 361 285 = some (.invokevirtual 121, 288) := pm_of cl361_1 38 (q := (285, .invokevirtual 121, 288)) rfl
theorem c361_288 : pm_code 361 288 = some (.if_icmp .eq 2288, 291) := pm_of cl361_1 39 (q := (288, .if_icmp .eq 2288, 291)) rfl
theorem cl361_2 : ([(291, .iconst 0, 292), (292, .ireturn, 293), (293, .aload_n 1, 294), (294, .aload_n 0, 295), (295, .iload 4, 297), (297, .iconst 1, 298), (298, .iadd, 299), (299, .iaload, 300), (300, .aload_n 3, 301), (301, .invokestatic 122, 304), (304, .istore 5, 306), (306, .aload_n 2, 307), (307, .aload_n 0, 308), (308, .iload 4, 310), (310, .iconst 1, 311), (311, .iadd, 312), (312, .iaload, 313), (313, .invokevirtual 127, 316), (316, .istore 6, 318), (318, .aload_n 2, 319), (319, .invokevirtual 128, 322), (322, .iload 5, 324), (324, .if_icmp .eq 5, 327), (327, .iconst 0, 328), (328, .ireturn, 329), (329, .iload 5, 331), (331, .ifCond .ne 15, 334), (334, .aload_n 3, 335), (335, .iconst 0, 336), (336, .laload, 337), (337, .iload 6, 339), (339, .i2l, 340), (340, .lcmp, 341), (341, .ifCond .eq 5, 344), (344, .iconst 0, 345), (345, .ireturn, 346), (346, .goto 2230, 349), (349, .aload_n 1, 350), (350, .aload_n 0, 351), (351, .iload 4, 353)] : List (Nat × Instr × Nat)).all (fun q => decide (pm_code 361 q.1 = some q.2)) = true := by decide +kernel
theorem c361_291 : pm_code 361 291 = some (.iconst 0, 292) := pm_of cl361_2 0 (q := (291, .iconst 0, 292)) rfl
theorem c361_292 : pm_code 361 292 = some (.ireturn, 293) := pm_of cl361_2 1 (q := (292, .ireturn, 293)) rfl
theorem c361_293 : pm_code 361 293 = some (.aload_n 1, 294) := pm_of cl361_2 2 (q := (293, .aload_n 1, 294)) rfl
theorem c361_294 : pm_code 361 294 = some (.aload_n 0, 295) := pm_of cl361_2 3 (q := (294, .aload_n 0, 295)) rfl
theorem c361_295 : pm_code 361 295 = some (.iload 4, 297) := pm_of cl361_2 4 (q := (295, .iload 4, 297)) rfl
theorem c361_297 : pm_code 361 297 = some (.iconst 1, 298) := pm_of cl361_2 5 (q := (297, .iconst 1, 298)) rfl
theorem c361_298 : pm_code 361 298 = some (.iadd, 299) := pm_of cl361_2 6 (q := (298, .iadd, 299)) rfl
theorem c361_299 : pm_code 361 299 = some (.iaload, 300) := pm_of cl361_2 7 (q := (299, .iaload, 300)) rfl
theorem c361_300 : pm_code 361 300 = some (.aload_n 3, 301) := pm_of cl361_2 8 (q := (300, .aload_n 3, 301)) rfl
theorem c361_301 : pm_code 361 301 = some (.invokestatic 122, 304) := pm_of cl361_2 9 (q := (301, .invokestatic 122, 304)) rfl
theorem c361_304 : pm_code 361 304 = some (.istore 5, 306) := pm_of cl361_2 10 (q := (304, .istore 5, 306)) rfl
theorem c361_306 : pm_code 361 306 = some (.aload_n 2, 307) := pm_of cl361_2 11 (q := (306, .aload_n 2, 307)) rfl
theorem c361_307 : pm_code 361 307 = some (.aload_n 0, 308) := pm_of cl361_2 12 (q := (307, .aload_n 0, 308)) rfl
theorem c361_308 : pm_code 361 308 = some (.iload 4, 310) := pm_of cl361_2 13 (q := (308, .iload 4, 310)) rfl
theorem c361_310 : pm_code 361 310 = some (.iconst 1, 311) := pm_of cl361_2 14 (q := (310, .iconst 1, 311)) rfl
theorem c361_311 : pm_code 361 311 = some (.iadd, 312) := pm_of cl361_2 15 (q := (311, .iadd, 312)) rfl
theorem c361_312 : pm_code 361 312 = some (.iaload, 313) := pm_of cl361_2 16 (q := (312, .iaload, 313)) rfl
theorem c361_313 : pm_code 361 313 = some (.invokevirtual 127, 316) := pm_of cl361_2 17 (q := (313, .invokevirtual 127, 316)) rfl
theorem c361_316 : pm_code 361 316 = some (.istore 6, 318) := pm_of cl361_2 18 (q := (316, .istore 6, 318)) rfl
theorem c361_318 : pm_code 361 318 = some (.aload_n 2, 319) := pm_of cl361_2 19 (q := (318, .aload_n 2, 319)) rfl
theorem c361_319 : pm_code 361 319 = some (.invokevirtual 128, 322) := pm_of cl361_2 20 (q := (319, .invokevirtual 128, 322)) rfl
theorem c361_322 : pm_code 361 322 = some (.iload 5, 324) := pm_of cl361_2 21 (q := (322, .iload 5, 324)) rfl
theorem c361_324 : pm_code 361 324 = some (.if_icmp .eq 5, 327) := pm_of cl361_2 22 (q := (324, .if_icmp .eq 5, 327)) rfl
theorem c361_327 : pm_code 361 327 = some (.iconst 0, 328) := pm_of cl361_2 23 (q := (327, .iconst 0, 328)) rfl
theorem c361_328 : pm_code 361 328 = some (.ireturn, 329) := pm_of cl361_2 24 (q := (328, .ireturn, 329)) rfl
theorem c361_329 : pm_code 361 329 = some (.iload 5, 331) := pm_of cl361_2 25 (q := (329, .iload 5, 331)) rfl
theorem c361_331 : pm_code 361 331 = some (.ifCond .ne 15, 334) := pm_of cl361_2 26 (q := (331, .ifCond .ne 15, 334)) rfl
theorem c361_334 : pm_code 361 334 = some (.aload_n 3, 335) := pm_of cl361_2 27 (q := (334, .aload_n 3, 335)) rfl
theorem c361_335 : pm_code 361 335 = some (.iconst 0, 336) := pm_of cl361_2 28 (q := (335, .iconst 0, 336)) rfl
theorem c361_336 : pm_code 361 336 = some (.laload, 337) := pm_of cl361_2 29 (q := (336, .laload, 337)) rfl
theorem c361_337 : pm_code 361 337 = some (.iload 6, 339) := pm_of cl361_2 30 (q := (337, .iload 6, 339)) rfl
theorem c361_339 : pm_code 361 339 = some (.i2l, 340) := pm_of cl361_2 31 (q := (339, .i2l, 340)) rfl
theorem c361_340 : pm_code 361 340 = some (.lcmp, 341) := pm_of cl361_2 32 (q := (340, .lcmp, 341)) rfl
theorem c361_341 : pm_code 361 341 = some (.ifCond .eq 5, 344) := pm_of cl361_2 33 (q := (341, .ifCond .eq 5, 344)) rfl
theorem c361_344 : pm_code 361 344 = some (.iconst 0, 345) := pm_of cl361_2 34 (q := (344, .iconst 0, 345)) rfl
theorem c361_345 : pm_code 361 345 = some (.ireturn, 346) := pm_of cl361_2 35 (q := (345, .ireturn, 346)) rfl
theorem c361_346 : pm_code 361 346 = some (.goto 2230, 349) := pm_of cl361_2 36 (q := (346, .goto 2230, 349)) rfl
theorem c361_349 : pm_code 361 349 = some (.aload_n 1, 350) := pm_of cl361_2 37 (q := (349, .aload_n 1, 350)) rfl
theorem c361_350 : pm_code 361 350 = some (.aload_n 0, 351) := pm_of cl361_2 38 (q := (350, .aload_n 0, 351)) rfl
theorem c361_351 : pm_code 361 351 = some (.iload 4, 353) := pm_of cl361_2 39 (q := (351, .iload 4, 353)) rfl
theorem cl361_3 : ([(353, .iconst 1, 354), (354, .iadd, 355), (355, .iaload, 356), (356, .aload_n 0, 357), (357, .iload 4, 359), (359, .iconst 2, 360), (360, .iadd, 361), (361, .iaload, 362), (362, .aload_n 3, 363), (363, .invokestatic 132, 366), (366, .istore 5, 368), (368, .aload_n 2, 369), (369, .aload_n 0, 370), (370, .iload 4, 372), (372, .iconst 1, 373), (373, .iadd, 374), (374, .iaload, 375), (375, .aload_n 0, 376), (376, .iload 4, 378), (378, .iconst 2, 379), (379, .iadd, 380), (380, .iaload, 381), (381, .invokevirtual 135, 384), (384, .istore 6, 386), (386, .aload_n 2, 387), (387, .invokevirtual 128, 390), (390, .iload 5, 392), (392, .if_icmp .eq 5, 395), (395, .iconst 0, 396), (396, .ireturn, 397), (397, .iload 5, 399), (399, .ifCond .ne 15, 402), (402, .aload_n 3, 403), (403, .iconst 0, 404), (404, .laload, 405), (405, .iload 6, 407), (407, .i2l, 408), (408, .lcmp, 409), (409, .ifCond .eq 5, 412), (412, .iconst 0, 413)] : List (Nat × Instr × Nat)).all (fun q => decide (pm_code 361 q.1 = some q.2)) = true := by decide +kernel
theorem c361_353 : pm_code 361 353 = some (.iconst 1, 354) := pm_of cl361_3 0 (q := (353, .iconst 1, 354)) rfl
theorem c361_354 : pm_code 361 354 = some (.iadd, 355) := pm_of cl361_3 1 (q := (354, .iadd, 355)) rfl
theorem c361_355 : pm_code 361 355 = some (.iaload, 356) := pm_of cl361_3 2 (q := (355, .iaload, 356)) rfl
theorem c361_356 : pm_code 361 356 = some (.aload_n 0, 357) := pm_of cl361_3 3 (q := (356, .aload_n 0, 357)) rfl
theorem c361_357 : pm_code 361 357 = some (.iload 4, 359) := pm_of cl361_3 4 (q := (357, .iload 4, 359)) rfl
theorem c361_359 : pm_code 361 359 = some (.iconst 2, 360) := pm_of cl361_3 5 (q := (359, .iconst 2, 360)) rfl
theorem c361_360 : pm_code 361 360 = some (.iadd, 361) := pm_of cl361_3 6 (q := (360, .iadd, 361)) rfl
theorem c361_361 : pm_code 361 361 = some (.iaload, 362) := pm_of cl361_3 7 (q := (361, .iaload, 362)) rfl
theorem c361_362 : pm_code 361 362 = some (.aload_n 3, 363) := pm_of cl361_3 8 (q := (362, .aload_n 3, 363)) rfl
theorem c361_363 : pm_code 361 363 = some (.invokestatic 132, 366) := pm_of cl361_3 9 (q := (363, .invokestatic 132, 366)) rfl
theorem c361_366 : pm_code 361 366 = some (.istore 5, 368) := pm_of cl361_3 10 (q := (366, .istore 5, 368)) rfl
theorem c361_368 : pm_code 361 368 = some (.aload_n 2, 369) := pm_of cl361_3 11 (q := (368, .aload_n 2, 369)) rfl
theorem c361_369 : pm_code 361 369 = some (.aload_n 0, 370) := pm_of cl361_3 12 (q := (369, .aload_n 0, 370)) rfl
theorem c361_370 : pm_code 361 370 = some (.iload 4, 372) := pm_of cl361_3 13 (q := (370, .iload 4, 372)) rfl
theorem c361_372 : pm_code 361 372 = some (.iconst 1, 373) := pm_of cl361_3 14 (q := (372, .iconst 1, 373)) rfl
theorem c361_373 : pm_code 361 373 = some (.iadd, 374) := pm_of cl361_3 15 (q := (373, .iadd, 374)) rfl
theorem c361_374 : pm_code 361 374 = some (.iaload, 375) := pm_of cl361_3 16 (q := (374, .iaload, 375)) rfl
theorem c361_375 : pm_code 361 375 = some (.aload_n 0, 376) := pm_of cl361_3 17 (q := (375, .aload_n 0, 376)) rfl
theorem c361_376 : pm_code 361 376 = some (.iload 4, 378) := pm_of cl361_3 18 (q := (376, .iload 4, 378)) rfl
theorem c361_378 : pm_code 361 378 = some (.iconst 2, 379) := pm_of cl361_3 19 (q := (378, .iconst 2, 379)) rfl
theorem c361_379 : pm_code 361 379 = some (.iadd, 380) := pm_of cl361_3 20 (q := (379, .iadd, 380)) rfl
theorem c361_380 : pm_code 361 380 = some (.iaload, 381) := pm_of cl361_3 21 (q := (380, .iaload, 381)) rfl
theorem c361_381 : pm_code 361 381 = some (.invokevirtual 135, 384) := pm_of cl361_3 22 (q := (381, .invokevirtual 135, 384)) rfl
theorem c361_384 : pm_code 361 384 = some (.istore 6, 386) := pm_of cl361_3 23 (q := (384, .istore 6, 386)) rfl
theorem c361_386 : pm_code 361 386 = some (.aload_n 2, 387) := pm_of cl361_3 24 (q := (386, .aload_n 2, 387)) rfl
theorem c361_387 : pm_code 361 387 = some (.invokevirtual 128, 390) := pm_of cl361_3 25 (q := (387, .invokevirtual 128, 390)) rfl
theorem c361_390 : pm_code 361 390 = some (.iload 5, 392) := pm_of cl361_3 26 (q := (390, .iload 5, 392)) rfl
theorem c361_392 : pm_code 361 392 = some (.if_icmp .eq 5, 395) := pm_of cl361_3 27 (q := (392, .if_icmp .eq 5, 395)) rfl
theorem c361_395 : pm_code 361 395 = some (.iconst 0, 396) := pm_of cl361_3 28 (q := (395, .iconst 0, 396)) rfl
theorem c361_396 : pm_code 361 396 = some (.ireturn, 397) := pm_of cl361_3 29 (q := (396, .ireturn, 397)) rfl
theorem c361_397 : pm_code 361 397 = some (.iload 5, 399) := pm_of cl361_3 30 (q := (397, .iload 5, 399)) rfl
theorem c361_399 : pm_code 361 399 = some (.ifCond .ne 15, 402) := pm_of cl361_3 31 (q := (399, .ifCond .ne 15, 402)) rfl
theorem c361_402 : pm_code 361 402 = some (.aload_n 3, 403) := pm_of cl361_3 32 (q := (402, .aload_n 3, 403)) rfl
theorem c361_403 : pm_code 361 403 = some (.iconst 0, 404) := pm_of cl361_3 33 (q := (403, .iconst 0, 404)) rfl
theorem c361_404 : pm_code 361 404 = some (.laload, 405) := pm_of cl361_3 34 (q := (404, .laload, 405)) rfl
theorem c361_405 : pm_code 361 405 = some (.iload 6, 407) := pm_of cl361_3 35 (q := (405, .iload 6, 407)) rfl
theorem c361_407 : pm_code 361 407 = some (.i2l, 408) := pm_of cl361_3 36 (q := (407, .i2l, 408)) rfl
theorem c361_408 : pm_code 361 408 = some (.lcmp, 409) := pm_of cl361_3 37 (q := (408, .lcmp, 409)) rfl
theorem c361_409 : pm_code 361 409 = some (.ifCond .eq 5, 412) := pm_of cl361_3 38 (q := (409, .ifCond .eq 5, 412)) rfl
theorem c361_412 : pm_code 361 412 = some (.iconst 0, 413) := pm_of cl361_3 39 (q := (412, .iconst 0, 413)) rfl
theorem cl361_4 : ([(413, .ireturn, 414), (414, .goto 2162, 417), (417, .aload_n 1, 418), (418, .aload_n 0, 419), (419, .iload 4, 421), (421, .iconst 1, 422), (422, .iadd, 423), (423, .iaload, 424), (424, .aload_n 3, 425), (425, .invokestatic 136, 428), (428, .istore 5, 430), (430, .aload_n 2, 431), (431, .aload_n 0, 432), (432, .iload 4, 434), (434, .iconst 1, 435), (435, .iadd, 436), (436, .iaload, 437), (437, .invokevirtual 138, 440), (440, .istore 6, 442), (442, .aload_n 2, 443), (443, .invokevirtual 128, 446), (446, .iload 5, 448), (448, .if_icmp .eq 5, 451), (451, .iconst 0, 452), (452, .ireturn, 453), (453, .iload 5, 455), (455, .ifCond .ne 15, 458), (458, .aload_n 3, 459), (459, .iconst 0, 460), (460, .laload, 461), (461, .iload 6, 463), (463, .i2l, 464), (464, .lcmp, 465), (465, .ifCond .eq 5, 468), (468, .iconst 0, 469), (469, .ireturn, 470), (470, .goto 2106, 473), (473, .aload_n 1, 474), (474, .aload_n 0, 475), (475, .iload 4, 477)] : List (Nat × Instr × Nat)).all (fun q => decide (pm_code 361 q.1 = some q.2)) = true := by decide +kernel
theorem c361_413 : pm_code 361 413 = some (.ireturn, 414) := pm_of cl361_4 0 (q := (413, .ireturn, 414)) rfl
theorem c361_414 : pm_code 361 414 = some (.goto 2162, 417) := pm_of cl361_4 1 (q := (414, .goto 2162, 417)) rfl
theorem c361_417 : pm_code 361 417 = some (.aload_n 1, 418) := pm_of cl361_4 2 (q := (417, .aload_n 1, 418)) rfl
theorem c361_418 : pm_code 361 418 = some (.aload_n 0, 419) := pm_of cl361_4 3 (q := (418, .aload_n 0, 419)) rfl
theorem c361_419 : pm_code 361 419 = some (.iload 4, 421) := pm_of cl361_4 4 (q := (419, .iload 4, 421)) rfl
theorem c361_421 : pm_code 361 421 = some (.iconst 1, 422) := pm_of cl361_4 5 (q := (421, .iconst 1, 422)) rfl
theorem c361_422 : pm_code 361 422 = some (.iadd, 423) := pm_of cl361_4 6 (q := (422, .iadd, 423)) rfl
theorem c361_423 : pm_code 361 423 = some (.iaload, 424) := pm_of cl361_4 7 (q := (423, .iaload, 424)) rfl
theorem c361_424 : pm_code 361 424 = some (.aload_n 3, 425) := pm_of cl361_4 8 (q := (424, .aload_n 3, 425)) rfl
theorem c361_425 : pm_code 361 425 = some (.invokestatic 136, 428) := pm_of cl361_4 9 (q := (425, .invokestatic 136, 428)) rfl
theorem c361_428 : pm_code 361 428 = some (.istore 5, 430) := pm_of cl361_4 10 (q := (428, .istore 5, 430)) rfl
theorem c361_430 : pm_code 361 430 = some (.aload_n 2, 431) := pm_of cl361_4 11 (q := (430, .aload_n 2, 431)) rfl
theorem c361_431 : pm_code 361 431 = some (.aload_n 0, 432) := pm_of cl361_4 12 (q := (431, .aload_n 0, 432)) rfl
theorem c361_432 : pm_code 361 432 = some (.iload 4, 434) := pm_of cl361_4 13 (q := (432, .iload 4, 434)) rfl
theorem c361_434 : pm_code 361 434 = some (.iconst 1, 435) := pm_of cl361_4 14 (q := (434, .iconst 1, 435)) rfl
theorem c361_435 : pm_code 361 435 = some (.iadd, 436) := pm_of cl361_4 15 (q := (435, .iadd, 436)) rfl
theorem c361_436 : pm_code 361 436 = some (.iaload, 437) := pm_of cl361_4 16 (q := (436, .iaload, 437)) rfl
theorem c361_437 : pm_code 361 437 = some (.invokevirtual 138, 440) := pm_of cl361_4 17 (q := (437, .invokevirtual 138, 440)) rfl
theorem c361_440 : pm_code 361 440 = some (.istore 6, 442) := pm_of cl361_4 18 (q := (440, .istore 6, 442)) rfl
theorem c361_442 : pm_code 361 442 = some (.aload_n 2, 443) := pm_of cl361_4 19 (q := (442, .aload_n 2, 443)) rfl
theorem c361_443 : pm_code 361 443 = some (.invokevirtual 128, 446) := pm_of cl361_4 20 (q := (443, .invokevirtual 128, 446)) rfl
theorem c361_446 : pm_code 361 446 = some (.iload 5, 448) := pm_of cl361_4 21 (q := (446, .iload 5, 448)) rfl
theorem c361_448 : pm_code 361 448 = some (.if_icmp .eq 5, 451) := pm_of cl361_4 22 (q := (448, .if_icmp .eq 5, 451)) rfl
theorem c361_451 : pm_code 361 451 = some (.iconst 0, 452) := pm_of cl361_4 23 (q := (451, .iconst 0, 452)) rfl
theorem c361_452 : pm_code 361 452 = some (.ireturn, 453) := pm_of cl361_4 24 (q := (452, .ireturn, 453)) rfl
theorem c361_453 : pm_code 361 453 = some (.iload 5, 455) := pm_of cl361_4 25 (q := (453, .iload 5, 455)) rfl
theorem c361_455 : pm_code 361 455 = some (.ifCond .ne 15, 458) := pm_of cl361_4 26 (q := (455, .ifCond .ne 15, 458)) rfl
theorem c361_458 : pm_code 361 458 = some (.aload_n 3, 459) := pm_of cl361_4 27 (q := (458, .aload_n 3, 459)) rfl
theorem c361_459 : pm_code 361 459 = some (.iconst 0, 460) := pm_of cl361_4 28 (q := (459, .iconst 0, 460)) rfl
theorem c361_460 : pm_code 361 460 = some (.laload, 461) := pm_of cl361_4 29 (q := (460, .laload, 461)) rfl
theorem c361_461 : pm_code 361 461 = some (.iload 6, 463) := pm_of cl361_4 30 (q := (461, .iload 6, 463)) rfl
theorem c361_463 : pm_code 361 463 = some (.i2l, 464) := pm_of cl361_4 31 (q := (463, .i2l, 464)) rfl
theorem c361_464 : pm_code 361 464 = some (.lcmp, 465) := pm_of cl361_4 32 (q := (464, .lcmp, 465)) rfl
theorem c361_465 : pm_code 361 465 = some (.ifCond .eq 5, 468) := pm_of cl361_4 33 (q := (465, .ifCond .eq 5, 468)) rfl
theorem c361_468 : pm_code 361 468 = some (.iconst 0, 469) := pm_of cl361_4 34 (q := (468, .iconst 0, 469)) rfl
theorem c361_469 : pm_code 361 469 = some (.ireturn, 470) := pm_of cl361_4 35 (q := (469, .ireturn, 470)) rfl
theorem c361_470 : pm_code 361 470 = some (.goto 2106, 473) := pm_of cl361_4 36 (q := (470, .goto 2106, 473)) rfl
theorem c361_473 : pm_code 361 473 = some (.aload_n 1, 474) := pm_of cl361_4 37 (q := (473, .aload_n 1, 474)) rfl
theorem c361_474 : pm_code 361 474 = some (.aload_n 0, 475) := pm_of cl361_4 38 (q := (474, .aload_n 0, 475)) rfl
theorem c361_475 : pm_code 361 475 = some (.iload 4, 477) := pm_of cl361_4 39 (q := (475, .iload 4, 477)) rfl
theorem cl361_5 : ([(477, .iconst 1, 478), (478, .iadd, 479), (479, .iaload, 480), (480, .aload_n 3, 481), (481, .invokestatic 139, 484), (484, .istore 5, 486), (486, .aload_n 2, 487), (487, .aload_n 0, 488), (488, .iload 4, 490), (490, .iconst 1, 491), (491, .iadd, 492), (492, .iaload, 493), (493, .invokevirtual 141, 496), (496, .istore 6, 498), (498, .aload_n 2, 499), (499, .invokevirtual 128, 502), (502, .iload 5, 504), (504, .if_icmp .eq 5, 507), (507, .iconst 0, 508), (508, .ireturn, 509), (509, .iload 5, 511), (511, .ifCond .ne 15, 514), (514, .aload_n 3, 515), (515, .iconst 0, 516), (516, .laload, 517), (517, .iload 6, 519), (519, .i2l, 520), (520, .lcmp, 521), (521, .ifCond .eq 5, 524), (524, .iconst 0, 525), (525, .ireturn, 526), (526, .goto 2050, 529), (529, .aload_n 1, 530), (530, .invokevirtual 142, 533), (533, .aload_n 2, 534), (534, .invokevirtual 145, 537), (537, .if_icmp .eq 2039, 540), (540, .iconst 0, 541), (541, .ireturn, 542), (542, .aload_n 1, 543)] : List (Nat × Instr × Nat)).all (fun q => decide (pm_code 361 q.1 = some q.2)) = true := by decide +kernel
theorem c361_477 : pm_code 361 477 = some (.iconst 1, 478) := pm_of cl361_5 0 (q := (477, .iconst 1, 478)) rfl
theorem c361_478 : pm_code 361 478 = some (.iadd, 479) := pm_of cl361_5 1 (q := (478, .iadd, 479)) rfl
theorem c361_479 : pm_code 361 479 = some (.iaload, 480) := pm_of cl361_5 2 (q := (479, .iaload, 480)) rfl
theorem c361_480 : pm_code 361 480 = some (.aload_n 3, 481) := pm_of cl361_5 3 (q := (480, .aload_n 3, 481)) rfl
theorem c361_481 : pm_code 361 481 = some (.invokestatic 139, 484) := pm_of cl361_5 4 (q := (481, .invokestatic 139, 484)) rfl
theorem c361_484 : pm_code 361 484 = some (.istore 5, 486) := pm_of cl361_5 5 (q := (484, .istore 5, 486)) rfl
theorem c361_486 : pm_code 361 486 = some (.aload_n 2, 487) := pm_of cl361_5 6 (q := (486, .aload_n 2, 487)) rfl
theorem c361_487 : pm_code 361 487 = some (.aload_n 0, 488) := pm_of cl361_5 7 (q := (487, .aload_n 0, 488)) rfl
theorem c361_488 : pm_code 361 488 = some (.iload 4, 490) := pm_of cl361_5 8 (q := (488, .iload 4, 490)) rfl
theorem c361_490 : pm_code 361 490 = some (.iconst 1, 491) := pm_of cl361_5 9 (q := (490, .iconst 1, 491)) rfl
theorem c361_491 : pm_code 361 491 = some (.iadd, 492) := pm_of cl361_5 10 (q := (491, .iadd, 492)) rfl
theorem c361_492 : pm_code 361 492 = some (.iaload, 493) := pm_of cl361_5 11 (q := (492, .iaload, 493)) rfl
theorem c361_493 : pm_code 361 493 = some (.invokevirtual 141, 496) := pm_of cl361_5 12 (q := (493, .invokevirtual 141, 496)) rfl
theorem c361_496 : pm_code 361 496 = some (.istore 6, 498) := pm_of cl361_5 13 (q := (496, .istore 6, 498)) rfl
theorem c361_498 : pm_code 361 498 = some (.aload_n 2, 499) := pm_of cl361_5 14 (q := (498, .aload_n 2, 499)) rfl
theorem c361_499 : pm_code 361 499 = some (.invokevirtual 128, 502) := pm_of cl361_5 15 (q := (499, .invokevirtual 128, 502)) rfl
theorem c361_502 : pm_code 361 502 = some (.iload 5, 504) := pm_of cl361_5 16 (q := (502, .iload 5, 504)) rfl
theorem c361_504 : pm_code 361 504 = some (.if_icmp .eq 5, 507) := pm_of cl361_5 17 (q := (504, .if_icmp .eq 5, 507)) rfl
theorem c361_507 : pm_code 361 507 = some (.iconst 0, 508) := pm_of cl361_5 18 (q := (507, .iconst 0, 508)) rfl
theorem c361_508 : pm_code 361 508 = some (.ireturn, 509) := pm_of cl361_5 19 (q := (508, .ireturn, 509)) rfl
theorem c361_509 : pm_code 361 509 = some (.iload 5, 511) := pm_of cl361_5 20 (q := (509, .iload 5, 511)) rfl
theorem c361_511 : pm_code 361 511 = some (.ifCond .ne 15, 514) := pm_of cl361_5 21 (q := (511, .ifCond .ne 15, 514)) rfl
theorem c361_514 : pm_code 361 514 = some (.aload_n 3, 515) := pm_of cl361_5 22 (q := (514, .aload_n 3, 515)) rfl
theorem c361_515 : pm_code 361 515 = some (.iconst 0, 516) := pm_of cl361_5 23 (q := (515, .iconst 0, 516)) rfl
theorem c361_516 : pm_code 361 516 = some (.laload, 517) := pm_of cl361_5 24 (q := (516, .laload, 517)) rfl
theorem c361_517 : pm_code 361 517 = some (.iload 6, 519) := pm_of cl361_5 25 (q := (517, .iload 6, 519)) rfl
theorem c361_519 : pm_code 361 519 = some (.i2l, 520) := pm_of cl361_5 26 (q := (519, .i2l, 520)) rfl
theorem c361_520 : pm_code 361 520 = some (.lcmp, 521) := pm_of cl361_5 27 (q := (520, .lcmp, 521)) rfl
theorem c361_521 : pm_code 361 521 = some (.ifCond .eq 5, 524) := pm_of cl361_5 28 (q := (521, .ifCond .eq 5, 524)) rfl
theorem c361_524 : pm_code 361 524 = some (.iconst 0, 525) := pm_of cl361_5 29 (q := (524, .iconst 0, 525)) rfl
theorem c361_525 : pm_code 361 525 = some (.ireturn, 526) := pm_of cl361_5 30 (q := (525, .ireturn, 526)) rfl
theorem c361_526 : pm_code 361 526 = some (.goto 2050, 529) := pm_of cl361_5 31 (q := (526, .goto 2050, 529)) rfl
theorem c361_529 : pm_code 361 529 = some (.aload_n 1, 530) := pm_of cl361_5 32 (q := (529, .aload_n 1, 530)) rfl
theorem c361_530 : pm_code 361 530 = some (.invokevirtual 142, 533) := pm_of cl361_5 33 (q := (530, .invokevirtual 142, 533)) rfl
theorem c361_533 : pm_code 361 533 = some (.aload_n 2, 534) := pm_of cl361_5 34 (q := (533, .aload_n 2, 534)) rfl
theorem c361_534 : pm_code 361 534 = some (.invokevirtual 145, 537) := pm_of cl361_5 35 (q := (534, .invokevirtual 145, 537)) rfl
theorem c361_537 : pm_code 361 537 = some (.if_icmp .eq 2039, 540) := pm_of cl361_5 36 (q := (537, .if_icmp .eq 2039, 540)) rfl
theorem c361_540 : pm_code 361 540 = some (.iconst 0, 541) := pm_of cl361_5 37 (q := (540, .iconst 0, 541)) rfl
theorem c361_541 : pm_code 361 541 = some (.ireturn, 542) := pm_of cl361_5 38 (q := (541, .ireturn, 542)) rfl
theorem c361_542 : pm_code 361 542 = some (.aload_n 1, 543) := pm_of cl361_5 39 (q := (542, .aload_n 1, 543)) rfl
theorem cl361_6 : ([(543, .invokevirtual 146, 546), (546, .aload_n 2, 547), (547, .invokevirtual 149, 550), (550, .if_icmp .eq 2026, 553), (553, .iconst 0, 554), (554, .ireturn, 555), (555, .aload_n 1, 556), (556, .aload_n 0, 557), (557, .iload 4, 559), (559, .iconst 1, 560), (560, .iadd, 561), (561, .iaload, 562), (562, .aload_n 3, 563), (563, .invokestatic 150, 566), (566, .istore 5, 568), (568, .aload_n 2, 569), (569, .aload_n 0, 570), (570, .iload 4, 572), (572, .iconst 1, 573), (573, .iadd, 574), (574, .iaload, 575), (575, .invokevirtual 152, 578), (578, .istore 6, 580), (580, .aload_n 2, 581), (581, .invokevirtual 128, 584), (584, .iload 5, 586), (586, .if_icmp .eq 5, 589), (589, .iconst 0, 590), (590, .ireturn, 591), (591, .iload 5, 593), (593, .ifCond .ne 15, 596), (596, .aload_n 3, 597), (597, .iconst 0, 598), (598, .laload, 599), (599, .iload 6, 601), (601, .i2l, 602), (602, .lcmp, 603), (603, .ifCond .eq 5, 606), (606, .iconst 0, 607), (607, .ireturn, 608)] : List (Nat × Instr × Nat)).all (fun q => decide (pm_code 361 q.1 = some q.2)) = true := by decide +kernel
theorem c361_543 : pm_code 361 543 = some (.invokevirtual 146, 546) := pm_of cl361_6 0 (q := (543, .invokevirtual 146, 546)) rfl
theorem c361_546 : pm_code 361 546 = some (.aload_n 2, 547) := pm_of cl361_6 1 (q := (546, .aload_n 2, 547)) rfl
theorem c361_547 : pm_code 361 547 = some (.invokevirtual 149, 550) := pm_of cl361_6 2 (q := (547, .invokevirtual 149, 550)) rfl
theorem c361_550 : pm_code 361 550 = some (.if_icmp .eq 2026, 553) := pm_of cl361_6 3 (q := (550, .if_icmp .eq 2026, 553)) rfl
theorem c361_553 : pm_code 361 553 = some (.iconst 0, 554) := pm_of cl361_6 4 (q := (553, .iconst 0, 554)) rfl
theorem c361_554 : pm_code 361 554 = some (.ireturn, 555) := pm_of cl361_6 5 (q := (554, .ireturn, 555)) rfl
theorem c361_555 : pm_code 361 555 = some (.aload_n 1, 556) := pm_of cl361_6 6 (q := (555, .aload_n 1, 556)) rfl
theorem c361_556 : pm_code 361 556 = some (.aload_n 0, 557) := pm_of cl361_6 7 (q := (556, .aload_n 0, 557)) rfl
theorem c361_557 : pm_code 361 557 = some (.iload 4, 559) := pm_of cl361_6 8 (q := (557, .iload 4, 559)) rfl
theorem c361_559 : pm_code 361 559 = some (.iconst 1, 560) := pm_of cl361_6 9 (q := (559, .iconst 1, 560)) rfl
theorem c361_560 : pm_code 361 560 = some (.iadd, 561) := pm_of cl361_6 10 (q := (560, .iadd, 561)) rfl
theorem c361_561 : pm_code 361 561 = some (.iaload, 562) := pm_of cl361_6 11 (q := (561, .iaload, 562)) rfl
theorem c361_562 : pm_code 361 562 = some (.aload_n 3, 563) := pm_of cl361_6 12 (q := (562, .aload_n 3, 563)) rfl
theorem c361_563 : pm_code 361 563 = some (.invokestatic 150, 566) := pm_of cl361_6 13 (q := (563, .invokestatic 150, 566)) rfl
theorem c361_566 : pm_code 361 566 = some (.istore 5, 568) := pm_of cl361_6 14 (q := (566, .istore 5, 568)) rfl
theorem c361_568 : pm_code 361 568 = some (.aload_n 2, 569) := pm_of cl361_6 15 (q := (568, .aload_n 2, 569)) rfl
theorem c361_569 : pm_code 361 569 = some (.aload_n 0, 570) := pm_of cl361_6 16 (q := (569, .aload_n 0, 570)) rfl
theorem c361_570 : pm_code 361 570 = some (.iload 4, 572) := pm_of cl361_6 17 (q := (570, .iload 4, 572)) rfl
theorem c361_572 : pm_code 361 572 = some (.iconst 1, 573) := pm_of cl361_6 18 (q := (572, .iconst 1, 573)) rfl
theorem c361_573 : pm_code 361 573 = some (.iadd, 574) := pm_of cl361_6 19 (q := (573, .iadd, 574)) rfl
theorem c361_574 : pm_code 361 574 = some (.iaload, 575) := pm_of cl361_6 20 (q := (574, .iaload, 575)) rfl
theorem c361_575 : pm_code 361 575 = some (.invokevirtual 152, 578) := pm_of cl361_6 21 (q := (575, .invokevirtual 152, 578)) rfl
theorem c361_578 : pm_code 361 578 = some (.istore 6, 580) := pm_of cl361_6 22 (q := (578, .istore 6, 580)) rfl
theorem c361_580 : pm_code 361 580 = some (.aload_n 2, 581) := pm_of cl361_6 23 (q := (580, .aload_n 2, 581)) rfl
theorem c361_581 : pm_code 361 581 = some (.invokevirtual 128, 584) := pm_of cl361_6 24 (q := (581, .invokevirtual 128, 584)) rfl
theorem c361_584 : pm_code 361 584 = some (.iload 5, 586) := pm_of cl361_6 25 (q := (584, .iload 5, 586)) rfl
theorem c361_586 : pm_code 361 586 = some (.if_icmp .eq 5, 589) := pm_of cl361_6 26 (q := (586, .if_icmp .eq 5, 589)) rfl
theorem c361_589 : pm_code 361 589 = some (.iconst 0, 590) := pm_of cl361_6 27 (q := (589, .iconst 0, 590)) rfl
theorem c361_590 : pm_code 361 590 = some (.ireturn, 591) := pm_of cl361_6 28 (q := (590, .ireturn, 591)) rfl
theorem c361_591 : pm_code 361 591 = some (.iload 5, 593) := pm_of cl361_6 29 (q := (591, .iload 5, 593)) rfl
theorem c361_593 : pm_code 361 593 = some (.ifCond .ne 15, 596) := pm_of cl361_6 30 (q := (593, .ifCond .ne 15, 596)) rfl
theorem c361_596 : pm_code 361 596 = some (.aload_n 3, 597) := pm_of cl361_6 31 (q := (596, .aload_n 3, 597)) rfl
theorem c361_597 : pm_code 361 597 = some (.iconst 0, 598) := pm_of cl361_6 32 (q := (597, .iconst 0, 598)) rfl
theorem c361_598 : pm_code 361 598 = some (.laload, 599) := pm_of cl361_6 33 (q := (598, .laload, 599)) rfl
theorem c361_599 : pm_code 361 599 = some (.iload 6, 601) := pm_of cl361_6 34 (q := (599, .iload 6, 601)) rfl
theorem c361_601 : pm_code 361 601 = some (.i2l, 602) := pm_of cl361_6 35 (q := (601, .i2l, 602)) rfl
theorem c361_602 : pm_code 361 602 = some (.lcmp, 603) := pm_of cl361_6 36 (q := (602, .lcmp, 603)) rfl
theorem c361_603 : pm_code 361 603 = some (.ifCond .eq 5, 606) := pm_of cl361_6 37 (q := (603, .ifCond .eq 5, 606)) rfl
theorem c361_606 : pm_code 361 606 = some (.iconst 0, 607) := pm_of cl361_6 38 (q := (606, .iconst 0, 607)) rfl
theorem c361_607 : pm_code 361 607 = some (.ireturn, 608) := pm_of cl361_6 39 (q := (607, .ireturn, 608)) rfl
theorem cl361_7 : ([(608, .goto 1968, 611), (611, .aload_n 1, 612), (612, .aload_n 0, 613), (613, .iload 4, 615), (615, .iconst 1, 616), (616, .iadd, 617), (617, .iaload, 618), (618, .aload_n 0, 619), (619, .iload 4, 621), (621, .iconst 2, 622), (622, .iadd, 623), (623, .iaload, 624), (624, .aload_n 3, 625), (625, .invokestatic 153, 628), (628, .istore 5, 630), (630, .aload_n 2, 631), (631, .aload_n 0, 632), (632, .iload 4, 634), (634, .iconst 1, 635), (635, .iadd, 636), (636, .iaload, 637), (637, .aload_n 0, 638), (638, .iload 4, 640), (640, .iconst 2, 641), (641, .iadd, 642), (642, .iaload, 643), (643, .invokevirtual 155, 646), (646, .istore 6, 648), (648, .aload_n 2, 649), (649, .invokevirtual 128, 652), (652, .iload 5, 654), (654, .if_icmp .eq 5, 657), (657, .iconst 0, 658), (658, .ireturn, 659), (659, .iload 5, 661), (661, .ifCond .ne 15, 664), (664, .aload_n 3, 665), (665, .iconst 0, 666), (666, .laload, 667), (667, .iload 6, 669)] : List (Nat × Instr × Nat)).all (fun q => decide (pm_code 361 q.1 = some q.2)) = true := by decide +kernel
theorem c361_608 : pm_code 361 608 = some (.goto 1968, 611) := pm_of cl361_7 0 (q := (608, .goto 1968, 611)) rfl
theorem c361_611 : pm_code 361 611 = some (.aload_n 1, 612) := pm_of cl361_7 1 (q := (611, .aload_n 1, 612)) rfl
theorem c361_612 : pm_code 361 612 = some (.aload_n 0, 613) := pm_of cl361_7 2 (q := (612, .aload_n 0, 613)) rfl
theorem c361_613 : pm_code 361 613 = some (.iload 4, 615) := pm_of cl361_7 3 (q := (613, .iload 4, 615)) rfl
theorem c361_615 : pm_code 361 615 = some (.iconst 1, 616) := pm_of cl361_7 4 (q := (615, .iconst 1, 616)) rfl
theorem c361_616 : pm_code 361 616 = some (.iadd, 617) := pm_of cl361_7 5 (q := (616, .iadd, 617)) rfl
theorem c361_617 : pm_code 361 617 = some (.iaload, 618) := pm_of cl361_7 6 (q := (617, .iaload, 618)) rfl
theorem c361_618 : pm_code 361 618 = some (.aload_n 0, 619) := pm_of cl361_7 7 (q := (618, .aload_n 0, 619)) rfl
theorem c361_619 : pm_code 361 619 = some (.iload 4, 621) := pm_of cl361_7 8 (q := (619, .iload 4, 621)) rfl
theorem c361_621 : pm_code 361 621 = some (.iconst 2, 622) := pm_of cl361_7 9 (q := (621, .iconst 2, 622)) rfl
theorem c361_622 : pm_code 361 622 = some (.iadd, 623) := pm_of cl361_7 10 (q := (622, .iadd, 623)) rfl
theorem c361_623 : pm_code 361 623 = some (.iaload, 624) := pm_of cl361_7 11 (q := (623, .iaload, 624)) rfl
theorem c361_624 : pm_code 361 624 = some (.aload_n 3, 625) := pm_of cl361_7 12 (q := (624, .aload_n 3, 625)) rfl
theorem c361_625 : pm_code 361 625 = some (.invokestatic 153, 628) := pm_of cl361_7 13 (q := (625, .invokestatic 153, 628)) rfl
theorem c361_628 : pm_code 361 628 = some (.istore 5, 630) := pm_of cl361_7 14 (q := (628, .istore 5, 630)) rfl
theorem c361_630 : pm_code 361 630 = some (.aload_n 2, 631) := pm_of cl361_7 15 (q := (630, .aload_n 2, 631)) rfl
theorem c361_631 : pm_code 361 631 = some (.aload_n 0, 632) := pm_of cl361_7 16 (q := (631, .aload_n 0, 632)) rfl
theorem c361_632 : pm_code 361 632 = some (.iload 4, 634) := pm_of cl361_7 17 (q := (632, .iload 4, 634)) rfl
theorem c361_634 : pm_code 361 634 = some (.iconst 1, 635) := pm_of cl361_7 18 (q := (634, .iconst 1, 635)) rfl
theorem c361_635 : pm_code 361 635 = some (.iadd, 636) := pm_of cl361_7 19 (q := (635, .iadd, 636)) rfl
theorem c361_636 : pm_code 361 636 = some (.iaload, 637) := pm_of cl361_7 20 (q := (636, .iaload, 637)) rfl
theorem c361_637 : pm_code 361 637 = some (.aload_n 0, 638) := pm_of cl361_7 21 (q := (637, .aload_n 0, 638)) rfl
theorem c361_638 : pm_code 361 638 = some (.iload 4, 640) := pm_of cl361_7 22 (q := (638, .iload 4, 640)) rfl
theorem c361_640 : pm_code 361 640 = some (.iconst 2, 641) := pm_of cl361_7 23 (q := (640, .iconst 2, 641)) rfl
theorem c361_641 : pm_code 361 641 = some (.iadd, 642) := pm_of cl361_7 24 (q := (641, .iadd, 642)) rfl
theorem c361_642 : pm_code 361 642 = some (.iaload, 643) := pm_of cl361_7 25 (q := (642, .iaload, 643)) rfl
theorem c361_643 : pm_code 361 643 = some (.invokevirtual 155, 646) := pm_of cl361_7 26 (q := (643, .invokevirtual 155, 646)) rfl
theorem c361_646 : pm_code 361 646 = some (.istore 6, 648) := pm_of cl361_7 27 (q := (646, .istore 6, 648)) rfl
theorem c361_648 : pm_code 361 648 = some (.aload_n 2, 649) := pm_of cl361_7 28 (q := (648, .aload_n 2, 649)) rfl
theorem c361_649 : pm_code 361 649 = some (.invokevirtual 128, 652) := pm_of cl361_7 29 (q := (649, .invokevirtual 128, 652)) rfl
theorem c361_652 : pm_code 361 652 = some (.iload 5, 654) := pm_of cl361_7 30 (q := (652, .iload 5, 654)) rfl
theorem c361_654 : pm_code 361 654 = some (.if_icmp .eq 5, 657) := pm_of cl361_7 31 (q := (654, .if_icmp .eq 5, 657)) rfl
theorem c361_657 : pm_code 361 657 = some (.iconst 0, 658) := pm_of cl361_7 32 (q := (657, .iconst 0, 658)) rfl
theorem c361_658 : pm_code 361 658 = some (.ireturn, 659) := pm_of cl361_7 33 (q := (658, .ireturn, 659)) rfl
theorem c361_659 : pm_code 361 659 = some (.iload 5, 661) := pm_of cl361_7 34 (q := (659, .iload 5, 661)) rfl
theorem c361_661 : pm_code 361 661 = some (.ifCond .ne 15, 664) := pm_of cl361_7 35 (q := (661, .ifCond .ne 15, 664)) rfl
theorem c361_664 : pm_code 361 664 = some (.aload_n 3, 665) := pm_of cl361_7 36 (q := (664, .aload_n 3, 665)) rfl
theorem c361_665 : pm_code 361 665 = some (.iconst 0, 666) := pm_of cl361_7 37 (q := (665, .iconst 0, 666)) rfl
theorem c361_666 : pm_code 361 666 = some (.laload, 667) := pm_of cl361_7 38 (q := (666, .laload, 667)) rfl
theorem c361_667 : pm_code 361 667 = some (.iload 6, 669) := pm_of cl361_7 39 (q := (667, .iload 6, 669)) rfl
theorem cl361_8 : ([(669, .i2l, 670), (670, .lcmp, 671), (671, .ifCond .eq 5, 674), (674, .iconst 0, 675), (675, .ireturn, 676), (676, .goto 1900, 679), (679, .aload_n 1, 680), (680, .aload_n 0, 681), (681, .iload 4, 683), (683, .iconst 1, 684), (684, .iadd, 685), (685, .iaload, 686), (686, .aload_n 0, 687), (687, .iload 4, 689), (689, .iconst 2, 690), (690, .iadd, 691), (691, .iaload, 692), (692, .aload_n 3, 693), (693, .invokestatic 156, 696), (696, .istore 5, 698), (698, .aload_n 2, 699), (699, .aload_n 0, 700), (700, .iload 4, 702), (702, .iconst 1, 703), (703, .iadd, 704), (704, .iaload, 705), (705, .aload_n 0, 706), (706, .iload 4, 708), (708, .iconst 2, 709), (709, .iadd, 710), (710, .iaload, 711), (711, .invokevirtual 158, 714), (714, .istore 6, 716), (716, .aload_n 2, 717), (717, .invokevirtual 128, 720), (720, .iload 5, 722), (722, .if_icmp .eq 5, 725), (725, .iconst 0, 726), (726, .ireturn, 727), (727, .iload 5, 729)] : List (Nat × Instr × Nat)).all (fun q => decide (pm_code 361 q.1 = some q.2)) = true := by decide +kernel
theorem c361_669 : pm_code 361 669 = some (.i2l, 670) := pm_of cl361_8 0 (q := (669, .i2l, 670)) rfl
theorem c361_670 : pm_code 361 670 = some (.lcmp, 671) := pm_of cl361_8 1 (q := (670, .lcmp, 671)) rfl
theorem c361_671 : pm_code 361 671 = some (.ifCond .eq 5, 674) := pm_of cl361_8 2 (q := (671, .ifCond .eq 5, 674)) rfl
theorem c361_674 : pm_code 361 674 = some (.iconst 0, 675) := pm_of cl361_8 3 (q := (674, .iconst 0, 675)) rfl
theorem c361_675 : pm_code 361 675 = some (.ireturn, 676) := pm_of cl361_8 4 (q := (675, .ireturn, 676)) rfl
theorem c361_676 : pm_code 361 676 = some (.goto 1900, 679) := pm_of cl361_8 5 (q := (676, .goto 1900, 679)) rfl
theorem c361_679 : pm_code 361 679 = some (.aload_n 1, 680) := pm_of cl361_8 6 (q := (679, .aload_n 1, 680)) rfl
theorem c361_680 : pm_code 361 680 = some (.aload_n 0, 681) := pm_of cl361_8 7 (q := (680, .aload_n 0, 681)) rfl
theorem c361_681 : pm_code 361 681 = some (.iload 4, 683) := pm_of cl361_8 8 (q := (681, .iload 4, 683)) rfl
theorem c361_683 : pm_code 361 683 = some (.iconst 1, 684) := pm_of cl361_8 9 (q := (683, .iconst 1, 684)) rfl
theorem c361_684 : pm_code 361 684 = some (.iadd, 685) := pm_of cl361_8 10 (q := (684, .iadd, 685)) rfl
theorem c361_685 : pm_code 361 685 = some (.iaload, 686) := pm_of cl361_8 11 (q := (685, .iaload, 686)) rfl
theorem c361_686 : pm_code 361 686 = some (.aload_n 0, 687) := pm_of cl361_8 12 (q := (686, .aload_n 0, 687)) rfl
theorem c361_687 : pm_code 361 687 = some (.iload 4, 689) := pm_of cl361_8 13 (q := (687, .iload 4, 689)) rfl
theorem c361_689 : pm_code 361 689 = some (.iconst 2, 690) := pm_of cl361_8 14 (q := (689, .iconst 2, 690)) rfl
theorem c361_690 : pm_code 361 690 = some (.iadd, 691) := pm_of cl361_8 15 (q := (690, .iadd, 691)) rfl
theorem c361_691 : pm_code 361 691 = some (.iaload, 692) := pm_of cl361_8 16 (q := (691, .iaload, 692)) rfl
theorem c361_692 : pm_code 361 692 = some (.aload_n 3, 693) := pm_of cl361_8 17 (q := (692, .aload_n 3, 693)) rfl
theorem c361_693 : pm_code 361 693 = some (.invokestatic 156, 696) := pm_of cl361_8 18 (q := (693, .invokestatic 156, 696)) rfl
theorem c361_696 : pm_code 361 696 = some (.istore 5, 698) := pm_of cl361_8 19 (q := (696, .istore 5, 698)) rfl
theorem c361_698 : pm_code 361 698 = some (.aload_n 2, 699) := pm_of cl361_8 20 (q := (698, .aload_n 2, 699)) rfl
theorem c361_699 : pm_code 361 699 = some (.aload_n 0, 700) := pm_of cl361_8 21 (q := (699, .aload_n 0, 700)) rfl
theorem c361_700 : pm_code 361 700 = some (.iload 4, 702) := pm_of cl361_8 22 (q := (700, .iload 4, 702)) rfl
theorem c361_702 : pm_code 361 702 = some (.iconst 1, 703) := pm_of cl361_8 23 (q := (702, .iconst 1, 703)) rfl
theorem c361_703 : pm_code 361 703 = some (.iadd, 704) := pm_of cl361_8 24 (q := (703, .iadd, 704)) rfl
theorem c361_704 : pm_code 361 704 = some (.iaload, 705) := pm_of cl361_8 25 (q := (704, .iaload, 705)) rfl
theorem c361_705 : pm_code 361 705 = some (.aload_n 0, 706) := pm_of cl361_8 26 (q := (705, .aload_n 0, 706)) rfl
theorem c361_706 : pm_code 361 706 = some (.iload 4, 708) := pm_of cl361_8 27 (q := (706, .iload 4, 708)) rfl
theorem c361_708 : pm_code 361 708 = some (.iconst 2, 709) := pm_of cl361_8 28 (q := (708, .iconst 2, 709)) rfl
theorem c361_709 : pm_code 361 709 = some (.iadd, 710) := pm_of cl361_8 29 (q := (709, .iadd, 710)) rfl
theorem c361_710 : pm_code 361 710 = some (.iaload, 711) := pm_of cl361_8 30 (q := (710, .iaload, 711)) rfl
theorem c361_711 : pm_code 361 711 = some (.invokevirtual 158, 714) := pm_of cl361_8 31 (q := (711, .invokevirtual 158, 714)) rfl
theorem c361_714 : pm_code 361 714 = some (.istore 6, 716) := pm_of cl361_8 32 (q := (714, .istore 6, 716)) rfl
theorem c361_716 : pm_code 361 716 = some (.aload_n 2, 717) := pm_of cl361_8 33 (q := (716, .aload_n 2, 717)) rfl
theorem c361_717 : pm_code 361 717 = some (.invokevirtual 128, 720) := pm_of cl361_8 34 (q := (717, .invokevirtual 128, 720)) rfl
theorem c361_720 : pm_code 361 720 = some (.iload 5, 722) := pm_of cl361_8 35 (q := (720, .iload 5, 722)) rfl
theorem c361_722 : pm_code 361 722 = some (.if_icmp .eq 5, 725) := pm_of cl361_8 36 (q := (722, .if_icmp .eq 5, 725)) rfl
theorem c361_725 : pm_code 361 725 = some (.iconst 0, 726) := pm_of cl361_8 37 (q := (725, .iconst 0, 726)) rfl
theorem c361_726 : pm_code 361 726 = some (.ireturn, 727) := pm_of cl361_8 38 (q := (726, .ireturn, 727)) rfl
theorem c361_727 : pm_code 361 727 = some (.iload 5, 729) := pm_of cl361_8 39 (q := (727, .iload 5, 729)) rfl
theorem cl361_9 : ([(729, .ifCond .ne 15, 732), (732, .aload_n 3, 733), (733, .iconst 0, 734), (734, .laload, 735), (735, .iload 6, 737), (737, .i2l, 738), (738, .lcmp, 739), (739, .ifCond .eq 5, 742), (742, .iconst 0, 743), (743, .ireturn, 744), (744, .goto 1832, 747), (747, .aload_n 1, 748), (748, .aload_n 0, 749), (749, .iload 4, 751), (751, .iconst 1, 752), (752, .iadd, 753), (753, .iaload, 754), (754, .aload_n 0, 755), (755, .iload 4, 757), (757, .iconst 2, 758), (758, .iadd, 759), (759, .iaload, 760), (760, .aload_n 3, 761), (761, .invokestatic 159, 764), (764, .istore 5, 766), (766, .aload_n 2, 767), (767, .aload_n 0, 768), (768, .iload 4, 770), (770, .iconst 1, 771), (771, .iadd, 772), (772, .iaload, 773), (773, .aload_n 0, 774), (774, .iload 4, 776), (776, .iconst 2, 777), (777, .iadd, 778), (778, .iaload, 779), (779, .invokevirtual 161, 782), (782, .istore 6, 784), (784, .aload_n 2, 785), (785, .invokevirtual 128, 788)] : List (Nat × Instr × Nat)).all (fun q => decide (pm_code 361 q.1 = some q.2)) = true := by decide +kernel
theorem c361_729 : pm_code 361 729 = some (.ifCond .ne 15, 732) := pm_of cl361_9 0 (q := (729, .ifCond .ne 15, 732)) rfl
theorem c361_732 : pm_code 361 732 = some (.aload_n 3, 733) := pm_of cl361_9 1 (q := (732, .aload_n 3, 733)) rfl
theorem c361_733 : pm_code 361 733 = some (.iconst 0, 734) := pm_of cl361_9 2 (q := (733, .iconst 0, 734)) rfl
theorem c361_734 : pm_code 361 734 = some (.laload, 735) := pm_of cl361_9 3 (q := (734, .laload, 735)) rfl
theorem c361_735 : pm_code 361 735 = some (.iload 6, 737) := pm_of cl361_9 4 (q := (735, .iload 6, 737)) rfl
theorem c361_737 : pm_code 361 737 = some (.i2l, 738) := pm_of cl361_9 5 (q := (737, .i2l, 738)) rfl
theorem c361_738 : pm_code 361 738 = some (.lcmp, 739) := pm_of cl361_9 6 (q := (738, .lcmp, 739)) rfl
theorem c361_739 : pm_code 361 739 = some (.ifCond .eq 5, 742) := pm_of cl361_9 7 (q := (739, .ifCond .eq 5, 742)) rfl
theorem c361_742 : pm_code 361 742 = some (.iconst 0, 743) := pm_of cl361_9 8 (q := (742, .iconst 0, 743)) rfl
theorem c361_743 : pm_code 361 743 = some (.ireturn, 744) := pm_of cl361_9 9 (q := (743, .ireturn, 744)) rfl
theorem c361_744 : pm_code 361 744 = some (.goto 1832, 747) := pm_of cl361_9 10 (q := (744, .goto 1832, 747)) rfl
theorem c361_747 : pm_code 361 747 = some (.aload_n 1, 748) := pm_of cl361_9 11 (q := (747, .aload_n 1, 748)) rfl
theorem c361_748 : pm_code 361 748 = some (.aload_n 0, 749) := pm_of cl361_9 12 (q := (748, .aload_n 0, 749)) rfl
theorem c361_749 : pm_code 361 749 = some (.iload 4, 751) := pm_of cl361_9 13 (q := (749, .iload 4, 751)) rfl
theorem c361_751 : pm_code 361 751 = some (.iconst 1, 752) := pm_of cl361_9 14 (q := (751, .iconst 1, 752)) rfl
theorem c361_752 : pm_code 361 752 = some (.iadd, 753) := pm_of cl361_9 15 (q := (752, .iadd, 753)) rfl
theorem c361_753 : pm_code 361 753 = some (.iaload, 754) := pm_of cl361_9 16 (q := (753, .iaload, 754)) rfl
theorem c361_754 : pm_code 361 754 = some (.aload_n 0, 755) := pm_of cl361_9 17 (q := (754, .aload_n 0, 755)) rfl
theorem c361_755 : pm_code 361 755 = some (.iload 4, 757) := pm_of cl361_9 18 (q := (755, .iload 4, 757)) rfl
theorem c361_757 : pm_code 361 757 = some (.iconst 2, 758) := pm_of cl361_9 19 (q := (757, .iconst 2, 758)) rfl
theorem c361_758 : pm_code 361 758 = some (.iadd, 759) := pm_of cl361_9 20 (q := (758, .iadd, 759)) rfl
theorem c361_759 : pm_code 361 759 = some (.iaload, 760) := pm_of cl361_9 21 (q := (759, .iaload, 760)) rfl
theorem c361_760 : pm_code 361 760 = some (.aload_n 3, 761) := pm_of cl361_9 22 (q := (760, .aload_n 3, 761)) rfl
theorem c361_761 : pm_code 361 761 = some (.invokestatic 159, 764) := pm_of cl361_9 23 (q := (761, .invokestatic 159, 764)) rfl
theorem c361_764 : pm_code 361 764 = some (.istore 5, 766) := pm_of cl361_9 24 (q := (764, .istore 5, 766)) rfl
theorem c361_766 : pm_code 361 766 = some (.aload_n 2, 767) := pm_of cl361_9 25 (q := (766, .aload_n 2, 767)) rfl
theorem c361_767 : pm_code 361 767 = some (.aload_n 0, 768) := pm_of cl361_9 26 (q := (767, .aload_n 0, 768)) rfl
theorem c361_768 : pm_code 361 768 = some (.iload 4, 770) := pm_of cl361_9 27 (q := (768, .iload 4, 770)) rfl
theorem c361_770 : pm_code 361 770 = some (.iconst 1, 771) := pm_of cl361_9 28 (q := (770, .iconst 1, 771)) rfl
theorem c361_771 : pm_code 361 771 = some (.iadd, 772) := pm_of cl361_9 29 (q := (771, .iadd, 772)) rfl
theorem c361_772 : pm_code 361 772 = some (.iaload, 773) := pm_of cl361_9 30 (q := (772, .iaload, 773)) rfl
theorem c361_773 : pm_code 361 773 = some (.aload_n 0, 774) := pm_of cl361_9 31 (q := (773, .aload_n 0, 774)) rfl
theorem c361_774 : pm_code 361 774 = some (.iload 4, 776) := pm_of cl361_9 32 (q := (774, .iload 4, 776)) rfl
theorem c361_776 : pm_code 361 776 = some (.iconst 2, 777) := pm_of cl361_9 33 (q := (776, .iconst 2, 777)) rfl
theorem c361_777 : pm_code 361 777 = some (.iadd, 778) := pm_of cl361_9 34 (q := (777, .iadd, 778)) rfl
theorem c361_778 : pm_code 361 778 = some (.iaload, 779) := pm_of cl361_9 35 (q := (778, .iaload, 779)) rfl
theorem c361_779 : pm_code 361 779 = some (.invokevirtual 161, 782) := pm_of cl361_9 36 (q := (779, .invokevirtual 161, 782)) rfl
theorem c361_782 : pm_code 361 782 = some (.istore 6, 784) := pm_of cl361_9 37 (q := (782, .istore 6, 784)) rfl
theorem c361_784 : pm_code 361 784 = some (.aload_n 2, 785) := pm_of cl361_9 38 (q := (784, .aload_n 2, 785)) rfl
theorem c361_785 : pm_code 361 785 = some (.invokevirtual 128, 788) := pm_of cl361_9 39 (q := (785, .invokevirtual 128, 788)) rfl
theorem cl361_10 : ([(788, .iload 5, 790), (790, .if_icmp .eq 5, 793), (793, .iconst 0, 794), (794, .ireturn, 795), (795, .iload 5, 797), (797, .ifCond .ne 15, 800), (800, .aload_n 3, 801), (801, .iconst 0, 802), (802, .laload, 803), (803, .iload 6, 805), (805, .i2l, 806), (806, .lcmp, 807), (807, .ifCond .eq 5, 810), (810, .iconst 0, 811), (811, .ireturn, 812), (812, .goto 1764, 815), (815, .aload_n 1, 816), (816, .aload_n 0, 817), (817, .iload 4, 819), (819, .iconst 1, 820), (820, .iadd, 821), (821, .iaload, 822), (822, .aload_n 3, 823), (823, .invokestatic 162, 826), (826, .istore 5, 828), (828, .aload_n 2, 829), (829, .aload_n 0, 830), (830, .iload 4, 832), (832, .iconst 1, 833), (833, .iadd, 834), (834, .iaload, 835), (835, .invokevirtual 164, 838), (838, .istore 6, 840), (840, .aload_n 2, 841), (841, .invokevirtual 128, 844), (844, .iload 5, 846), (846, .if_icmp .eq 5, 849), (849, .iconst 0, 850), (850, .ireturn, 851), (851, .iload 5, 853)] : List (Nat × Instr × Nat)).all (fun q => decide (pm_code 361 q.1 = some q.2)) = true := by decide +kernel
theorem c361_788 : pm_code 361 788 = some (.iload 5, 790) := pm_of cl361_10 0 (q := (788, .iload 5, 790)) rfl
theorem c361_790 : pm_code 361 790 = some (.if_icmp .eq 5, 793) := pm_of cl361_10 1 (q := (790, .if_icmp .eq 5, 793)) rfl
theorem c361_793 : pm_code 361 793 = some (.iconst 0, 794) := pm_of cl361_10 2 (q := (793, .iconst 0, 794)) rfl
theorem c361_794 : pm_code 361 794 = some (.ireturn, 795) := pm_of cl361_10 3 (q := (794, .ireturn, 795)) rfl
theorem c361_795 : pm_code 361 795 = some (.iload 5, 797) := pm_of cl361_10 4 (q := (795, .iload 5, 797)) rfl
theorem c361_797 : pm_code 361 797 = some (.ifCond .ne 15, 800) := pm_of cl361_10 5 (q := (797, .ifCond .ne 15, 800)) rfl
theorem c361_800 : pm_code 361 800 = some (.aload_n 3, 801) := pm_of cl361_10 6 (q := (800, .aload_n 3, 801)) rfl
theorem c361_801 : pm_code 361 801 = some (.iconst 0, 802) := pm_of cl361_10 7 (q := (801, .iconst 0, 802)) rfl
theorem c361_802 : pm_code 361 802 = some (.laload, 803) := pm_of cl361_10 8 (q := (802, .laload, 803)) rfl
theorem c361_803 : pm_code 361 803 = some (.iload 6, 805) := pm_of cl361_10 9 (q := (803, .iload 6, 805)) rfl
theorem c361_805 : pm_code 361 805 = some (.i2l, 806) := pm_of cl361_10 10 (q := (805, .i2l, 806)) rfl
theorem c361_806 : pm_code 361 806 = some (.lcmp, 807) := pm_of cl361_10 11 (q := (806, .lcmp, 807)) rfl
theorem c361_807 : pm_code 361 807 = some (.ifCond .eq 5, 810) := pm_of cl361_10 12 (q := (807, .ifCond .eq 5, 810)) rfl
theorem c361_810 : pm_code 361 810 = some (.iconst 0, 811) := pm_of cl361_10 13 (q := (810, .iconst 0, 811)) rfl
theorem c361_811 : pm_code 361 811 = some (.ireturn, 812) := pm_of cl361_10 14 (q := (811, .ireturn, 812)) rfl
theorem c361_812 : pm_code 361 812 = some (.goto 1764, 815) := pm_of cl361_10 15 (q := (812, .goto 1764, 815)) rfl
theorem c361_815 : pm_code 361 815 = some (.aload_n 1, 816) := pm_of cl361_10 16 (q := (815, .aload_n 1, 816)) rfl
theorem c361_816 : pm_code 361 816 = some (.aload_n 0, 817) := pm_of cl361_10 17 (q := (816, .aload_n 0, 817)) rfl
theorem c361_817 : pm_code 361 817 = some (.iload 4, 819) := pm_of cl361_10 18 (q := (817, .iload 4, 819)) rfl
theorem c361_819 : pm_code 361 819 = some (.iconst 1, 820) := pm_of cl361_10 19 (q := (819, .iconst 1, 820)) rfl
theorem c361_820 : pm_code 361 820 = some (.iadd, 821) := pm_of cl361_10 20 (q := (820, .iadd, 821)) rfl
theorem c361_821 : pm_code 361 821 = some (.iaload, 822) := pm_of cl361_10 21 (q := (821, .iaload, 822)) rfl
theorem c361_822 : pm_code 361 822 = some (.aload_n 3, 823) := pm_of cl361_10 22 (q := (822, .aload_n 3, 823)) rfl
theorem c361_823 : pm_code 361 823 = some (.invokestatic 162, 826) := pm_of cl361_10 23 (q := (823, .invokestatic 162, 826)) rfl
theorem c361_826 : pm_code 361 826 = some (.istore 5, 828) := pm_of cl361_10 24 (q := (826, .istore 5, 828)) rfl
theorem c361_828 : pm_code 361 828 = some (.aload_n 2, 829) := pm_of cl361_10 25 (q := (828, .aload_n 2, 829)) rfl
theorem c361_829 : pm_code 361 829 = some (.aload_n 0, 830) := pm_of cl361_10 26 (q := (829, .aload_n 0, 830)) rfl
theorem c361_830 : pm_code 361 830 = some (.iload 4, 832) := pm_of cl361_10 27 (q := (830, .iload 4, 832)) rfl
theorem c361_832 : pm_code 361 832 = some (.iconst 1, 833) := pm_of cl361_10 28 (q := (832, .iconst 1, 833)) rfl
theorem c361_833 : pm_code 361 833 = some (.iadd, 834) := pm_of cl361_10 29 (q := (833, .iadd, 834)) rfl
theorem c361_834 : pm_code 361 834 = some (.iaload, 835) := pm_of cl361_10 30 (q := (834, .iaload, 835)) rfl
theorem c361_835 : pm_code 361 835 = some (.invokevirtual 164, 838) := pm_of cl361_10 31 (q := (835, .invokevirtual 164, 838)) rfl
theorem c361_838 : pm_code 361 838 = some (.istore 6, 840) := pm_of cl361_10 32 (q := (838, .istore 6, 840)) rfl
theorem c361_840 : pm_code 361 840 = some (.aload_n 2, 841) := pm_of cl361_10 33 (q := (840, .aload_n 2, 841)) rfl
theorem c361_841 : pm_code 361 841 = some (.invokevirtual 128, 844) := pm_of cl361_10 34 (q := (841, .invokevirtual 128, 844)) rfl
theorem c361_844 : pm_code 361 844 = some (.iload 5, 846) := pm_of cl361_10 35 (q := (844, .iload 5, 846)) rfl
theorem c361_846 : pm_code 361 846 = some (.if_icmp .eq 5, 849) := pm_of cl361_10 36 (q := (846, .if_icmp .eq 5, 849)) rfl
theorem c361_849 : pm_code 361 849 = some (.iconst 0, 850) := pm_of cl361_10 37 (q := (849, .iconst 0, 850)) rfl
theorem c361_850 : pm_code 361 850 = some (.ireturn, 851) := pm_of cl361_10 38 (q := (850, .ireturn, 851)) rfl
theorem c361_851 : pm_code 361 851 = some (.iload 5, 853) := pm_of cl361_10 39 (q := (851, .iload 5, 853)) rfl
theorem cl361_11 : ([(853, .ifCond .ne 15, 856), (856, .aload_n 3, 857), (857, .iconst 0, 858), (858, .laload, 859), (859, .iload 6, 861), (861, .i2l, 862), (862, .lcmp, 863), (863, .ifCond .eq 5, 866), (866, .iconst 0, 867), (867, .ireturn, 868), (868, .goto 1708, 871), (871, .aload_n 1, 872), (872, .aload_n 0, 873), (873, .iload 4, 875), (875, .iconst 1, 876), (876, .iadd, 877), (877, .iaload, 878), (878, .aload_n 0, 879), (879, .iload 4, 881), (881, .iconst 2, 882), (882, .iadd, 883), (883, .iaload, 884), (884, .aload_n 0, 885), (885, .iload 4, 887), (887, .iconst 3, 888), (888, .iadd, 889), (889, .iaload, 890), (890, .aload_n 0, 891), (891, .iload 4, 893), (893, .iconst 4, 894), (894, .iadd, 895), (895, .iaload, 896), (896, .aload_n 0, 897), (897, .iload 4, 899), (899, .iconst 5, 900), (900, .iadd, 901), (901, .iaload, 902), (902, .aload_n 0, 903), (903, .iload 4, 905), (905, .bipush 6, 907)] : List (Nat × Instr × Nat)).all (fun q => decide (pm_code 361 q.1 = some q.2)) = true := by decide +kernel
theorem c361_853 : pm_code 361 853 = some (.ifCond .ne 15, 856) := pm_of cl361_11 0 (q := (853, .ifCond .ne 15, 856)) rfl
theorem c361_856 : pm_code 361 856 = some (.aload_n 3, 857) := pm_of cl361_11 1 (q := (856, .aload_n 3, 857)) rfl
theorem c361_857 : pm_code 361 857 = some (.iconst 0, 858) := pm_of cl361_11 2 (q := (857, .iconst 0, 858)) rfl
theorem c361_858 : pm_code 361 858 = some (.laload, 859) := pm_of cl361_11 3 (q := (858, .laload, 859)) rfl
theorem c361_859 : pm_code 361 859 = some (.iload 6, 861) := pm_of cl361_11 4 (q := (859, .iload 6, 861)) rfl
theorem c361_861 : pm_code 361 861 = some (.i2l, 862) := pm_of cl361_11 5 (q := (861, .i2l, 862)) rfl
theorem c361_862 : pm_code 361 862 = some (.lcmp, 863) := pm_of cl361_11 6 (q := (862, .lcmp, 863)) rfl
theorem c361_863 : pm_code 361 863 = some (.ifCond .eq 5, 866) := pm_of cl361_11 7 (q := (863, .ifCond .eq 5, 866)) rfl
theorem c361_866 : pm_code 361 866 = some (.iconst 0, 867) := pm_of cl361_11 8 (q := (866, .iconst 0, 867)) rfl
theorem c361_867 : pm_code 361 867 = some (.ireturn, 868) := pm_of cl361_11 9 (q := (867, .ireturn, 868)) rfl
theorem c361_868 : pm_code 361 868 = some (.goto 1708, 871) := pm_of cl361_11 10 (q := (868, .goto 1708, 871)) rfl
theorem c361_871 : pm_code 361 871 = some (.aload_n 1, 872) := pm_of cl361_11 11 (q := (871, .aload_n 1, 872)) rfl
theorem c361_872 : pm_code 361 872 = some (.aload_n 0, 873) := pm_of cl361_11 12 (q := (872, .aload_n 0, 873)) rfl
theorem c361_873 : pm_code 361 873 = some (.iload 4, 875) := pm_of cl361_11 13 (q := (873, .iload 4, 875)) rfl
theorem c361_875 : pm_code 361 875 = some (.iconst 1, 876) := pm_of cl361_11 14 (q := (875, .iconst 1, 876)) rfl
theorem c361_876 : pm_code 361 876 = some (.iadd, 877) := pm_of cl361_11 15 (q := (876, .iadd, 877)) rfl
theorem c361_877 : pm_code 361 877 = some (.iaload, 878) := pm_of cl361_11 16 (q := (877, .iaload, 878)) rfl
theorem c361_878 : pm_code 361 878 = some (.aload_n 0, 879) := pm_of cl361_11 17 (q := (878, .aload_n 0, 879)) rfl
theorem c361_879 : pm_code 361 879 = some (.iload 4, 881) := pm_of cl361_11 18 (q := (879, .iload 4, 881)) rfl
theorem c361_881 : pm_code 361 881 = some (.iconst 2, 882) := pm_of cl361_11 19 (q := (881, .iconst 2, 882)) rfl
theorem c361_882 : pm_code 361 882 = some (.iadd, 883) := pm_of cl361_11 20 (q := (882, .iadd, 883)) rfl
theorem c361_883 : pm_code 361 883 = some (.iaload, 884) := pm_of cl361_11 21 (q := (883, .iaload, 884)) rfl
theorem c361_884 : pm_code 361 884 = some (.aload_n 0, 885) := pm_of cl361_11 22 (q := (884, .aload_n 0, 885)) rfl
theorem c361_885 : pm_code 361 885 = some (.iload 4, 887) := pm_of cl361_11 23 (q := (885, .iload 4, 887)) rfl
theorem c361_887 : pm_code 361 887 = some (.iconst 3, 888) := pm_of cl361_11 24 (q := (887, .iconst 3, 888)) rfl
theorem c361_888 : pm_code 361 888 = some (.iadd, 889) := pm_of cl361_11 25 (q := (888, .iadd, 889)) rfl
theorem c361_889 : pm_code 361 889 = some (.iaload, 890) := pm_of cl361_11 26 (q := (889, .iaload, 890)) rfl
theorem c361_890 : pm_code 361 890 = some (.aload_n 0, 891) := pm_of cl361_11 27 (q := (890, .aload_n 0, 891)) rfl
theorem c361_891 : pm_code 361 891 = some (.iload 4, 893) := pm_of cl361_11 28 (q := (891, .iload 4, 893)) rfl
theorem c361_893 : pm_code 361 893 = some (.iconst 4, 894) := pm_of cl361_11 29 (q := (893, .iconst 4, 894)) rfl
theorem c361_894 : pm_code 361 894 = some (.iadd, 895) := pm_of cl361_11 30 (q := (894, .iadd, 895)) rfl
theorem c361_895 : pm_code 361 895 = some (.iaload, 896) := pm_of cl361_11 31 (q := (895, .iaload, 896)) rfl
theorem c361_896 : pm_code 361 896 = some (.aload_n 0, 897) := pm_of cl361_11 32 (q := (896, .aload_n 0, 897)) rfl
theorem c361_897 : pm_code 361 897 = some (.iload 4, 899) := pm_of cl361_11 33 (q := (897, .iload 4, 899)) rfl
theorem c361_899 : pm_code 361 899 = some (.iconst 5, 900) := pm_of cl361_11 34 (q := (899, .iconst 5, 900)) rfl
theorem c361_900 : pm_code 361 900 = some (.iadd, 901) := pm_of cl361_11 35 (q := (900, .iadd, 901)) rfl
theorem c361_901 : pm_code 361 901 = some (.iaload, 902) := pm_of cl361_11 36 (q := (901, .iaload, 902)) rfl
theorem c361_902 : pm_code 361 902 = some (.aload_n 0, 903) := pm_of cl361_11 37 (q := (902, .aload_n 0, 903)) rfl
theorem c361_903 : pm_code 361 903 = some (.iload 4, 905) := pm_of cl361_11 38 (q := (903, .iload 4, 905)) rfl
theorem c361_905 : pm_code 361 905 = some (.bipush 6, 907) := pm_of cl361_11 39 (q := (905, .bipush 6, 907)) rfl
theorem cl361_12 : ([(907, .iadd, 908), (908, .iaload, 909), (909, .aload_n 3, 910), (910, .invokestatic 165, 913), (913, .istore 5, 915), (915, .aload_n 2, 916), (916, .aload_n 0, 917), (917, .iload 4, 919), (919, .iconst 1, 920), (920, .iadd, 921), (921, .iaload, 922), (922, .aload_n 0, 923), (923, .iload 4, 925), (925, .iconst 2, 926), (926, .iadd, 927), (927, .iaload, 928), (928, .aload_n 0, 929), (929, .iload 4, 931), (931, .iconst 3, 932), (932, .iadd, 933), (933, .iaload, 934), (934, .aload_n 0, 935), (935, .iload 4, 937), (937, .iconst 4, 938), (938, .iadd, 939), (939, .iaload, 940), (940, .aload_n 0, 941), (941, .iload 4, 943), (943, .iconst 5, 944), (944, .iadd, 945), (945, .iaload, 946), (946, .aload_n 0, 947), (947, .iload 4, 949), (949, .bipush 6, 951), (951, .iadd, 952), (952, .iaload, 953), (953, .invokevirtual 168, 956), (956, .istore 6, 958), (958, .aload_n 2, 959), (959, .invokevirtual 128, 962)] : List (Nat × Instr × Nat)).all (fun q => decide (pm_code 361 q.1 = some q.2)) = true := by decide +kernel
theorem c361_907 : pm_code 361 907 = some (.iadd, 908) := pm_of cl361_12 0 (q := (907, .iadd, 908)) rfl
theorem c361_908 : pm_code 361 908 = some (.iaload, 909) := pm_of cl361_12 1 (q := (908, .iaload, 909)) rfl
theorem c361_909 : pm_code 361 909 = some (.aload_n 3, 910) := pm_of cl361_12 2 (q := (909, .aload_n 3, 910)) rfl
theorem c361_910 : pm_code 361 910 = some (.invokestatic 165, 913) := pm_of cl361_12 3 (q := (910, .invokestatic 165, 913)) rfl
theorem c361_913 : pm_code 361 913 = some (.istore 5, 915) := pm_of cl361_12 4 (q := (913, .istore 5, 915)) rfl
theorem c361_915 : pm_code 361 915 = some (.aload_n 2, 916) := pm_of cl361_12 5 (q := (915, .aload_n 2, 916)) rfl
theorem c361_916 : pm_code 361 916 = some (.aload_n 0, 917) := pm_of cl361_12 6 (q := (916, .aload_n 0, 917)) rfl
theorem c361_917 : pm_code 361 917 = some (.iload 4, 919) := pm_of cl361_12 7 (q := (917, .iload 4, 919)) rfl
theorem c361_919 : pm_code 361 919 = some (.iconst 1, 920) := pm_of cl361_12 8 (q := (919, .iconst 1, 920)) rfl
theorem c361_920 : pm_code 361 920 = some (.iadd, 921) := pm_of cl361_12 9 (q := (920, .iadd, 921)) rfl
theorem c361_921 : pm_code 361 921 = some (.iaload, 922) := pm_of cl361_12 10 (q := (921, .iaload, 922)) rfl
theorem c361_922 : pm_code 361 922 = some (.aload_n 0, 923) := pm_of cl361_12 11 (q := (922, .aload_n 0, 923)) rfl
theorem c361_923 : pm_code 361 923 = some (.iload 4, 925) := pm_of cl361_12 12 (q := (923, .iload 4, 925)) rfl
theorem c361_925 : pm_code 361 925 = some (.iconst 2, 926) := pm_of cl361_12 13 (q := (925, .iconst 2, 926)) rfl
theorem c361_926 : pm_code 361 926 = some (.iadd, 927) := pm_of cl361_12 14 (q := (926, .iadd, 927)) rfl
theorem c361_927 : pm_code 361 927 = some (.iaload, 928) := pm_of cl361_12 15 (q := (927, .iaload, 928)) rfl
theorem c361_928 : pm_code 361 928 = some (.aload_n 0, 929) := pm_of cl361_12 16 (q := (928, .aload_n 0, 929)) rfl
theorem c361_929 : pm_code 361 929 = some (.iload 4, 931) := pm_of cl361_12 17 (q := (929, .iload 4, 931)) rfl
theorem c361_931 : pm_code 361 931 = some (.iconst 3, 932) := pm_of cl361_12 18 (q := (931, .iconst 3, 932)) rfl
theorem c361_932 : pm_code 361 932 = some (.iadd, 933) := pm_of cl361_12 19 (q := (932, .iadd, 933)) rfl
theorem c361_933 : pm_code 361 933 = some (.iaload, 934) := pm_of cl361_12 20 (q := (933, .iaload, 934)) rfl
theorem c361_934 : pm_code 361 934 = some (.aload_n 0, 935) := pm_of cl361_12 21 (q := (934, .aload_n 0, 935)) rfl
theorem c361_935 : pm_code 361 935 = some (.iload 4, 937) := pm_of cl361_12 22 (q := (935, .iload 4, 937)) rfl
theorem c361_937 : pm_code 361 937 = some (.iconst 4, 938) := pm_of cl361_12 23 (q := (937, .iconst 4, 938)) rfl
theorem c361_938 : pm_code 361 938 = some (.iadd, 939) := pm_of cl361_12 24 (q := (938, .iadd, 939)) rfl
theorem c361_939 : pm_code 361 939 = some (.iaload, 940) := pm_of cl361_12 25 (q := (939, .iaload, 940)) rfl
theorem c361_940 : pm_code 361 940 = some (.aload_n 0, 941) := pm_of cl361_12 26 (q := (940, .aload_n 0, 941)) rfl
theorem c361_941 : pm_code 361 941 = some (.iload 4, 943) := pm_of cl361_12 27 (q := (941, .iload 4, 943)) rfl
theorem c361_943 : pm_code 361 943 = some (.iconst 5, 944) := pm_of cl361_12 28 (q := (943, .iconst 5, 944)) rfl
theorem c361_944 : pm_code 361 944 = some (.iadd, 945) := pm_of cl361_12 29 (q := (944, .iadd, 945)) rfl
theorem c361_945 : pm_code 361 945 = some (.iaload, 946) := pm_of cl361_12 30 (q := (945, .iaload, 946)) rfl
theorem c361_946 : pm_code 361 946 = some (.aload_n 0, 947) := pm_of cl361_12 31 (q := (946, .aload_n 0, 947)) rfl
theorem c361_947 : pm_code 361 947 = some (.iload 4, 949) := pm_of cl361_12 32 (q := (947, .iload 4, 949)) rfl
theorem c361_949 : pm_code 361 949 = some (.bipush 6, 951) := pm_of cl361_12 33 (q := (949, .bipush 6, 951)) rfl
theorem c361_951 : pm_code 361 951 = some (.iadd, 952) := pm_of cl361_12 34 (q := (951, .iadd, 952)) rfl
theorem c361_952 : pm_code 361 952 = some (.iaload, 953) := pm_of cl361_12 35 (q := (952, .iaload, 953)) rfl
theorem c361_953 : pm_code 361 953 = some (.invokevirtual 168, 956) := pm_of cl361_12 36 (q := (953, .invokevirtual 168, 956)) rfl
theorem c361_956 : pm_code 361 956 = some (.istore 6, 958) := pm_of cl361_12 37 (q := (956, .istore 6, 958)) rfl
theorem c361_958 : pm_code 361 958 = some (.aload_n 2, 959) := pm_of cl361_12 38 (q := (958, .aload_n 2, 959)) rfl
theorem c361_959 : pm_code 361 959 = some (.invokevirtual 128, 962) := pm_of cl361_12 39 (q := (959, .invokevirtual 128, 962)) rfl
theorem cl361_13 : ([(962, .iload 5, 964), (964, .if_icmp .eq 5, 967), (967, .iconst 0, 968), (968, .ireturn, 969), (969, .iload 5, 971), (971, .ifCond .ne 15, 974), (974, .aload_n 3, 975), (975, .iconst 0, 976), (976, .laload, 977), (977, .iload 6, 979), (979, .i2l, 980), (980, .lcmp, 981), (981, .ifCond .eq 5, 984), (984, .iconst 0, 985), (985, .ireturn, 986), (986, .goto 1590, 989), (989, .aload_n 1, 990), (990, .invokevirtual 169, 993), (993, .aload_n 2, 994), (994, .invokevirtual 172, 997), (997, .if_icmp .eq 1579, 1000), (1000, .iconst 0, 1001), (1001, .ireturn, 1002), (1002, .aload_n 1, 1003), (1003, .aload_n 0, 1004), (1004, .iload 4, 1006), (1006, .iconst 1, 1007), (1007, .iadd, 1008), (1008, .iaload, 1009), (1009, .aload_n 3, 1010), (1010, .invokestatic 173, 1013), (1013, .istore 5, 1015), (1015, .aload_n 2, 1016), (1016, .aload_n 0, 1017), (1017, .iload 4, 1019), (1019, .iconst 1, 1020), (1020, .iadd, 1021), (1021, .iaload, 1022), (1022, .invokevirtual 175, 1025), (1025, .istore 6, 1027)] : List (Nat × Instr × Nat)).all (fun q => decide (pm_code 361 q.1 = some q.2)) = true := by decide +kernel
theorem c361_962 : pm_code 361 962 = some (.iload 5, 964) := pm_of cl361_13 0 (q := (962, .iload 5, 964)) rfl
theorem c361_964 : pm_code 361 964 = some (.if_icmp .eq 5, 967) := pm_of cl361_13 1 (q := (964, .if_icmp .eq 5, 967)) rfl
theorem c361_967 : pm_code 361 967 = some (.iconst 0, 968) := pm_of cl361_13 2 (q := (967, .iconst 0, 968)) rfl
theorem c361_968 : pm_code 361 968 = some (.ireturn, 969) := pm_of cl361_13 3 (q := (968, .ireturn, 969)) rfl
theorem c361_969 : pm_code 361 969 = some (.iload 5, 971) := pm_of cl361_13 4 (q := (969, .iload 5, 971)) rfl
theorem c361_971 : pm_code 361 971 = some (.ifCond .ne 15, 974) := pm_of cl361_13 5 (q := (971, .ifCond .ne 15, 974)) rfl
theorem c361_974 : pm_code 361 974 = some (.aload_n 3, 975) := pm_of cl361_13 6 (q := (974, .aload_n 3, 975)) rfl
theorem c361_975 : pm_code 361 975 = some (.iconst 0, 976) := pm_of cl361_13 7 (q := (975, .iconst 0, 976)) rfl
theorem c361_976 : pm_code 361 976 = some (.laload, 977) := pm_of cl361_13 8 (q := (976, .laload, 977)) rfl
theorem c361_977 : pm_code 361 977 = some (.iload 6, 979) := pm_of cl361_13 9 (q := (977, .iload 6, 979)) rfl
theorem c361_979 : pm_code 361 979 = some (.i2l, 980) := pm_of cl361_13 10 (q := (979, .i2l, 980)) rfl
theorem c361_980 : pm_code 361 980 = some (.lcmp, 981) := pm_of cl361_13 11 (q := (980, .lcmp, 981)) rfl
theorem c361_981 : pm_code 361 981 = some (.ifCond .eq 5, 984) := pm_of cl361_13 12 (q := (981, .ifCond .eq 5, 984)) rfl
theorem c361_984 : pm_code 361 984 = some (.iconst 0, 985) := pm_of cl361_13 13 (q := (984, .iconst 0, 985)) rfl
theorem c361_985 : pm_code 361 985 = some (.ireturn, 986) := pm_of cl361_13 14 (q := (985, .ireturn, 986)) rfl
theorem c361_986 : pm_code 361 986 = some (.goto 1590, 989) := pm_of cl361_13 15 (q := (986, .goto 1590, 989)) rfl
theorem c361_989 : pm_code 361 989 = some (.aload_n 1, 990) := pm_of cl361_13 16 (q := (989, .aload_n 1, 990)) rfl
theorem c361_990 : pm_code 361 990 = some (.invokevirtual 169, 993) := pm_of cl361_13 17 (q := (990, .invokevirtual 169, 993)) rfl
theorem c361_993 : pm_code 361 993 = some (.aload_n 2, 994) := pm_of cl361_13 18 (q := (993, .aload_n 2, 994)) rfl
theorem c361_994 : pm_code 361 994 = some (.invokevirtual 172, 997) := pm_of cl361_13 19 (q := (994, .invokevirtual 172, 997)) rfl
theorem c361_997 : pm_code 361 997 = some (.if_icmp .eq 1579, 1000) := pm_of cl361_13 20 (q := (997, .if_icmp .eq 1579, 1000)) rfl
theorem c361_1000 : pm_code 361 1000 = some (.iconst 0, 1001) := pm_of cl361_13 21 (q := (1000, .iconst 0, 1001)) rfl
theorem c361_1001 : pm_code 361 1001 = some (.ireturn, 1002) := pm_of cl361_13 22 (q := (1001, .ireturn, 1002)) rfl
theorem c361_1002 : pm_code 361 1002 = some (.aload_n 1, 1003) := pm_of cl361_13 23 (q := (1002, .aload_n 1, 1003)) rfl
theorem c361_1003 : pm_code 361 1003 = some (.aload_n 0, 1004) := pm_of cl361_13 24 (q := (1003, .aload_n 0, 1004)) rfl
theorem c361_1004 : pm_code 361 1004 = some (.iload 4, 1006) := pm_of cl361_13 25 (q := (1004, .iload 4, 1006)) rfl
theorem c361_1006 : pm_code 361 1006 = some (.iconst 1, 1007) := pm_of cl361_13 26 (q := (1006, .iconst 1, 1007)) rfl
theorem c361_1007 : pm_code 361 1007 = some (.iadd, 1008) := pm_of cl361_13 27 (q := (1007, .iadd, 1008)) rfl
theorem c361_1008 : pm_code 361 1008 = some (.iaload, 1009) := pm_of cl361_13 28 (q := (1008, .iaload, 1009)) rfl
theorem c361_1009 : pm_code 361 1009 = some (.aload_n 3, 1010) := pm_of cl361_13 29 (q := (1009, .aload_n 3, 1010)) rfl
theorem c361_1010 : pm_code 361 1010 = some (.invokestatic 173, 1013) := pm_of cl361_13 30 (q := (1010, .invokestatic 173, 1013)) rfl
theorem c361_1013 : pm_code 361 1013 = some (.istore 5, 1015) := pm_of cl361_13 31 (q := (1013, .istore 5, 1015)) rfl
theorem c361_1015 : pm_code 361 1015 = some (.aload_n 2, 1016) := pm_of cl361_13 32 (q := (1015, .aload_n 2, 1016)) rfl
theorem c361_1016 : pm_code 361 1016 = some (.aload_n 0, 1017) := pm_of cl361_13 33 (q := (1016, .aload_n 0, 1017)) rfl
theorem c361_1017 : pm_code 361 1017 = some (.iload 4, 1019) := pm_of cl361_13 34 (q := (1017, .iload 4, 1019)) rfl
theorem c361_1019 : pm_code 361 1019 = some (.iconst 1, 1020) := pm_of cl361_13 35 (q := (1019, .iconst 1, 1020)) rfl
theorem c361_1020 : pm_code 361 1020 = some (.iadd, 1021) := pm_of cl361_13 36 (q := (1020, .iadd, 1021)) rfl
theorem c361_1021 : pm_code 361 1021 = some (.iaload, 1022) := pm_of cl361_13 37 (q := (1021, .iaload, 1022)) rfl
theorem c361_1022 : pm_code 361 1022 = some (.invokevirtual 175, 1025) := pm_of cl361_13 38 (q := (1022, .invokevirtual 175, 1025)) rfl
theorem c361_1025 : pm_code 361 1025 = some (.istore 6, 1027) := pm_of cl361_13 39 (q := (1025, .istore 6, 1027)) rfl
theorem cl361_14 : ([(1027, .aload_n 2, 1028), (1028, .invokevirtual 128, 1031), (1031, .iload 5, 1033), (1033, .if_icmp .eq 5, 1036), (1036, .iconst 0, 1037), (1037, .ireturn, 1038), (1038, .iload 5, 1040), (1040, .ifCond .ne 15, 1043), (1043, .aload_n 3, 1044), (1044, .iconst 0, 1045), (1045, .laload, 1046), (1046, .iload 6, 1048), (1048, .i2l, 1049), (1049, .lcmp, 1050), (1050, .ifCond .eq 5, 1053), (1053, .iconst 0, 1054), (1054, .ireturn, 1055), (1055, .goto 1521, 1058), (1058, .aload_n 1, 1059), (1059, .aload_n 0, 1060), (1060, .iload 4, 1062), (1062, .iconst 1, 1063), (1063, .iadd, 1064), (1064, .iaload, 1065), (1065, .aload_n 3, 1066), (1066, .invokestatic 176, 1069), (1069, .istore 5, 1071), (1071, .aload_n 2, 1072), (1072, .aload_n 0, 1073), (1073, .iload 4, 1075), (1075, .iconst 1, 1076), (1076, .iadd, 1077), (1077, .iaload, 1078), (1078, .invokevirtual 178, 1081), (1081, .istore 6, 1083), (1083, .aload_n 2, 1084), (1084, .invokevirtual 128, 1087), (1087, .iload 5, 1089), (1089, .if_icmp .eq 5, 1092), (1092, .iconst 0, 1093)] : List (Nat × Instr × Nat)).all (fun q => decide (pm_code 361 q.1 = some q.2)) = true := by decide +kernel
theorem c361_1027 : pm_code 361 1027 = some (.aload_n 2, 1028) := pm_of cl361_14 0 (q := (1027, .aload_n 2, 1028)) rfl
theorem c361_1028 : pm_code 361 1028 = some (.invokevirtual 128, 1031) := pm_of cl361_14 1 (q := (1028, .invokevirtual 128, 1031)) rfl
theorem c361_1031 : pm_code 361 1031 = some (.iload 5, 1033) := pm_of cl361_14 2 (q := (1031, .iload 5, 1033)) rfl
theorem c361_1033 : pm_code 361 1033 = some (.if_icmp .eq 5, 1036) := pm_of cl361_14 3 (q := (1033, .if_icmp .eq 5, 1036)) rfl
theorem c361_1036 : pm_code 361 1036 = some (.iconst 0, 1037) := pm_of cl361_14 4 (q := (1036, .iconst 0, 1037)) rfl
theorem c361_1037 : pm_code 361 1037 = some (.ireturn, 1038) := pm_of cl361_14 5 (q := (1037, .ireturn, 1038)) rfl
theorem c361_1038 : pm_code 361 1038 = some (.iload 5, 1040) := pm_of cl361_14 6 (q := (1038, .iload 5, 1040)) rfl
theorem c361_1040 : pm_code 361 1040 = some (.ifCond .ne 15, 1043) := pm_of cl361_14 7 (q := (1040, .ifCond .ne 15, 1043)) rfl
theorem c361_1043 : pm_code 361 1043 = some (.aload_n 3, 1044) := pm_of cl361_14 8 (q := (1043, .aload_n 3, 1044)) rfl
theorem c361_1044 : pm_code 361 1044 = some (.iconst 0, 1045) := pm_of cl361_14 9 (q := (1044, .iconst 0, 1045)) rfl
theorem c361_1045 : pm_code 361 1045 = some (.laload, 1046) := pm_of cl361_14 10 (q := (1045, .laload, 1046)) rfl
theorem c361_1046 : pm_code 361 1046 = some (.iload 6, 1048) := pm_of cl361_14 11 (q := (1046, .iload 6, 1048)) rfl
theorem c361_1048 : pm_code 361 1048 = some (.i2l, 1049) := pm_of cl361_14 12 (q := (1048, .i2l, 1049)) rfl
theorem c361_1049 : pm_code 361 1049 = some (.lcmp, 1050) := pm_of cl361_14 13 (q := (1049, .lcmp, 1050)) rfl
theorem c361_1050 : pm_code 361 1050 = some (.ifCond .eq 5, 1053) := pm_of cl361_14 14 (q := (1050, .ifCond .eq 5, 1053)) rfl
theorem c361_1053 : pm_code 361 1053 = some (.iconst 0, 1054) := pm_of cl361_14 15 (q := (1053, .iconst 0, 1054)) rfl
theorem c361_1054 : pm_code 361 1054 = some (.ireturn, 1055) := pm_of cl361_14 16 (q := (1054, .ireturn, 1055)) rfl
theorem c361_1055 : pm_code 361 1055 = some (.goto 1521, 1058) := pm_of cl361_14 17 (q := (1055, .goto 1521, 1058)) rfl
theorem c361_1058 : pm_code 361 1058 = some (.aload_n 1, 1059) := pm_of cl361_14 18 (q := (1058, .aload_n 1, 1059)) rfl
theorem c361_1059 : pm_code 361 1059 = some (.aload_n 0, 1060) := pm_of cl361_14 19 (q := (1059, .aload_n 0, 1060)) rfl
theorem c361_1060 : pm_code 361 1060 = some (.iload 4, 1062) := pm_of cl361_14 20 (q := (1060, .iload 4, 1062)) rfl
theorem c361_1062 : pm_code 361 1062 = some (.iconst 1, 1063) := pm_of cl361_14 21 (q := (1062, .iconst 1, 1063)) rfl
theorem c361_1063 : pm_code 361 1063 = some (.iadd, 1064) := pm_of cl361_14 22 (q := (1063, .iadd, 1064)) rfl
theorem c361_1064 : pm_code 361 1064 = some (.iaload, 1065) := pm_of cl361_14 23 (q := (1064, .iaload, 1065)) rfl
theorem c361_1065 : pm_code 361 1065 = some (.aload_n 3, 1066) := pm_of cl361_14 24 (q := (1065, .aload_n 3, 1066)) rfl
theorem c361_1066 : pm_code 361 1066 = some (.invokestatic 176, 1069) := pm_of cl361_14 25 (q := (1066, .invokestatic 176, 1069)) rfl
theorem c361_1069 : pm_code 361 1069 = some (.istore 5, 1071) := pm_of cl361_14 26 (q := (1069, .istore 5, 1071)) rfl
theorem c361_1071 : pm_code 361 1071 = some (.aload_n 2, 1072) := pm_of cl361_14 27 (q := (1071, .aload_n 2, 1072)) rfl
theorem c361_1072 : pm_code 361 1072 = some (.aload_n 0, 1073) := pm_of cl361_14 28 (q := (1072, .aload_n 0, 1073)) rfl
theorem c361_1073 : pm_code 361 1073 = some (.iload 4, 1075) := pm_of cl361_14 29 (q := (1073, .iload 4, 1075)) rfl
theorem c361_1075 : pm_code 361 1075 = some (.iconst 1, 1076) := pm_of cl361_14 30 (q := (1075, .iconst 1, 1076)) rfl
theorem c361_1076 : pm_code 361 1076 = some (.iadd, 1077) := pm_of cl361_14 31 (q := (1076, .iadd, 1077)) rfl
theorem c361_1077 : pm_code 361 1077 = some (.iaload, 1078) := pm_of cl361_14 32 (q := (1077, .iaload, 1078)) rfl
theorem c361_1078 : pm_code 361 1078 = some (.invokevirtual 178, 1081) := pm_of cl361_14 33 (q := (1078, .invokevirtual 178, 1081)) rfl
theorem c361_1081 : pm_code 361 1081 = some (.istore 6, 1083) := pm_of cl361_14 34 (q := (1081, .istore 6, 1083)) rfl
theorem c361_1083 : pm_code 361 1083 = some (.aload_n 2, 1084) := pm_of cl361_14 35 (q := (1083, .aload_n 2, 1084)) rfl
theorem c361_1084 : pm_code 361 1084 = some (.invokevirtual 128, 1087) := pm_of cl361_14 36 (q := (1084, .invokevirtual 128, 1087)) rfl
theorem c361_1087 : pm_code 361 1087 = some (.iload 5, 1089) := pm_of cl361_14 37 (q := (1087, .iload 5, 1089)) rfl
theorem c361_1089 : pm_code 361 1089 = some (.if_icmp .eq 5, 1092) := pm_of cl361_14 38 (q := (1089, .if_icmp .eq 5, 1092)) rfl
theorem c361_1092 : pm_code 361 1092 = some (.iconst 0, 1093) := pm_of cl361_14 39 (q := (1092, .iconst 0, 1093)) rfl
theorem cl361_15 : ([(1093, .ireturn, 1094), (1094, .iload 5, 1096), (1096, .ifCond .ne 15, 1099), (1099, .aload_n 3, 1100), (1100, .iconst 0, 1101), (1101, .laload, 1102), (1102, .iload 6, 1104), (1104, .i2l, 1105), (1105, .lcmp, 1106), (1106, .ifCond .eq 5, 1109), (1109, .iconst 0, 1110), (1110, .ireturn, 1111), (1111, .goto 1465, 1114), (1114, .aload_n 1, 1115), (1115, .aload_n 0, 1116), (1116, .iload 4, 1118), (1118, .iconst 1, 1119), (1119, .iadd, 1120), (1120, .iaload, 1121), (1121, .aload_n 0, 1122), (1122, .iload 4, 1124), (1124, .iconst 2, 1125), (1125, .iadd, 1126), (1126, .iaload, 1127), (1127, .aload_n 3, 1128), (1128, .invokestatic 179, 1131), (1131, .istore 5, 1133), (1133, .aload_n 2, 1134), (1134, .aload_n 0, 1135), (1135, .iload 4, 1137), (1137, .iconst 1, 1138), (1138, .iadd, 1139), (1139, .iaload, 1140), (1140, .aload_n 0, 1141), (1141, .iload 4, 1143), (1143, .iconst 2, 1144), (1144, .iadd, 1145), (1145, .iaload, 1146), (1146, .invokevirtual 181, 1149), (1149, .istore 6, 1151)] : List (Nat × Instr × Nat)).all (fun q => decide (pm_code 361 q.1 = some q.2)) = true := by decide +kernel
theorem c361_1093 : pm_code 361 1093 = some (.ireturn, 1094) := pm_of cl361_15 0 (q := (1093, .ireturn, 1094)) rfl
theorem c361_1094 : pm_code 361 1094 = some (.iload 5, 1096) := pm_of cl361_15 1 (q := (1094, .iload 5, 1096)) rfl
theorem c361_1096 : pm_code 361 1096 = some (.ifCond .ne 15, 1099) := pm_of cl361_15 2 (q := (1096, .ifCond .ne 15, 1099)) rfl
theorem c361_1099 : pm_code 361 1099 = some (.aload_n 3, 1100) := pm_of cl361_15 3 (q := (1099, .aload_n 3, 1100)) rfl
theorem c361_1100 : pm_code 361 1100 = some (.iconst 0, 1101) := pm_of cl361_15 4 (q := (1100, .iconst 0, 1101)) rfl
theorem c361_1101 : pm_code 361 1101 = some (.laload, 1102) := pm_of cl361_15 5 (q := (1101, .laload, 1102)) rfl
theorem c361_1102 : pm_code 361 1102 = some (.iload 6, 1104) := pm_of cl361_15 6 (q := (1102, .iload 6, 1104)) rfl
theorem c361_1104 : pm_code 361 1104 = some (.i2l, 1105) := pm_of cl361_15 7 (q := (1104, .i2l, 1105)) rfl
theorem c361_1105 : pm_code 361 1105 = some (.lcmp, 1106) := pm_of cl361_15 8 (q := (1105, .lcmp, 1106)) rfl
theorem c361_1106 : pm_code 361 1106 = some (.ifCond .eq 5, 1109) := pm_of cl361_15 9 (q := (1106, .ifCond .eq 5, 1109)) rfl
theorem c361_1109 : pm_code 361 1109 = some (.iconst 0, 1110) := pm_of cl361_15 10 (q := (1109, .iconst 0, 1110)) rfl
theorem c361_1110 : pm_code 361 1110 = some (.ireturn, 1111) := pm_of cl361_15 11 (q := (1110, .ireturn, 1111)) rfl
theorem c361_1111 : pm_code 361 1111 = some (.goto 1465, 1114) := pm_of cl361_15 12 (q := (1111, .goto 1465, 1114)) rfl
theorem c361_1114 : pm_code 361 1114 = some (.aload_n 1, 1115) := pm_of cl361_15 13 (q := (1114, .aload_n 1, 1115)) rfl
theorem c361_1115 : pm_code 361 1115 = some (.aload_n 0, 1116) := pm_of cl361_15 14 (q := (1115, .aload_n 0, 1116)) rfl
theorem c361_1116 : pm_code 361 1116 = some (.iload 4, 1118) := pm_of cl361_15 15 (q := (1116, .iload 4, 1118)) rfl
theorem c361_1118 : pm_code 361 1118 = some (.iconst 1, 1119) := pm_of cl361_15 16 (q := (1118, .iconst 1, 1119)) rfl
theorem c361_1119 : pm_code 361 1119 = some (.iadd, 1120) := pm_of cl361_15 17 (q := (1119, .iadd, 1120)) rfl
theorem c361_1120 : pm_code 361 1120 = some (.iaload, 1121) := pm_of cl361_15 18 (q := (1120, .iaload, 1121)) rfl
theorem c361_1121 : pm_code 361 1121 = some (.aload_n 0, 1122) := pm_of cl361_15 19 (q := (1121, .aload_n 0, 1122)) rfl
theorem c361_1122 : pm_code 361 1122 = some (.iload 4, 1124) := pm_of cl361_15 20 (q := (1122, .iload 4, 1124)) rfl
theorem c361_1124 : pm_code 361 1124 = some (.iconst 2, 1125) := pm_of cl361_15 21 (q := (1124, .iconst 2, 1125)) rfl
theorem c361_1125 : pm_code 361 1125 = some (.iadd, 1126) := pm_of cl361_15 22 (q := (1125, .iadd, 1126)) rfl
theorem c361_1126 : pm_code 361 1126 = some (.iaload, 1127) := pm_of cl361_15 23 (q := (1126, .iaload, 1127)) rfl
theorem c361_1127 : pm_code 361 1127 = some (.aload_n 3, 1128) := pm_of cl361_15 24 (q := (1127, .aload_n 3, 1128)) rfl
theorem c361_1128 : pm_code 361 1128 = some (.invokestatic 179, 1131) := pm_of cl361_15 25 (q := (1128, .invokestatic 179, 1131)) rfl
theorem c361_1131 : pm_code 361 1131 = some (.istore 5, 1133) := pm_of cl361_15 26 (q := (1131, .istore 5, 1133)) rfl
theorem c361_1133 : pm_code 361 1133 = some (.aload_n 2, 1134) := pm_of cl361_15 27 (q := (1133, .aload_n 2, 1134)) rfl
theorem c361_1134 : pm_code 361 1134 = some (.aload_n 0, 1135) := pm_of cl361_15 28 (q := (1134, .aload_n 0, 1135)) rfl
theorem c361_1135 : pm_code 361 1135 = some (.iload 4, 1137) := pm_of cl361_15 29 (q := (1135, .iload 4, 1137)) rfl
theorem c361_1137 : pm_code 361 1137 = some (.iconst 1, 1138) := pm_of cl361_15 30 (q := (1137, .iconst 1, 1138)) rfl
theorem c361_1138 : pm_code 361 1138 = some (.iadd, 1139) := pm_of cl361_15 31 (q := (1138, .iadd, 1139)) rfl
theorem c361_1139 : pm_code 361 1139 = some (.iaload, 1140) := pm_of cl361_15 32 (q := (1139, .iaload, 1140)) rfl
theorem c361_1140 : pm_code 361 1140 = some (.aload_n 0, 1141) := pm_of cl361_15 33 (q := (1140, .aload_n 0, 1141)) rfl
theorem c361_1141 : pm_code 361 1141 = some (.iload 4, 1143) := pm_of cl361_15 34 (q := (1141, .iload 4, 1143)) rfl
theorem c361_1143 : pm_code 361 1143 = some (.iconst 2, 1144) := pm_of cl361_15 35 (q := (1143, .iconst 2, 1144)) rfl
theorem c361_1144 : pm_code 361 1144 = some (.iadd, 1145) := pm_of cl361_15 36 (q := (1144, .iadd, 1145)) rfl
theorem c361_1145 : pm_code 361 1145 = some (.iaload, 1146) := pm_of cl361_15 37 (q := (1145, .iaload, 1146)) rfl
theorem c361_1146 : pm_code 361 1146 = some (.invokevirtual 181, 1149) := pm_of cl361_15 38 (q := (1146, .invokevirtual 181, 1149)) rfl
theorem c361_1149 : pm_code 361 1149 = some (.istore 6, 1151) := pm_of cl361_15 39 (q := (1149, .istore 6, 1151)) rfl
theorem cl361_16 : ([(1151, .aload_n 2, 1152), (1152, .invokevirtual 128, 1155), (1155, .iload 5, 1157), (1157, .if_icmp .eq 5, 1160), (1160, .iconst 0, 1161), (1161, .ireturn, 1162), (1162, .iload 5, 1164), (1164, .ifCond .ne 15, 1167), (1167, .aload_n 3, 1168), (1168, .iconst 0, 1169), (1169, .laload, 1170), (1170, .iload 6, 1172), (1172, .i2l, 1173), (1173, .lcmp, 1174), (1174, .ifCond .eq 5, 1177), (1177, .iconst 0, 1178), (1178, .ireturn, 1179), (1179, .goto 1397, 1182), (1182, .aload_n 1, 1183), (1183, .aload_n 0, 1184), (1184, .iload 4, 1186), (1186, .iconst 1, 1187), (1187, .iadd, 1188), (1188, .iaload, 1189), (1189, .aload_n 0, 1190), (1190, .iload 4, 1192), (1192, .iconst 2, 1193), (1193, .iadd, 1194), (1194, .iaload, 1195), (1195, .aload_n 3, 1196), (1196, .invokestatic 182, 1199), (1199, .istore 5, 1201), (1201, .aload_n 2, 1202), (1202, .aload_n 0, 1203), (1203, .iload 4, 1205), (1205, .iconst 1, 1206), (1206, .iadd, 1207), (1207, .iaload, 1208), (1208, .aload_n 0, 1209), (1209, .iload 4, 1211)] : List (Nat × Instr × Nat)).all (fun q => decide (pm_code 361 q.1 = some q.2)) = true := by decide +kernel
theorem c361_1151 : pm_code 361 1151 = some (.aload_n 2, 1152) := pm_of cl361_16 0 (q := (1151, .aload_n 2, 1152)) rfl
theorem c361_1152 : pm_code 361 1152 = some (.invokevirtual 128, 1155) := pm_of cl361_16 1 (q := (1152, .invokevirtual 128, 1155)) rfl
theorem c361_1155 : pm_code 361 1155 = some (.iload 5, 1157) := pm_of cl361_16 2 (q := (1155, .iload 5, 1157)) rfl
theorem c361_1157 : pm_code 361 1157 = some (.if_icmp .eq 5, 1160) := pm_of cl361_16 3 (q := (1157, .if_icmp .eq 5, 1160)) rfl
theorem c361_1160 : pm_code 361 1160 = some (.iconst 0, 1161) := pm_of cl361_16 4 (q := (1160, .iconst 0, 1161)) rfl
theorem c361_1161 : pm_code 361 1161 = some (.ireturn, 1162) := pm_of cl361_16 5 (q := (1161, .ireturn, 1162)) rfl
theorem c361_1162 : pm_code 361 1162 = some (.iload 5, 1164) := pm_of cl361_16 6 (q := (1162, .iload 5, 1164)) rfl
theorem c361_1164 : pm_code 361 1164 = some (.ifCond .ne 15, 1167) := pm_of cl361_16 7 (q := (1164, .ifCond .ne 15, 1167)) rfl
theorem c361_1167 : pm_code 361 1167 = some (.aload_n 3, 1168) := pm_of cl361_16 8 (q := (1167, .aload_n 3, 1168)) rfl
theorem c361_1168 : pm_code 361 1168 = some (.iconst 0, 1169) := pm_of cl361_16 9 (q := (1168, .iconst 0, 1169)) rfl
theorem c361_1169 : pm_code 361 1169 = some (.laload, 1170) := pm_of cl361_16 10 (q := (1169, .laload, 1170)) rfl
theorem c361_1170 : pm_code 361 1170 = some (.iload 6, 1172) := pm_of cl361_16 11 (q := (1170, .iload 6, 1172)) rfl
theorem c361_1172 : pm_code 361 1172 = some (.i2l, 1173) := pm_of cl361_16 12 (q := (1172, .i2l, 1173)) rfl
theorem c361_1173 : pm_code 361 1173 = some (.lcmp, 1174) := pm_of cl361_16 13 (q := (1173, .lcmp, 1174)) rfl
theorem c361_1174 : pm_code 361 1174 = some (.ifCond .eq 5, 1177) := pm_of cl361_16 14 (q := (1174, .ifCond .eq 5, 1177)) rfl
theorem c361_1177 : pm_code 361 1177 = some (.iconst 0, 1178) := pm_of cl361_16 15 (q := (1177, .iconst 0, 1178)) rfl
theorem c361_1178 : pm_code 361 1178 = some (.ireturn, 1179) := pm_of cl361_16 16 (q := (1178, .ireturn, 1179)) rfl
theorem c361_1179 : pm_code 361 1179 = some (.goto 1397, 1182) := pm_of cl361_16 17 (q := (1179, .goto 1397, 1182)) rfl
theorem c361_1182 : pm_code 361 1182 = some (.aload_n 1, 1183) := pm_of cl361_16 18 (q := (1182, .aload_n 1, 1183)) rfl
theorem c361_1183 : pm_code 361 1183 = some (.aload_n 0, 1184) := pm_of cl361_16 19 (q := (1183, .aload_n 0, 1184)) rfl
theorem c361_1184 : pm_code 361 1184 = some (.iload 4, 1186) := pm_of cl361_16 20 (q := (1184, .iload 4, 1186)) rfl
theorem c361_1186 : pm_code 361 1186 = some (.iconst 1, 1187) := pm_of cl361_16 21 (q := (1186, .iconst 1, 1187)) rfl
theorem c361_1187 : pm_code 361 1187 = some (.iadd, 1188) := pm_of cl361_16 22 (q := (1187, .iadd, 1188)) rfl
theorem c361_1188 : pm_code 361 1188 = some (.iaload, 1189) := pm_of cl361_16 23 (q := (1188, .iaload, 1189)) rfl
theorem c361_1189 : pm_code 361 1189 = some (.aload_n 0, 1190) := pm_of cl361_16 24 (q := (1189, .aload_n 0, 1190)) rfl
theorem c361_1190 : pm_code 361 1190 = some (.iload 4, 1192) := pm_of cl361_16 25 (q := (1190, .iload 4, 1192)) rfl
theorem c361_1192 : pm_code 361 1192 = some (.iconst 2, 1193) := pm_of cl361_16 26 (q := (1192, .iconst 2, 1193)) rfl
theorem c361_1193 : pm_code 361 1193 = some (.iadd, 1194) := pm_of cl361_16 27 (q := (1193, .iadd, 1194)) rfl
theorem c361_1194 : pm_code 361 1194 = some (.iaload, 1195) := pm_of cl361_16 28 (q := (1194, .iaload, 1195)) rfl
theorem c361_1195 : pm_code 361 1195 = some (.aload_n 3, 1196) := pm_of cl361_16 29 (q := (1195, .aload_n 3, 1196)) rfl
theorem c361_1196 : pm_code 361 1196 = some (.invokestatic 182, 1199) := pm_of cl361_16 30 (q := (1196, .invokestatic 182, 1199)) rfl
theorem c361_1199 : pm_code 361 1199 = some (.istore 5, 1201) := pm_of cl361_16 31 (q := (1199, .istore 5, 1201)) rfl
theorem c361_1201 : pm_code 361 1201 = some (.aload_n 2, 1202) := pm_of cl361_16 32 (q := (1201, .aload_n 2, 1202)) rfl
theorem c361_1202 : pm_code 361 1202 = some (.aload_n 0, 1203) := pm_of cl361_16 33 (q := (1202, .aload_n 0, 1203)) rfl
theorem c361_1203 : pm_code 361 1203 = some (.iload 4, 1205) := pm_of cl361_16 34 (q := (1203, .iload 4, 1205)) rfl
theorem c361_1205 : pm_code 361 1205 = some (.iconst 1, 1206) := pm_of cl361_16 35 (q := (1205, .iconst 1, 1206)) rfl
theorem c361_1206 : pm_code 361 1206 = some (.iadd, 1207) := pm_of cl361_16 36 (q := (1206, .iadd, 1207)) rfl
theorem c361_1207 : pm_code 361 1207 = some (.iaload, 1208) := pm_of cl361_16 37 (q := (1207, .iaload, 1208)) rfl
theorem c361_1208 : pm_code 361 1208 = some (.aload_n 0, 1209) := pm_of cl361_16 38 (q := (1208, .aload_n 0, 1209)) rfl
theorem c361_1209 : pm_code 361 1209 = some (.iload 4, 1211) := pm_of cl361_16 39 (q := (1209, .iload 4, 1211)) rfl
theorem cl361_17 : ([(1211, .iconst 2, 1212), (1212, .iadd, 1213), (1213, .iaload, 1214), (1214, .invokevirtual 184, 1217), (1217, .istore 6, 1219), (1219, .aload_n 2, 1220), (1220, .invokevirtual 128, 1223), (1223, .iload 5, 1225), (1225, .if_icmp .eq 5, 1228), (1228, .iconst 0, 1229), (1229, .ireturn, 1230), (1230, .iload 5, 1232), (1232, .ifCond .ne 15, 1235), (1235, .aload_n 3, 1236), (1236, .iconst 0, 1237), (1237, .laload, 1238), (1238, .iload 6, 1240), (1240, .i2l, 1241), (1241, .lcmp, 1242), (1242, .ifCond .eq 5, 1245), (1245, .iconst 0, 1246), (1246, .ireturn, 1247), (1247, .goto 1329, 1250), (1250, .aload_n 1, 1251), (1251, .aload_n 0, 1252), (1252, .iload 4, 1254), (1254, .iconst 1, 1255), (1255, .iadd, 1256), (1256, .iaload, 1257), (1257, .aload_n 3, 1258), (1258, .invokestatic 185, 1261), (1261, .istore 5, 1263), (1263, .aload_n 2, 1264), (1264, .aload_n 0, 1265), (1265, .iload 4, 1267), (1267, .iconst 1, 1268), (1268, .iadd, 1269), (1269, .iaload, 1270), (1270, .invokevirtual 187, 1273), (1273, .istore 6, 1275)] : List (Nat × Instr × Nat)).all (fun q => decide (pm_code 361 q.1 = some q.2)) = true := by decide +kernel
theorem c361_1211 : pm_code 361 1211 = some (.iconst 2, 1212) := pm_of cl361_17 0 (q := (1211, .iconst 2, 1212)) rfl
theorem c361_1212 : pm_code 361 1212 = some (.iadd, 1213) := pm_of cl361_17 1 (q := (1212, .iadd, 1213)) rfl
theorem c361_1213 : pm_code 361 1213 = some (.iaload, 1214) := pm_of cl361_17 2 (q := (1213, .iaload, 1214)) rfl
theorem c361_1214 : pm_code 361 1214 = some (.invokevirtual 184, 1217) := pm_of cl361_17 3 (q := (1214, .invokevirtual 184, 1217)) rfl
theorem c361_1217 : pm_code 361 1217 = some (.istore 6, 1219) := pm_of cl361_17 4 (q := (1217, .istore 6, 1219)) rfl
theorem c361_1219 : pm_code 361 1219 = some (.aload_n 2, 1220) := pm_of cl361_17 5 (q := (1219, .aload_n 2, 1220)) rfl
theorem c361_1220 : pm_code 361 1220 = some (.invokevirtual 128, 1223) := pm_of cl361_17 6 (q := (1220, .invokevirtual 128, 1223)) rfl
theorem c361_1223 : pm_code 361 1223 = some (.iload 5, 1225) := pm_of cl361_17 7 (q := (1223, .iload 5, 1225)) rfl
theorem c361_1225 : pm_code 361 1225 = some (.if_icmp .eq 5, 1228) := pm_of cl361_17 8 (q := (1225, .if_icmp .eq 5, 1228)) rfl
theorem c361_1228 : pm_code 361 1228 = some (.iconst 0, 1229) := pm_of cl361_17 9 (q := (1228, .iconst 0, 1229)) rfl
theorem c361_1229 : pm_code 361 1229 = some (.ireturn, 1230) := pm_of cl361_17 10 (q := (1229, .ireturn, 1230)) rfl
theorem c361_1230 : pm_code 361 1230 = some (.iload 5, 1232) := pm_of cl361_17 11 (q := (1230, .iload 5, 1232)) rfl
theorem c361_1232 : pm_code 361 1232 = some (.ifCond .ne 15, 1235) := pm_of cl361_17 12 (q := (1232, .ifCond .ne 15, 1235)) rfl
theorem c361_1235 : pm_code 361 1235 = some (.aload_n 3, 1236) := pm_of cl361_17 13 (q := (1235, .aload_n 3, 1236)) rfl
theorem c361_1236 : pm_code 361 1236 = some (.iconst 0, 1237) := pm_of cl361_17 14 (q := (1236, .iconst 0, 1237)) rfl
theorem c361_1237 : pm_code 361 1237 = some (.laload, 1238) := pm_of cl361_17 15 (q := (1237, .laload, 1238)) rfl
theorem c361_1238 : pm_code 361 1238 = some (.iload 6, 1240) := pm_of cl361_17 16 (q := (1238, .iload 6, 1240)) rfl
theorem c361_1240 : pm_code 361 1240 = some (.i2l, 1241) := pm_of cl361_17 17 (q := (1240, .i2l, 1241)) rfl
theorem c361_1241 : pm_code 361 1241 = some (.lcmp, 1242) := pm_of cl361_17 18 (q := (1241, .lcmp, 1242)) rfl
theorem c361_1242 : pm_code 361 1242 = some (.ifCond .eq 5, 1245) := pm_of cl361_17 19 (q := (1242, .ifCond .eq 5, 1245)) rfl
theorem c361_1245 : pm_code 361 1245 = some (.iconst 0, 1246) := pm_of cl361_17 20 (q := (1245, .iconst 0, 1246)) rfl
theorem c361_1246 : pm_code 361 1246 = some (.ireturn, 1247) := pm_of cl361_17 21 (q := (1246, .ireturn, 1247)) rfl
theorem c361_1247 : pm_code 361 1247 = some (.goto 1329, 1250) := pm_of cl361_17 22 (q := (1247, .goto 1329, 1250)) rfl
theorem c361_1250 : pm_code 361 1250 = some (.aload_n 1, 1251) := pm_of cl361_17 23 (q := (1250, .aload_n 1, 1251)) rfl
theorem c361_1251 : pm_code 361 1251 = some (.aload_n 0, 1252) := pm_of cl361_17 24 (q := (1251, .aload_n 0, 1252)) rfl
theorem c361_1252 : pm_code 361 1252 = some (.iload 4, 1254) := pm_of cl361_17 25 (q := (1252, .iload 4, 1254)) rfl
theorem c361_1254 : pm_code 361 1254 = some (.iconst 1, 1255) := pm_of cl361_17 26 (q := (1254, .iconst 1, 1255)) rfl
theorem c361_1255 : pm_code 361 1255 = some (.iadd, 1256) := pm_of cl361_17 27 (q := (1255, .iadd, 1256)) rfl
theorem c361_1256 : pm_code 361 1256 = some (.iaload, 1257) := pm_of cl361_17 28 (q := (1256, .iaload, 1257)) rfl
theorem c361_1257 : pm_code 361 1257 = some (.aload_n 3, 1258) := pm_of cl361_17 29 (q := (1257, .aload_n 3, 1258)) rfl
theorem c361_1258 : pm_code 361 1258 = some (.invokestatic 185, 1261) := pm_of cl361_17 30 (q := (1258, .invokestatic 185, 1261)) rfl
theorem c361_1261 : pm_code 361 1261 = some (.istore 5, 1263) := pm_of cl361_17 31 (q := (1261, .istore 5, 1263)) rfl
theorem c361_1263 : pm_code 361 1263 = some (.aload_n 2, 1264) := pm_of cl361_17 32 (q := (1263, .aload_n 2, 1264)) rfl
theorem c361_1264 : pm_code 361 1264 = some (.aload_n 0, 1265) := pm_of cl361_17 33 (q := (1264, .aload_n 0, 1265)) rfl
theorem c361_1265 : pm_code 361 1265 = some (.iload 4, 1267) := pm_of cl361_17 34 (q := (1265, .iload 4, 1267)) rfl
theorem c361_1267 : pm_code 361 1267 = some (.iconst 1, 1268) := pm_of cl361_17 35 (q := (1267, .iconst 1, 1268)) rfl
theorem c361_1268 : pm_code 361 1268 = some (.iadd, 1269) := pm_of cl361_17 36 (q := (1268, .iadd, 1269)) rfl
theorem c361_1269 : pm_code 361 1269 = some (.iaload, 1270) := pm_of cl361_17 37 (q := (1269, .iaload, 1270)) rfl
theorem c361_1270 : pm_code 361 1270 = some (.invokevirtual 187, 1273) := pm_of cl361_17 38 (q := (1270, .invokevirtual 187, 1273)) rfl
theorem c361_1273 : pm_code 361 1273 = some (.istore 6, 1275) := pm_of cl361_17 39 (q := (1273, .istore 6, 1275)) rfl
theorem cl361_18 : ([(1275, .aload_n 2, 1276), (1276, .invokevirtual 128, 1279), (1279, .iload 5, 1281), (1281, .if_icmp .eq 5, 1284), (1284, .iconst 0, 1285), (1285, .ireturn, 1286), (1286, .iload 5, 1288), (1288, .ifCond .ne 15, 1291), (1291, .aload_n 3, 1292), (1292, .iconst 0, 1293), (1293, .laload, 1294), (1294, .iload 6, 1296), (1296, .i2l, 1297), (1297, .lcmp, 1298), (1298, .ifCond .eq 5, 1301), (1301, .iconst 0, 1302), (1302, .ireturn, 1303), (1303, .goto 1273, 1306), (1306, .aload_n 1, 1307), (1307, .aload_n 0, 1308), (1308, .iload 4, 1310), (1310, .iconst 1, 1311), (1311, .iadd, 1312), (1312, .iaload, 1313), (1313, .aload_n 3, 1314), (1314, .invokestatic 188, 1317), (1317, .istore 5, 1319), (1319, .aload_n 2, 1320), (1320, .aload_n 0, 1321), (1321, .iload 4, 1323), (1323, .iconst 1, 1324), (1324, .iadd, 1325), (1325, .iaload, 1326), (1326, .invokevirtual 190, 1329), (1329, .istore 6, 1331), (1331, .aload_n 2, 1332), (1332, .invokevirtual 128, 1335), (1335, .iload 5, 1337), (1337, .if_icmp .eq 5, 1340), (1340, .iconst 0, 1341)] : List (Nat × Instr × Nat)).all (fun q => decide (pm_code 361 q.1 = some q.2)) = true := by decide +kernel
theorem c361_1275 : pm_code 361 1275 = some (.aload_n 2, 1276) := pm_of cl361_18 0 (q := (1275, .aload_n 2, 1276)) rfl
theorem c361_1276 : pm_code 361 1276 = some (.invokevirtual 128, 1279) := pm_of cl361_18 1 (q := (1276, .invokevirtual 128, 1279)) rfl
theorem c361_1279 : pm_code 361 1279 = some (.iload 5, 1281) := pm_of cl361_18 2 (q := (1279, .iload 5, 1281)) rfl
theorem c361_1281 : pm_code 361 1281 = some (.if_icmp .eq 5, 1284) := pm_of cl361_18 3 (q := (1281, .if_icmp .eq 5, 1284)) rfl
theorem c361_1284 : pm_code 361 1284 = some (.iconst 0, 1285) := pm_of cl361_18 4 (q := (1284, .iconst 0, 1285)) rfl
theorem c361_1285 : pm_code 361 1285 = some (.ireturn, 1286) := pm_of cl361_18 5 (q := (1285, .ireturn, 1286)) rfl
theorem c361_1286 : pm_code 361 1286 = some (.iload 5, 1288) := pm_of cl361_18 6 (q := (1286, .iload 5, 1288)) rfl
theorem c361_1288 : pm_code 361 1288 = some (.ifCond .ne 15, 1291) := pm_of cl361_18 7 (q := (1288, .ifCond .ne 15, 1291)) rfl
theorem c361_1291 : pm_code 361 1291 = some (.aload_n 3, 1292) := pm_of cl361_18 8 (q := (1291, .aload_n 3, 1292)) rfl
theorem c361_1292 : pm_code 361 1292 = some (.iconst 0, 1293) := pm_of cl361_18 9 (q := (1292, .iconst 0, 1293)) rfl
theorem c361_1293 : pm_code 361 1293 = some (.laload, 1294) := pm_of cl361_18 10 (q := (1293, .laload, 1294)) rfl
theorem c361_1294 : pm_code 361 1294 = some (.iload 6, 1296) := pm_of cl361_18 11 (q := (1294, .iload 6, 1296)) rfl
theorem c361_1296 : pm_code 361 1296 = some (.i2l, 1297) := pm_of cl361_18 12 (q := (1296, .i2l, 1297)) rfl
theorem c361_1297 : pm_code 361 1297 = some (.lcmp, 1298) := pm_of cl361_18 13 (q := (1297, .lcmp, 1298)) rfl
theorem c361_1298 : pm_code 361 1298 = some (.ifCond .eq 5, 1301) := pm_of cl361_18 14 (q := (1298, .ifCond .eq 5, 1301)) rfl
theorem c361_1301 : pm_code 361 1301 = some (.iconst 0, 1302) := pm_of cl361_18 15 (q := (1301, .iconst 0, 1302)) rfl
theorem c361_1302 : pm_code 361 1302 = some (.ireturn, 1303) := pm_of cl361_18 16 (q := (1302, .ireturn, 1303)) rfl
theorem c361_1303 : pm_code 361 1303 = some (.goto 1273, 1306) := pm_of cl361_18 17 (q := (1303, .goto 1273, 1306)) rfl
theorem c361_1306 : pm_code 361 1306 = some (.aload_n 1, 1307) := pm_of cl361_18 18 (q := (1306, .aload_n 1, 1307)) rfl
theorem c361_1307 : pm_code 361 1307 = some (.aload_n 0, 1308) := pm_of cl361_18 19 (q := (1307, .aload_n 0, 1308)) rfl
theorem c361_1308 : pm_code 361 1308 = some (.iload 4, 1310) := pm_of cl361_18 20 (q := (1308, .iload 4, 1310)) rfl
theorem c361_1310 : pm_code 361 1310 = some (.iconst 1, 1311) := pm_of cl361_18 21 (q := (1310, .iconst 1, 1311)) rfl
theorem c361_1311 : pm_code 361 1311 = some (.iadd, 1312) := pm_of cl361_18 22 (q := (1311, .iadd, 1312)) rfl
theorem c361_1312 : pm_code 361 1312 = some (.iaload, 1313) := pm_of cl361_18 23 (q := (1312, .iaload, 1313)) rfl
theorem c361_1313 : pm_code 361 1313 = some (.aload_n 3, 1314) := pm_of cl361_18 24 (q := (1313, .aload_n 3, 1314)) rfl
theorem c361_1314 : pm_code 361 1314 = some (.invokestatic 188, 1317) := pm_of cl361_18 25 (q := (1314, .invokestatic 188, 1317)) rfl
theorem c361_1317 : pm_code 361 1317 = some (.istore 5, 1319) := pm_of cl361_18 26 (q := (1317, .istore 5, 1319)) rfl
theorem c361_1319 : pm_code 361 1319 = some (.aload_n 2, 1320) := pm_of cl361_18 27 (q := (1319, .aload_n 2, 1320)) rfl
theorem c361_1320 : pm_code 361 1320 = some (.aload_n 0, 1321) := pm_of cl361_18 28 (q := (1320, .aload_n 0, 1321)) rfl
theorem c361_1321 : pm_code 361 1321 = some (.iload 4, 1323) := pm_of cl361_18 29 (q := (1321, .iload 4, 1323)) rfl
theorem c361_1323 : pm_code 361 1323 = some (.iconst 1, 1324) := pm_of cl361_18 30 (q := (1323, .iconst 1, 1324)) rfl
theorem c361_1324 : pm_code 361 1324 = some (.iadd, 1325) := pm_of cl361_18 31 (q := (1324, .iadd, 1325)) rfl
theorem c361_1325 : pm_code 361 1325 = some (.iaload, 1326) := pm_of cl361_18 32 (q := (1325, .iaload, 1326)) rfl
theorem c361_1326 : pm_code 361 1326 = some (.invokevirtual 190, 1329) := pm_of cl361_18 33 (q := (1326, .invokevirtual 190, 1329)) rfl
theorem c361_1329 : pm_code 361 1329 = some (.istore 6, 1331) := pm_of cl361_18 34 (q := (1329, .istore 6, 1331)) rfl
theorem c361_1331 : pm_code 361 1331 = some (.aload_n 2, 1332) := pm_of cl361_18 35 (q := (1331, .aload_n 2, 1332)) rfl
theorem c361_1332 : pm_code 361 1332 = some (.invokevirtual 128, 1335) := pm_of cl361_18 36 (q := (1332, .invokevirtual 128, 1335)) rfl
theorem c361_1335 : pm_code 361 1335 = some (.iload 5, 1337) := pm_of cl361_18 37 (q := (1335, .iload 5, 1337)) rfl
theorem c361_1337 : pm_code 361 1337 = some (.if_icmp .eq 5, 1340) := pm_of cl361_18 38 (q := (1337, .if_icmp .eq 5, 1340)) rfl
theorem c361_1340 : pm_code 361 1340 = some (.iconst 0, 1341) := pm_of cl361_18 39 (q := (1340, .iconst 0, 1341)) rfl
theorem cl361_19 : ([(1341, .ireturn, 1342), (1342, .iload 5, 1344), (1344, .ifCond .ne 15, 1347), (1347, .aload_n 3, 1348), (1348, .iconst 0, 1349), (1349, .laload, 1350), (1350, .iload 6, 1352), (1352, .i2l, 1353), (1353, .lcmp, 1354), (1354, .ifCond .eq 5, 1357), (1357, .iconst 0, 1358), (1358, .ireturn, 1359), (1359, .goto 1217, 1362), (1362, .aload_n 1, 1363), (1363, .invokevirtual 191, 1366), (1366, .aload_n 2, 1367), (1367, .invokevirtual 194, 1370), (1370, .if_icmp .eq 1206, 1373), (1373, .iconst 0, 1374), (1374, .ireturn, 1375), (1375, .aload_n 1, 1376), (1376, .aload_n 0, 1377), (1377, .iload 4, 1379), (1379, .iconst 1, 1380), (1380, .iadd, 1381), (1381, .iaload, 1382), (1382, .aload_n 3, 1383), (1383, .invokestatic 195, 1386), (1386, .istore 5, 1388), (1388, .aload_n 2, 1389), (1389, .aload_n 0, 1390), (1390, .iload 4, 1392), (1392, .iconst 1, 1393), (1393, .iadd, 1394), (1394, .iaload, 1395), (1395, .invokevirtual 197, 1398), (1398, .istore 6, 1400), (1400, .aload_n 2, 1401), (1401, .invokevirtual 128, 1404), (1404, .iload 5, 1406)] : List (Nat × Instr × Nat)).all (fun q => decide (pm_code 361 q.1 = some q.2)) = true := by decide +kernel
theorem c361_1341 : pm_code 361 1341 = some (.ireturn, 1342) := pm_of cl361_19 0 (q := (1341, .ireturn, 1342)) rfl
theorem c361_1342 : pm_code 361 1342 = some (.iload 5, 1344) := pm_of cl361_19 1 (q := (1342, .iload 5, 1344)) rfl
theorem c361_1344 : pm_code 361 1344 = some (.ifCond .ne 15, 1347) := pm_of cl361_19 2 (q := (1344, .ifCond .ne 15, 1347)) rfl
theorem c361_1347 : pm_code 361 1347 = some (.aload_n 3, 1348) := pm_of cl361_19 3 (q := (1347, .aload_n 3, 1348)) rfl
theorem c361_1348 : pm_code 361 1348 = some (.iconst 0, 1349) := pm_of cl361_19 4 (q := (1348, .iconst 0, 1349)) rfl
theorem c361_1349 : pm_code 361 1349 = some (.laload, 1350) := pm_of cl361_19 5 (q := (1349, .laload, 1350)) rfl
theorem c361_1350 : pm_code 361 1350 = some (.iload 6, 1352) := pm_of cl361_19 6 (q := (1350, .iload 6, 1352)) rfl
theorem c361_1352 : pm_code 361 1352 = some (.i2l, 1353) := pm_of cl361_19 7 (q := (1352, .i2l, 1353)) rfl
theorem c361_1353 : pm_code 361 1353 = some (.lcmp, 1354) := pm_of cl361_19 8 (q := (1353, .lcmp, 1354)) rfl
theorem c361_1354 : pm_code 361 1354 = some (.ifCond .eq 5, 1357) := pm_of cl361_19 9 (q := (1354, .ifCond .eq 5, 1357)) rfl
theorem c361_1357 : pm_code 361 1357 = some (.iconst 0, 1358) := pm_of cl361_19 10 (q := (1357, .iconst 0, 1358)) rfl
theorem c361_1358 : pm_code 361 1358 = some (.ireturn, 1359) := pm_of cl361_19 11 (q := (1358, .ireturn, 1359)) rfl
theorem c361_1359 : pm_code 361 1359 = some (.goto 1217, 1362) := pm_of cl361_19 12 (q := (1359, .goto 1217, 1362)) rfl
theorem c361_1362 : pm_code 361 1362 = some (.aload_n 1, 1363) := pm_of cl361_19 13 (q := (1362, .aload_n 1, 1363)) rfl
theorem c361_1363 : pm_code 361 1363 = some (.invokevirtual 191, 1366) := pm_of cl361_19 14 (q := (1363, .invokevirtual 191, 1366)) rfl
theorem c361_1366 : pm_code 361 1366 = some (.aload_n 2, 1367) := pm_of cl361_19 15 (q := (1366, .aload_n 2, 1367)) rfl
theorem c361_1367 : pm_code 361 1367 = some (.invokevirtual 194, 1370) := pm_of cl361_19 16 (q := (1367, .invokevirtual 194, 1370)) rfl
theorem c361_1370 : pm_code 361 1370 = some (.if_icmp .eq 1206, 1373) := pm_of cl361_19 17 (q := (1370, .if_icmp .eq 1206, 1373)) rfl
theorem c361_1373 : pm_code 361 1373 = some (.iconst 0, 1374) := pm_of cl361_19 18 (q := (1373, .iconst 0, 1374)) rfl
theorem c361_1374 : pm_code 361 1374 = some (.ireturn, 1375) := pm_of cl361_19 19 (q := (1374, .ireturn, 1375)) rfl
theorem c361_1375 : pm_code 361 1375 = some (.aload_n 1, 1376) := pm_of cl361_19 20 (q := (1375, .aload_n 1, 1376)) rfl
theorem c361_1376 : pm_code 361 1376 = some (.aload_n 0, 1377) := pm_of cl361_19 21 (q := (1376, .aload_n 0, 1377)) rfl
theorem c361_1377 : pm_code 361 1377 = some (.iload 4, 1379) := pm_of cl361_19 22 (q := (1377, .iload 4, 1379)) rfl
theorem c361_1379 : pm_code 361 1379 = some (.iconst 1, 1380) := pm_of cl361_19 23 (q := (1379, .iconst 1, 1380)) rfl
theorem c361_1380 : pm_code 361 1380 = some (.iadd, 1381) := pm_of cl361_19 24 (q := (1380, .iadd, 1381)) rfl
theorem c361_1381 : pm_code 361 1381 = some (.iaload, 1382) := pm_of cl361_19 25 (q := (1381, .iaload, 1382)) rfl
theorem c361_1382 : pm_code 361 1382 = some (.aload_n 3, 1383) := pm_of cl361_19 26 (q := (1382, .aload_n 3, 1383)) rfl
theorem c361_1383 : pm_code 361 1383 = some (.invokestatic 195, 1386) := pm_of cl361_19 27 (q := (1383, .invokestatic 195, 1386)) rfl
theorem c361_1386 : pm_code 361 1386 = some (.istore 5, 1388) := pm_of cl361_19 28 (q := (1386, .istore 5, 1388)) rfl
theorem c361_1388 : pm_code 361 1388 = some (.aload_n 2, 1389) := pm_of cl361_19 29 (q := (1388, .aload_n 2, 1389)) rfl
theorem c361_1389 : pm_code 361 1389 = some (.aload_n 0, 1390) := pm_of cl361_19 30 (q := (1389, .aload_n 0, 1390)) rfl
theorem c361_1390 : pm_code 361 1390 = some (.iload 4, 1392) := pm_of cl361_19 31 (q := (1390, .iload 4, 1392)) rfl
theorem c361_1392 : pm_code 361 1392 = some (.iconst 1, 1393) := pm_of cl361_19 32 (q := (1392, .iconst 1, 1393)) rfl
theorem c361_1393 : pm_code 361 1393 = some (.iadd, 1394) := pm_of cl361_19 33 (q := (1393, .iadd, 1394)) rfl
theorem c361_1394 : pm_code 361 1394 = some (.iaload, 1395) := pm_of cl361_19 34 (q := (1394, .iaload, 1395)) rfl
theorem c361_1395 : pm_code 361 1395 = some (.invokevirtual 197, 1398) := pm_of cl361_19 35 (q := (1395, .invokevirtual 197, 1398)) rfl
theorem c361_1398 : pm_code 361 1398 = some (.istore 6, 1400) := pm_of cl361_19 36 (q := (1398, .istore 6, 1400)) rfl
theorem c361_1400 : pm_code 361 1400 = some (.aload_n 2, 1401) := pm_of cl361_19 37 (q := (1400, .aload_n 2, 1401)) rfl
theorem c361_1401 : pm_code 361 1401 = some (.invokevirtual 128, 1404) := pm_of cl361_19 38 (q := (1401, .invokevirtual 128, 1404)) rfl
theorem c361_1404 : pm_code 361 1404 = some (.iload 5, 1406) := pm_of cl361_19 39 (q := (1404, .iload 5, 1406)) rfl
theorem cl361_20 : ([(1406, .if_icmp .eq 5, 1409), (1409, .iconst 0, 1410), (1410, .ireturn, 1411), (1411, .iload 5, 1413), (1413, .ifCond .ne 15, 1416), (1416, .aload_n 3, 1417), (1417, .iconst 0, 1418), (1418, .laload, 1419), (1419, .iload 6, 1421), (1421, .i2l, 1422), (1422, .lcmp, 1423), (1423, .ifCond .eq 5, 1426), (1426, .iconst 0, 1427), (1427, .ireturn, 1428), (1428, .goto 1148, 1431), (1431, .aload_n 1, 1432), (1432, .aload_n 0, 1433), (1433, .iload 4, 1435), (1435, .iconst 1, 1436), (1436, .iadd, 1437), (1437, .iaload, 1438), (1438, .aload_n 3, 1439), (1439, .invokestatic 198, 1442), (1442, .istore 5, 1444), (1444, .aload_n 2, 1445), (1445, .aload_n 0, 1446), (1446, .iload 4, 1448), (1448, .iconst 1, 1449), (1449, .iadd, 1450), (1450, .iaload, 1451), (1451, .invokevirtual 200, 1454), (1454, .istore 6, 1456), (1456, .aload_n 2, 1457), (1457, .invokevirtual 128, 1460), (1460, .iload 5, 1462), (1462, .if_icmp .eq 5, 1465), (1465, .iconst 0, 1466), (1466, .ireturn, 1467), (1467, .iload 5, 1469), (1469, .ifCond .ne 15, 1472)] : List (Nat × Instr × Nat)).all (fun q => decide (pm_code 361 q.1 = some q.2)) = true := by decide +kernel
theorem c361_1406 : pm_code 361 1406 = some (.if_icmp .eq 5, 1409) := pm_of cl361_20 0 (q := (1406, .if_icmp .eq 5, 1409)) rfl
theorem c361_1409 : pm_code 361 1409 = some (.iconst 0, 1410) := pm_of cl361_20 1 (q := (1409, .iconst 0, 1410)) rfl
theorem c361_1410 : pm_code 361 1410 = some (.ireturn, 1411) := pm_of cl361_20 2 (q := (1410, .ireturn, 1411)) rfl
theorem c361_1411 : pm_code 361 1411 = some (.iload 5, 1413) := pm_of cl361_20 3 (q := (1411, .iload 5, 1413)) rfl
theorem c361_1413 : pm_code 361 1413 = some (.ifCond .ne 15, 1416) := pm_of cl361_20 4 (q := (1413, .ifCond .ne 15, 1416)) rfl
theorem c361_1416 : pm_code 361 1416 = some (.aload_n 3, 1417) := pm_of cl361_20 5 (q := (1416, .aload_n 3, 1417)) rfl
theorem c361_1417 : pm_code 361 1417 = some (.iconst 0, 1418) := pm_of cl361_20 6 (q := (1417, .iconst 0, 1418)) rfl
theorem c361_1418 : pm_code 361 1418 = some (.laload, 1419) := pm_of cl361_20 7 (q := (1418, .laload, 1419)) rfl
theorem c361_1419 : pm_code 361 1419 = some (.iload 6, 1421) := pm_of cl361_20 8 (q := (1419, .iload 6, 1421)) rfl
theorem c361_1421 : pm_code 361 1421 = some (.i2l, 1422) := pm_of cl361_20 9 (q := (1421, .i2l, 1422)) rfl
theorem c361_1422 : pm_code 361 1422 = some (.lcmp, 1423) := pm_of cl361_20 10 (q := (1422, .lcmp, 1423)) rfl
theorem c361_1423 : pm_code 361 1423 = some (.ifCond .eq 5, 1426) := pm_of cl361_20 11 (q := (1423, .ifCond .eq 5, 1426)) rfl
theorem c361_1426 : pm_code 361 1426 = some (.iconst 0, 1427) := pm_of cl361_20 12 (q := (1426, .iconst 0, 1427)) rfl
theorem c361_1427 : pm_code 361 1427 = some (.ireturn, 1428) := pm_of cl361_20 13 (q := (1427, .ireturn, 1428)) rfl
theorem c361_1428 : pm_code 361 1428 = some (.goto 1148, 1431) := pm_of cl361_20 14 (q := (1428, .goto 1148, 1431)) rfl
theorem c361_1431 : pm_code 361 1431 = some (.aload_n 1, 1432) := pm_of cl361_20 15 (q := (1431, .aload_n 1, 1432)) rfl
theorem c361_1432 : pm_code 361 1432 = some (.aload_n 0, 1433) := pm_of cl361_20 16 (q := (1432, .aload_n 0, 1433)) rfl
theorem c361_1433 : pm_code 361 1433 = some (.iload 4, 1435) := pm_of cl361_20 17 (q := (1433, .iload 4, 1435)) rfl
theorem c361_1435 : pm_code 361 1435 = some (.iconst 1, 1436) := pm_of cl361_20 18 (q := (1435, .iconst 1, 1436)) rfl
theorem c361_1436 : pm_code 361 1436 = some (.iadd, 1437) := pm_of cl361_20 19 (q := (1436, .iadd, 1437)) rfl
theorem c361_1437 : pm_code 361 1437 = some (.iaload, 1438) := pm_of cl361_20 20 (q := (1437, .iaload, 1438)) rfl
theorem c361_1438 : pm_code 361 1438 = some (.aload_n 3, 1439) := pm_of cl361_20 21 (q := (1438, .aload_n 3, 1439)) rfl
theorem c361_1439 : pm_code 361 1439 = some (.invokestatic 198, 1442) := pm_of cl361_20 22 (q := (1439, .invokestatic 198, 1442)) rfl
theorem c361_1442 : pm_code 361 1442 = some (.istore 5, 1444) := pm_of cl361_20 23 (q := (1442, .istore 5, 1444)) rfl
theorem c361_1444 : pm_code 361 1444 = some (.aload_n 2, 1445) := pm_of cl361_20 24 (q := (1444, .aload_n 2, 1445)) rfl
theorem c361_1445 : pm_code 361 1445 = some (.aload_n 0, 1446) := pm_of cl361_20 25 (q := (1445, .aload_n 0, 1446)) rfl
theorem c361_1446 : pm_code 361 1446 = some (.iload 4, 1448) := pm_of cl361_20 26 (q := (1446, .iload 4, 1448)) rfl
theorem c361_1448 : pm_code 361 1448 = some (.iconst 1, 1449) := pm_of cl361_20 27 (q := (1448, .iconst 1, 1449)) rfl
theorem c361_1449 : pm_code 361 1449 = some (.iadd, 1450) := pm_of cl361_20 28 (q := (1449, .iadd, 1450)) rfl
theorem c361_1450 : pm_code 361 1450 = some (.iaload, 1451) := pm_of cl361_20 29 (q := (1450, .iaload, 1451)) rfl
theorem c361_1451 : pm_code 361 1451 = some (.invokevirtual 200, 1454) := pm_of cl361_20 30 (q := (1451, .invokevirtual 200, 1454)) rfl
theorem c361_1454 : pm_code 361 1454 = some (.istore 6, 1456) := pm_of cl361_20 31 (q := (1454, .istore 6, 1456)) rfl
theorem c361_1456 : pm_code 361 1456 = some (.aload_n 2, 1457) := pm_of cl361_20 32 (q := (1456, .aload_n 2, 1457)) rfl
theorem c361_1457 : pm_code 361 1457 = some (.invokevirtual 128, 1460) := pm_of cl361_20 33 (q := (1457, .invokevirtual 128, 1460)) rfl
theorem c361_1460 : pm_code 361 1460 = some (.iload 5, 1462) := pm_of cl361_20 34 (q := (1460, .iload 5, 1462)) rfl
theorem c361_1462 : pm_code 361 1462 = some (.if_icmp .eq 5, 1465) := pm_of cl361_20 35 (q := (1462, .if_icmp .eq 5, 1465)) rfl
theorem c361_1465 : pm_code 361 1465 = some (.iconst 0, 1466) := pm_of cl361_20 36 (q := (1465, .iconst 0, 1466)) rfl
theorem c361_1466 : pm_code 361 1466 = some (.ireturn, 1467) := pm_of cl361_20 37 (q := (1466, .ireturn, 1467)) rfl
theorem c361_1467 : pm_code 361 1467 = some (.iload 5, 1469) := pm_of cl361_20 38 (q := (1467, .iload 5, 1469)) rfl
theorem c361_1469 : pm_code 361 1469 = some (.ifCond .ne 15, 1472) := pm_of cl361_20 39 (q := (1469, .ifCond .ne 15, 1472)) rfl
theorem cl361_21 : ([(1472, .aload_n 3, 1473), (1473, .iconst 0, 1474), (1474, .laload, 1475), (1475, .iload 6, 1477), (1477, .i2l, 1478), (1478, .lcmp, 1479), (1479, .ifCond .eq 5, 1482), (1482, .iconst 0, 1483), (1483, .ireturn, 1484), (1484, .goto 1092, 1487), (1487, .aload_n 1, 1488), (1488, .aload_n 0, 1489), (1489, .iload 4, 1491), (1491, .iconst 1, 1492), (1492, .iadd, 1493), (1493, .iaload, 1494), (1494, .aload_n 3, 1495), (1495, .invokestatic 201, 1498), (1498, .istore 5, 1500), (1500, .aload_n 2, 1501), (1501, .aload_n 0, 1502), (1502, .iload 4, 1504), (1504, .iconst 1, 1505), (1505, .iadd, 1506), (1506, .iaload, 1507), (1507, .invokevirtual 203, 1510), (1510, .istore 6, 1512), (1512, .aload_n 2, 1513), (1513, .invokevirtual 128, 1516), (1516, .iload 5, 1518), (1518, .if_icmp .eq 5, 1521), (1521, .iconst 0, 1522), (1522, .ireturn, 1523), (1523, .iload 5, 1525), (1525, .ifCond .ne 22, 1528), (1528, .aload_n 3, 1529), (1529, .iconst 0, 1530), (1530, .laload, 1531), (1531, .iload 6, 1533), (1533, .ifCond .eq 7, 1536)] : List (Nat × Instr × Nat)).all (fun q => decide (pm_code 361 q.1 = some q.2)) = true := by decide +kernel
theorem c361_1472 : pm_code 361 1472 = some (.aload_n 3, 1473) := pm_of cl361_21 0 (q := (1472, .aload_n 3, 1473)) rfl
theorem c361_1473 : pm_code 361 1473 = some (.iconst 0, 1474) := pm_of cl361_21 1 (q := (1473, .iconst 0, 1474)) rfl
theorem c361_1474 : pm_code 361 1474 = some (.laload, 1475) := pm_of cl361_21 2 (q := (1474, .laload, 1475)) rfl
theorem c361_1475 : pm_code 361 1475 = some (.iload 6, 1477) := pm_of cl361_21 3 (q := (1475, .iload 6, 1477)) rfl
theorem c361_1477 : pm_code 361 1477 = some (.i2l, 1478) := pm_of cl361_21 4 (q := (1477, .i2l, 1478)) rfl
theorem c361_1478 : pm_code 361 1478 = some (.lcmp, 1479) := pm_of cl361_21 5 (q := (1478, .lcmp, 1479)) rfl
theorem c361_1479 : pm_code 361 1479 = some (.ifCond .eq 5, 1482) := pm_of cl361_21 6 (q := (1479, .ifCond .eq 5, 1482)) rfl
theorem c361_1482 : pm_code 361 1482 = some (.iconst 0, 1483) := pm_of cl361_21 7 (q := (1482, .iconst 0, 1483)) rfl
theorem c361_1483 : pm_code 361 1483 = some (.ireturn, 1484) := pm_of cl361_21 8 (q := (1483, .ireturn, 1484)) rfl
theorem c361_1484 : pm_code 361 1484 = some (.goto 1092, 1487) := pm_of cl361_21 9 (q := (1484, .goto 1092, 1487)) rfl
theorem c361_1487 : pm_code 361 1487 = some (.aload_n 1, 1488) := pm_of cl361_21 10 (q := (1487, .aload_n 1, 1488)) rfl
theorem c361_1488 : pm_code 361 1488 = some (.aload_n 0, 1489) := pm_of cl361_21 11 (q := (1488, .aload_n 0, 1489)) rfl
theorem c361_1489 : pm_code 361 1489 = some (.iload 4, 1491) := pm_of cl361_21 12 (q := (1489, .iload 4, 1491)) rfl
theorem c361_1491 : pm_code 361 1491 = some (.iconst 1, 1492) := pm_of cl361_21 13 (q := (1491, .iconst 1, 1492)) rfl
theorem c361_1492 : pm_code 361 1492 = some (.iadd, 1493) := pm_of cl361_21 14 (q := (1492, .iadd, 1493)) rfl
theorem c361_1493 : pm_code 361 1493 = some (.iaload, 1494) := pm_of cl361_21 15 (q := (1493, .iaload, 1494)) rfl
theorem c361_1494 : pm_code 361 1494 = some (.aload_n 3, 1495) := pm_of cl361_21 16 (q := (1494, .aload_n 3, 1495)) rfl
theorem c361_1495 : pm_code 361 1495 = some (.invokestatic 201, 1498) := pm_of cl361_21 17 (q := (1495, .invokestatic 201, 1498)) rfl
theorem c361_1498 : pm_code 361 1498 = some (.istore 5, 1500) := pm_of cl361_21 18 (q := (1498, .istore 5, 1500)) rfl
theorem c361_1500 : pm_code 361 1500 = some (.aload_n 2, 1501) := pm_of cl361_21 19 (q := (1500, .aload_n 2, 1501)) rfl
theorem c361_1501 : pm_code 361 1501 = some (.aload_n 0, 1502) := pm_of cl361_21 20 (q := (1501, .aload_n 0, 1502)) rfl
theorem c361_1502 : pm_code 361 1502 = some (.iload 4, 1504) := pm_of cl361_21 21 (q := (1502, .iload 4, 1504)) rfl
theorem c361_1504 : pm_code 361 1504 = some (.iconst 1, 1505) := pm_of cl361_21 22 (q := (1504, .iconst 1, 1505)) rfl
theorem c361_1505 : pm_code 361 1505 = some (.iadd, 1506) := pm_of cl361_21 23 (q := (1505, .iadd, 1506)) rfl
theorem c361_1506 : pm_code 361 1506 = some (.iaload, 1507) := pm_of cl361_21 24 (q := (1506, .iaload, 1507)) rfl
theorem c361_1507 : pm_code 361 1507 = some (.invokevirtual 203, 1510) := pm_of cl361_21 25 (q := (1507, .invokevirtual 203, 1510)) rfl
theorem c361_1510 : pm_code 361 1510 = some (.istore 6, 1512) := pm_of cl361_21 26 (q := (1510, .istore 6, 1512)) rfl
theorem c361_1512 : pm_code 361 1512 = some (.aload_n 2, 1513) := pm_of cl361_21 27 (q := (1512, .aload_n 2, 1513)) rfl
theorem c361_1513 : pm_code 361 1513 = some (.invokevirtual 128, 1516) := pm_of cl361_21 28 (q := (1513, .invokevirtual 128, 1516)) rfl
theorem c361_1516 : pm_code 361 1516 = some (.iload 5, 1518) := pm_of cl361_21 29 (q := (1516, .iload 5, 1518)) rfl
theorem c361_1518 : pm_code 361 1518 = some (.if_icmp .eq 5, 1521) := pm_of cl361_21 30 (q := (1518, .if_icmp .eq 5, 1521)) rfl
theorem c361_1521 : pm_code 361 1521 = some (.iconst 0, 1522) := pm_of cl361_21 31 (q := (1521, .iconst 0, 1522)) rfl
theorem c361_1522 : pm_code 361 1522 = some (.ireturn, 1523) := pm_of cl361_21 32 (q := (1522, .ireturn, 1523)) rfl
theorem c361_1523 : pm_code 361 1523 = some (.iload 5, 1525) := pm_of cl361_21 33 (q := (1523, .iload 5, 1525)) rfl
theorem c361_1525 : pm_code 361 1525 = some (.ifCond .ne 22, 1528) := pm_of cl361_21 34 (q := (1525, .ifCond .ne 22, 1528)) rfl
theorem c361_1528 : pm_code 361 1528 = some (.aload_n 3, 1529) := pm_of cl361_21 35 (q := (1528, .aload_n 3, 1529)) rfl
theorem c361_1529 : pm_code 361 1529 = some (.iconst 0, 1530) := pm_of cl361_21 36 (q := (1529, .iconst 0, 1530)) rfl
theorem c361_1530 : pm_code 361 1530 = some (.laload, 1531) := pm_of cl361_21 37 (q := (1530, .laload, 1531)) rfl
theorem c361_1531 : pm_code 361 1531 = some (.iload 6, 1533) := pm_of cl361_21 38 (q := (1531, .iload 6, 1533)) rfl
theorem c361_1533 : pm_code 361 1533 = some (.ifCond .eq 7, 1536) := pm_of cl361_21 39 (q := (1533, .ifCond .eq 7, 1536)) rfl
theorem cl361_22 : ([(1536, .lconst 1, 1537), (1537, .goto 4, 1540), (1540, .lconst 0, 1541), (1541, .lcmp, 1542), (1542, .ifCond .eq 5, 1545), (1545, .iconst 0, 1546), (1546, .ireturn, 1547), (1547, .goto 1029, 1550), (1550, .aload_n 1, 1551), (1551, .aload_n 0, 1552), (1552, .iload 4, 1554), (1554, .iconst 1, 1555), (1555, .iadd, 1556), (1556, .iaload, 1557), (1557, .aload_n 3, 1558), (1558, .invokestatic 204, 1561), (1561, .istore 5, 1563), (1563, .aload_n 2, 1564), (1564, .aload_n 0, 1565), (1565, .iload 4, 1567), (1567, .iconst 1, 1568), (1568, .iadd, 1569), (1569, .iaload, 1570), (1570, .invokevirtual 206, 1573), (1573, .istore 6, 1575), (1575, .aload_n 2, 1576), (1576, .invokevirtual 128, 1579), (1579, .iload 5, 1581), (1581, .if_icmp .eq 5, 1584), (1584, .iconst 0, 1585), (1585, .ireturn, 1586), (1586, .iload 5, 1588), (1588, .ifCond .ne 15, 1591), (1591, .aload_n 3, 1592), (1592, .iconst 0, 1593), (1593, .laload, 1594), (1594, .iload 6, 1596), (1596, .i2l, 1597), (1597, .lcmp, 1598), (1598, .ifCond .eq 5, 1601)] : List (Nat × Instr × Nat)).all (fun q => decide (pm_code 361 q.1 = some q.2)) = true := by decide +kernel
theorem c361_1536 : pm_code 361 1536 = some (.lconst 1, 1537) := pm_of cl361_22 0 (q := (1536, .lconst 1, 1537)) rfl
theorem c361_1537 : pm_code 361 1537 = some (.goto 4, 1540) := pm_of cl361_22 1 (q := (1537, .goto 4, 1540)) rfl
theorem c361_1540 : pm_code 361 1540 = some (.lconst 0, 1541) := pm_of cl361_22 2 (q := (1540, .lconst 0, 1541)) rfl
theorem c361_1541 : pm_code 361 1541 = some (.lcmp, 1542) := pm_of cl361_22 3 (q := (1541, .lcmp, 1542)) rfl
theorem c361_1542 : pm_code 361 1542 = some (.ifCond .eq 5, 1545) := pm_of cl361_22 4 (q := (1542, .ifCond .eq 5, 1545)) rfl
theorem c361_1545 : pm_code 361 1545 = some (.iconst 0, 1546) := pm_of cl361_22 5 (q := (1545, .iconst 0, 1546)) rfl
theorem c361_1546 : pm_code 361 1546 = some (.ireturn, 1547) := pm_of cl361_22 6 (q := (1546, .ireturn, 1547)) rfl
theorem c361_1547 : pm_code 361 1547 = some (.goto 1029, 1550) := pm_of cl361_22 7 (q := (1547, .goto 1029, 1550)) rfl
theorem c361_1550 : pm_code 361 1550 = some (.aload_n 1, 1551) := pm_of cl361_22 8 (q := (1550, .aload_n 1, 1551)) rfl
theorem c361_1551 : pm_code 361 1551 = some (.aload_n 0, 1552) := pm_of cl361_22 9 (q := (1551, .aload_n 0, 1552)) rfl
theorem c361_1552 : pm_code 361 1552 = some (.iload 4, 1554) := pm_of cl361_22 10 (q := (1552, .iload 4, 1554)) rfl
theorem c361_1554 : pm_code 361 1554 = some (.iconst 1, 1555) := pm_of cl361_22 11 (q := (1554, .iconst 1, 1555)) rfl
theorem c361_1555 : pm_code 361 1555 = some (.iadd, 1556) := pm_of cl361_22 12 (q := (1555, .iadd, 1556)) rfl
theorem c361_1556 : pm_code 361 1556 = some (.iaload, 1557) := pm_of cl361_22 13 (q := (1556, .iaload, 1557)) rfl
theorem c361_1557 : pm_code 361 1557 = some (.aload_n 3, 1558) := pm_of cl361_22 14 (q := (1557, .aload_n 3, 1558)) rfl
theorem c361_1558 : pm_code 361 1558 = some (.invokestatic 204, 1561) := pm_of cl361_22 15 (q := (1558, .invokestatic 204, 1561)) rfl
theorem c361_1561 : pm_code 361 1561 = some (.istore 5, 1563) := pm_of cl361_22 16 (q := (1561, .istore 5, 1563)) rfl
theorem c361_1563 : pm_code 361 1563 = some (.aload_n 2, 1564) := pm_of cl361_22 17 (q := (1563, .aload_n 2, 1564)) rfl
theorem c361_1564 : pm_code 361 1564 = some (.aload_n 0, 1565) := pm_of cl361_22 18 (q := (1564, .aload_n 0, 1565)) rfl
theorem c361_1565 : pm_code 361 1565 = some (.iload 4, 1567) := pm_of cl361_22 19 (q := (1565, .iload 4, 1567)) rfl
theorem c361_1567 : pm_code 361 1567 = some (.iconst 1, 1568) := pm_of cl361_22 20 (q := (1567, .iconst 1, 1568)) rfl
theorem c361_1568 : pm_code 361 1568 = some (.iadd, 1569) := pm_of cl361_22 21 (q := (1568, .iadd, 1569)) rfl
theorem c361_1569 : pm_code 361 1569 = some (.iaload, 1570) := pm_of cl361_22 22 (q := (1569, .iaload, 1570)) rfl
theorem c361_1570 : pm_code 361 1570 = some (.invokevirtual 206, 1573) := pm_of cl361_22 23 (q := (1570, .invokevirtual 206, 1573)) rfl
theorem c361_1573 : pm_code 361 1573 = some (.istore 6, 1575) := pm_of cl361_22 24 (q := (1573, .istore 6, 1575)) rfl
theorem c361_1575 : pm_code 361 1575 = some (.aload_n 2, 1576) := pm_of cl361_22 25 (q := (1575, .aload_n 2, 1576)) rfl
theorem c361_1576 : pm_code 361 1576 = some (.invokevirtual 128, 1579) := pm_of cl361_22 26 (q := (1576, .invokevirtual 128, 1579)) rfl
theorem c361_1579 : pm_code 361 1579 = some (.iload 5, 1581) := pm_of cl361_22 27 (q := (1579, .iload 5, 1581)) rfl
theorem c361_1581 : pm_code 361 1581 = some (.if_icmp .eq 5, 1584) := pm_of cl361_22 28 (q := (1581, .if_icmp .eq 5, 1584)) rfl
theorem c361_1584 : pm_code 361 1584 = some (.iconst 0, 1585) := pm_of cl361_22 29 (q := (1584, .iconst 0, 1585)) rfl
theorem c361_1585 : pm_code 361 1585 = some (.ireturn, 1586) := pm_of cl361_22 30 (q := (1585, .ireturn, 1586)) rfl
theorem c361_1586 : pm_code 361 1586 = some (.iload 5, 1588) := pm_of cl361_22 31 (q := (1586, .iload 5, 1588)) rfl
theorem c361_1588 : pm_code 361 1588 = some (.ifCond .ne 15, 1591) := pm_of cl361_22 32 (q := (1588, .ifCond .ne 15, 1591)) rfl
theorem c361_1591 : pm_code 361 1591 = some (.aload_n 3, 1592) := pm_of cl361_22 33 (q := (1591, .aload_n 3, 1592)) rfl
theorem c361_1592 : pm_code 361 1592 = some (.iconst 0, 1593) := pm_of cl361_22 34 (q := (1592, .iconst 0, 1593)) rfl
theorem c361_1593 : pm_code 361 1593 = some (.laload, 1594) := pm_of cl361_22 35 (q := (1593, .laload, 1594)) rfl
theorem c361_1594 : pm_code 361 1594 = some (.iload 6, 1596) := pm_of cl361_22 36 (q := (1594, .iload 6, 1596)) rfl
theorem c361_1596 : pm_code 361 1596 = some (.i2l, 1597) := pm_of cl361_22 37 (q := (1596, .i2l, 1597)) rfl
theorem c361_1597 : pm_code 361 1597 = some (.lcmp, 1598) := pm_of cl361_22 38 (q := (1597, .lcmp, 1598)) rfl
theorem c361_1598 : pm_code 361 1598 = some (.ifCond .eq 5, 1601) := pm_of cl361_22 39 (q := (1598, .ifCond .eq 5, 1601)) rfl
theorem cl361_23 : ([(1601, .iconst 0, 1602), (1602, .ireturn, 1603), (1603, .goto 973, 1606), (1606, .aload_n 1, 1607), (1607, .aload_n 0, 1608), (1608, .iload 4, 1610), (1610, .iconst 1, 1611), (1611, .iadd, 1612), (1612, .iaload, 1613), (1613, .aload_n 3, 1614), (1614, .invokestatic 207, 1617), (1617, .istore 5, 1619), (1619, .aload_n 2, 1620), (1620, .aload_n 0, 1621), (1621, .iload 4, 1623), (1623, .iconst 1, 1624), (1624, .iadd, 1625), (1625, .iaload, 1626), (1626, .invokevirtual 209, 1629), (1629, .istore 6, 1631), (1631, .aload_n 2, 1632), (1632, .invokevirtual 128, 1635), (1635, .iload 5, 1637), (1637, .if_icmp .eq 5, 1640), (1640, .iconst 0, 1641), (1641, .ireturn, 1642), (1642, .iload 5, 1644), (1644, .ifCond .ne 15, 1647), (1647, .aload_n 3, 1648), (1648, .iconst 0, 1649), (1649, .laload, 1650), (1650, .iload 6, 1652), (1652, .i2l, 1653), (1653, .lcmp, 1654), (1654, .ifCond .eq 5, 1657), (1657, .iconst 0, 1658), (1658, .ireturn, 1659), (1659, .goto 917, 1662), (1662, .aload_n 1, 1663), (1663, .invokevirtual 210, 1666)] : List (Nat × Instr × Nat)).all (fun q => decide (pm_code 361 q.1 = some q.2)) = true := by decide +kernel
theorem c361_1601 : pm_code 361 1601 = some (.iconst 0, 1602) := pm_of cl361_23 0 (q := (1601, .iconst 0, 1602)) rfl
theorem c361_1602 : pm_code 361 1602 = some (.ireturn, 1603) := pm_of cl361_23 1 (q := (1602, .ireturn, 1603)) rfl
theorem c361_1603 : pm_code 361 1603 = some (.goto 973, 1606) := pm_of cl361_23 2 (q := (1603, .goto 973, 1606)) rfl
theorem c361_1606 : pm_code 361 1606 = some (.aload_n 1, 1607) := pm_of cl361_23 3 (q := (1606, .aload_n 1, 1607)) rfl
theorem c361_1607 : pm_code 361 1607 = some (.aload_n 0, 1608) := pm_of cl361_23 4 (q := (1607, .aload_n 0, 1608)) rfl
theorem c361_1608 : pm_code 361 1608 = some (.iload 4, 1610) := pm_of cl361_23 5 (q := (1608, .iload 4, 1610)) rfl
theorem c361_1610 : pm_code 361 1610 = some (.iconst 1, 1611) := pm_of cl361_23 6 (q := (1610, .iconst 1, 1611)) rfl
theorem c361_1611 : pm_code 361 1611 = some (.iadd, 1612) := pm_of cl361_23 7 (q := (1611, .iadd, 1612)) rfl
theorem c361_1612 : pm_code 361 1612 = some (.iaload, 1613) := pm_of cl361_23 8 (q := (1612, .iaload, 1613)) rfl
theorem c361_1613 : pm_code 361 1613 = some (.aload_n 3, 1614) := pm_of cl361_23 9 (q := (1613, .aload_n 3, 1614)) rfl
theorem c361_1614 : pm_code 361 1614 = some (.invokestatic 207, 1617) := pm_of cl361_23 10 (q := (1614, .invokestatic 207, 1617)) rfl
theorem c361_1617 : pm_code 361 1617 = some (.istore 5, 1619) := pm_of cl361_23 11 (q := (1617, .istore 5, 1619)) rfl
theorem c361_1619 : pm_code 361 1619 = some (.aload_n 2, 1620) := pm_of cl361_23 12 (q := (1619, .aload_n 2, 1620)) rfl
theorem c361_1620 : pm_code 361 1620 = some (.aload_n 0, 1621) := pm_of cl361_23 13 (q := (1620, .aload_n 0, 1621)) rfl
theorem c361_1621 : pm_code 361 1621 = some (.iload 4, 1623) := pm_of cl361_23 14 (q := (1621, .iload 4, 1623)) rfl
theorem c361_1623 : pm_code 361 1623 = some (.iconst 1, 1624) := pm_of cl361_23 15 (q := (1623, .iconst 1, 1624)) rfl
theorem c361_1624 : pm_code 361 1624 = some (.iadd, 1625) := pm_of cl361_23 16 (q := (1624, .iadd, 1625)) rfl
theorem c361_1625 : pm_code 361 1625 = some (.iaload, 1626) := pm_of cl361_23 17 (q := (1625, .iaload, 1626)) rfl
theorem c361_1626 : pm_code 361 1626 = some (.invokevirtual 209, 1629) := pm_of cl361_23 18 (q := (1626, .invokevirtual 209, 1629)) rfl
theorem c361_1629 : pm_code 361 1629 = some (.istore 6, 1631) := pm_of cl361_23 19 (q := (1629, .istore 6, 1631)) rfl
theorem c361_1631 : pm_code 361 1631 = some (.aload_n 2, 1632) := pm_of cl361_23 20 (q := (1631, .aload_n 2, 1632)) rfl
theorem c361_1632 : pm_code 361 1632 = some (.invokevirtual 128, 1635) := pm_of cl361_23 21 (q := (1632, .invokevirtual 128, 1635)) rfl
theorem c361_1635 : pm_code 361 1635 = some (.iload 5, 1637) := pm_of cl361_23 22 (q := (1635, .iload 5, 1637)) rfl
theorem c361_1637 : pm_code 361 1637 = some (.if_icmp .eq 5, 1640) := pm_of cl361_23 23 (q := (1637, .if_icmp .eq 5, 1640)) rfl
theorem c361_1640 : pm_code 361 1640 = some (.iconst 0, 1641) := pm_of cl361_23 24 (q := (1640, .iconst 0, 1641)) rfl
theorem c361_1641 : pm_code 361 1641 = some (.ireturn, 1642) := pm_of cl361_23 25 (q := (1641, .ireturn, 1642)) rfl
theorem c361_1642 : pm_code 361 1642 = some (.iload 5, 1644) := pm_of cl361_23 26 (q := (1642, .iload 5, 1644)) rfl
theorem c361_1644 : pm_code 361 1644 = some (.ifCond .ne 15, 1647) := pm_of cl361_23 27 (q := (1644, .ifCond .ne 15, 1647)) rfl
theorem c361_1647 : pm_code 361 1647 = some (.aload_n 3, 1648) := pm_of cl361_23 28 (q := (1647, .aload_n 3, 1648)) rfl
theorem c361_1648 : pm_code 361 1648 = some (.iconst 0, 1649) := pm_of cl361_23 29 (q := (1648, .iconst 0, 1649)) rfl
theorem c361_1649 : pm_code 361 1649 = some (.laload, 1650) := pm_of cl361_23 30 (q := (1649, .laload, 1650)) rfl
theorem c361_1650 : pm_code 361 1650 = some (.iload 6, 1652) := pm_of cl361_23 31 (q := (1650, .iload 6, 1652)) rfl
theorem c361_1652 : pm_code 361 1652 = some (.i2l, 1653) := pm_of cl361_23 32 (q := (1652, .i2l, 1653)) rfl
theorem c361_1653 : pm_code 361 1653 = some (.lcmp, 1654) := pm_of cl361_23 33 (q := (1653, .lcmp, 1654)) rfl
theorem c361_1654 : pm_code 361 1654 = some (.ifCond .eq 5, 1657) := pm_of cl361_23 34 (q := (1654, .ifCond .eq 5, 1657)) rfl
theorem c361_1657 : pm_code 361 1657 = some (.iconst 0, 1658) := pm_of cl361_23 35 (q := (1657, .iconst 0, 1658)) rfl
theorem c361_1658 : pm_code 361 1658 = some (.ireturn, 1659) := pm_of cl361_23 36 (q := (1658, .ireturn, 1659)) rfl
theorem c361_1659 : pm_code 361 1659 = some (.goto 917, 1662) := pm_of cl361_23 37 (q := (1659, .goto 917, 1662)) rfl
theorem c361_1662 : pm_code 361 1662 = some (.aload_n 1, 1663) := pm_of cl361_23 38 (q := (1662, .aload_n 1, 1663)) rfl
theorem c361_1663 : pm_code 361 1663 = some (.invokevirtual 210, 1666) := pm_of cl361_23 39 (q := (1663, .invokevirtual 210, 1666)) rfl
theorem cl361_24 : ([(1666, .aload_n 2, 1667), (1667, .invokevirtual 213, 1670), (1670, .if_icmp .eq 906, 1673), (1673, .iconst 0, 1674), (1674, .ireturn, 1675), (1675, .aload_n 1, 1676), (1676, .aload_n 0, 1677), (1677, .iload 4, 1679), (1679, .iconst 1, 1680), (1680, .iadd, 1681), (1681, .iaload, 1682), (1682, .aload_n 0, 1683), (1683, .iload 4, 1685), (1685, .iconst 2, 1686), (1686, .iadd, 1687), (1687, .iaload, 1688), (1688, .aload_n 3, 1689), (1689, .invokestatic 214, 1692), (1692, .istore 5, 1694), (1694, .aload_n 2, 1695), (1695, .aload_n 0, 1696), (1696, .iload 4, 1698), (1698, .iconst 1, 1699), (1699, .iadd, 1700), (1700, .iaload, 1701), (1701, .aload_n 0, 1702), (1702, .iload 4, 1704), (1704, .iconst 2, 1705), (1705, .iadd, 1706), (1706, .iaload, 1707), (1707, .invokevirtual 216, 1710), (1710, .istore 6, 1712), (1712, .aload_n 2, 1713), (1713, .invokevirtual 128, 1716), (1716, .iload 5, 1718), (1718, .if_icmp .eq 5, 1721), (1721, .iconst 0, 1722), (1722, .ireturn, 1723), (1723, .iload 5, 1725), (1725, .ifCond .ne 15, 1728)] : List (Nat × Instr × Nat)).all (fun q => decide (pm_code 361 q.1 = some q.2)) = true := by decide +kernel
theorem c361_1666 : pm_code 361 1666 = some (.aload_n 2, 1667) := pm_of cl361_24 0 (q := (1666, .aload_n 2, 1667)) rfl
theorem c361_1667 : pm_code 361 1667 = some (.invokevirtual 213, 1670) := pm_of cl361_24 1 (q := (1667, .invokevirtual 213, 1670)) rfl
theorem c361_1670 : pm_code 361 1670 = some (.if_icmp .eq 906, 1673) := pm_of cl361_24 2 (q := (1670, .if_icmp .eq 906, 1673)) rfl
theorem c361_1673 : pm_code 361 1673 = some (.iconst 0, 1674) := pm_of cl361_24 3 (q := (1673, .iconst 0, 1674)) rfl
theorem c361_1674 : pm_code 361 1674 = some (.ireturn, 1675) := pm_of cl361_24 4 (q := (1674, .ireturn, 1675)) rfl
theorem c361_1675 : pm_code 361 1675 = some (.aload_n 1, 1676) := pm_of cl361_24 5 (q := (1675, .aload_n 1, 1676)) rfl
theorem c361_1676 : pm_code 361 1676 = some (.aload_n 0, 1677) := pm_of cl361_24 6 (q := (1676, .aload_n 0, 1677)) rfl
theorem c361_1677 : pm_code 361 1677 = some (.iload 4, 1679) := pm_of cl361_24 7 (q := (1677, .iload 4, 1679)) rfl
theorem c361_1679 : pm_code 361 1679 = some (.iconst 1, 1680) := pm_of cl361_24 8 (q := (1679, .iconst 1, 1680)) rfl
theorem c361_1680 : pm_code 361 1680 = some (.iadd, 1681) := pm_of cl361_24 9 (q := (1680, .iadd, 1681)) rfl
theorem c361_1681 : pm_code 361 1681 = some (.iaload, 1682) := pm_of cl361_24 10 (q := (1681, .iaload, 1682)) rfl
theorem c361_1682 : pm_code 361 1682 = some (.aload_n 0, 1683) := pm_of cl361_24 11 (q := (1682, .aload_n 0, 1683)) rfl
theorem c361_1683 : pm_code 361 1683 = some (.iload 4, 1685) := pm_of cl361_24 12 (q := (1683, .iload 4, 1685)) rfl
theorem c361_1685 : pm_code 361 1685 = some (.iconst 2, 1686) := pm_of cl361_24 13 (q := (1685, .iconst 2, 1686)) rfl
theorem c361_1686 : pm_code 361 1686 = some (.iadd, 1687) := pm_of cl361_24 14 (q := (1686, .iadd, 1687)) rfl
theorem c361_1687 : pm_code 361 1687 = some (.iaload, 1688) := pm_of cl361_24 15 (q := (1687, .iaload, 1688)) rfl
theorem c361_1688 : pm_code 361 1688 = some (.aload_n 3, 1689) := pm_of cl361_24 16 (q := (1688, .aload_n 3, 1689)) rfl
theorem c361_1689 : pm_code 361 1689 = some (.invokestatic 214, 1692) := pm_of cl361_24 17 (q := (1689, .invokestatic 214, 1692)) rfl
theorem c361_1692 : pm_code 361 1692 = some (.istore 5, 1694) := pm_of cl361_24 18 (q := (1692, .istore 5, 1694)) rfl
theorem c361_1694 : pm_code 361 1694 = some (.aload_n 2, 1695) := pm_of cl361_24 19 (q := (1694, .aload_n 2, 1695)) rfl
theorem c361_1695 : pm_code 361 1695 = some (.aload_n 0, 1696) := pm_of cl361_24 20 (q := (1695, .aload_n 0, 1696)) rfl
theorem c361_1696 : pm_code 361 1696 = some (.iload 4, 1698) := pm_of cl361_24 21 (q := (1696, .iload 4, 1698)) rfl
theorem c361_1698 : pm_code 361 1698 = some (.iconst 1, 1699) := pm_of cl361_24 22 (q := (1698, .iconst 1, 1699)) rfl
theorem c361_1699 : pm_code 361 1699 = some (.iadd, 1700) := pm_of cl361_24 23 (q := (1699, .iadd, 1700)) rfl
theorem c361_1700 : pm_code 361 1700 = some (.iaload, 1701) := pm_of cl361_24 24 (q := (1700, .iaload, 1701)) rfl
theorem c361_1701 : pm_code 361 1701 = some (.aload_n 0, 1702) := pm_of cl361_24 25 (q := (1701, .aload_n 0, 1702)) rfl
theorem c361_1702 : pm_code 361 1702 = some (.iload 4, 1704) := pm_of cl361_24 26 (q := (1702, .iload 4, 1704)) rfl
theorem c361_1704 : pm_code 361 1704 = some (.iconst 2, 1705) := pm_of cl361_24 27 (q := (1704, .iconst 2, 1705)) rfl
theorem c361_1705 : pm_code 361 1705 = some (.iadd, 1706) := pm_of cl361_24 28 (q := (1705, .iadd, 1706)) rfl
theorem c361_1706 : pm_code 361 1706 = some (.iaload, 1707) := pm_of cl361_24 29 (q := (1706, .iaload, 1707)) rfl
theorem c361_1707 : pm_code 361 1707 = some (.invokevirtual 216, 1710) := pm_of cl361_24 30 (q := (1707, .invokevirtual 216, 1710)) rfl
theorem c361_1710 : pm_code 361 1710 = some (.istore 6, 1712) := pm_of cl361_24 31 (q := (1710, .istore 6, 1712)) rfl
theorem c361_1712 : pm_code 361 1712 = some (.aload_n 2, 1713) := pm_of cl361_24 32 (q := (1712, .aload_n 2, 1713)) rfl
theorem c361_1713 : pm_code 361 1713 = some (.invokevirtual 128, 1716) := pm_of cl361_24 33 (q := (1713, .invokevirtual 128, 1716)) rfl
theorem c361_1716 : pm_code 361 1716 = some (.iload 5, 1718) := pm_of cl361_24 34 (q := (1716, .iload 5, 1718)) rfl
theorem c361_1718 : pm_code 361 1718 = some (.if_icmp .eq 5, 1721) := pm_of cl361_24 35 (q := (1718, .if_icmp .eq 5, 1721)) rfl
theorem c361_1721 : pm_code 361 1721 = some (.iconst 0, 1722) := pm_of cl361_24 36 (q := (1721, .iconst 0, 1722)) rfl
theorem c361_1722 : pm_code 361 1722 = some (.ireturn, 1723) := pm_of cl361_24 37 (q := (1722, .ireturn, 1723)) rfl
theorem c361_1723 : pm_code 361 1723 = some (.iload 5, 1725) := pm_of cl361_24 38 (q := (1723, .iload 5, 1725)) rfl
theorem c361_1725 : pm_code 361 1725 = some (.ifCond .ne 15, 1728) := pm_of cl361_24 39 (q := (1725, .ifCond .ne 15, 1728)) rfl
theorem cl361_25 : ([(1728, .aload_n 3, 1729), (1729, .iconst 0, 1730), (1730, .laload, 1731), (1731, .iload 6, 1733), (1733, .i2l, 1734), (1734, .lcmp, 1735), (1735, .ifCond .eq 5, 1738), (1738, .iconst 0, 1739), (1739, .ireturn, 1740), (1740, .goto 836, 1743), (1743, .aload_n 1, 1744), (1744, .aload_n 0, 1745), (1745, .iload 4, 1747), (1747, .iconst 1, 1748), (1748, .iadd, 1749), (1749, .iaload, 1750), (1750, .aload_n 0, 1751), (1751, .iload 4, 1753), (1753, .iconst 2, 1754), (1754, .iadd, 1755), (1755, .iaload, 1756), (1756, .aload_n 3, 1757), (1757, .invokestatic 217, 1760), (1760, .istore 5, 1762), (1762, .aload_n 2, 1763), (1763, .aload_n 0, 1764), (1764, .iload 4, 1766), (1766, .iconst 1, 1767), (1767, .iadd, 1768), (1768, .iaload, 1769), (1769, .aload_n 0, 1770), (1770, .iload 4, 1772), (1772, .iconst 2, 1773), (1773, .iadd, 1774), (1774, .iaload, 1775), (1775, .invokevirtual 219, 1778), (1778, .istore 6, 1780), (1780, .aload_n 2, 1781), (1781, .invokevirtual 128, 1784), (1784, .iload 5, 1786)] : List (Nat × Instr × Nat)).all (fun q => decide (pm_code 361 q.1 = some q.2)) = true := by decide +kernel
theorem c361_1728 : pm_code 361 1728 = some (.aload_n 3, 1729) := pm_of cl361_25 0 (q := (1728, .aload_n 3, 1729)) rfl
theorem c361_1729 : pm_code 361 1729 = some (.iconst 0, 1730) := pm_of cl361_25 1 (q := (1729, .iconst 0, 1730)) rfl
theorem c361_1730 : pm_code 361 1730 = some (.laload, 1731) := pm_of cl361_25 2 (q := (1730, .laload, 1731)) rfl
theorem c361_1731 : pm_code 361 1731 = some (.iload 6, 1733) := pm_of cl361_25 3 (q := (1731, .iload 6, 1733)) rfl
theorem c361_1733 : pm_code 361 1733 = some (.i2l, 1734) := pm_of cl361_25 4 (q := (1733, .i2l, 1734)) rfl
theorem c361_1734 : pm_code 361 1734 = some (.lcmp, 1735) := pm_of cl361_25 5 (q := (1734, .lcmp, 1735)) rfl
theorem c361_1735 : pm_code 361 1735 = some (.ifCond .eq 5, 1738) := pm_of cl361_25 6 (q := (1735, .ifCond .eq 5, 1738)) rfl
theorem c361_1738 : pm_code 361 1738 = some (.iconst 0, 1739) := pm_of cl361_25 7 (q := (1738, .iconst 0, 1739)) rfl
theorem c361_1739 : pm_code 361 1739 = some (.ireturn, 1740) := pm_of cl361_25 8 (q := (1739, .ireturn, 1740)) rfl
theorem c361_1740 : pm_code 361 1740 = some (.goto 836, 1743) := pm_of cl361_25 9 (q := (1740, .goto 836, 1743)) rfl
theorem c361_1743 : pm_code 361 1743 = some (.aload_n 1, 1744) := pm_of cl361_25 10 (q := (1743, .aload_n 1, 1744)) rfl
theorem c361_1744 : pm_code 361 1744 = some (.aload_n 0, 1745) := pm_of cl361_25 11 (q := (1744, .aload_n 0, 1745)) rfl
theorem c361_1745 : pm_code 361 1745 = some (.iload 4, 1747) := pm_of cl361_25 12 (q := (1745, .iload 4, 1747)) rfl
theorem c361_1747 : pm_code 361 1747 = some (.iconst 1, 1748) := pm_of cl361_25 13 (q := (1747, .iconst 1, 1748)) rfl
theorem c361_1748 : pm_code 361 1748 = some (.iadd, 1749) := pm_of cl361_25 14 (q := (1748, .iadd, 1749)) rfl
theorem c361_1749 : pm_code 361 1749 = some (.iaload, 1750) := pm_of cl361_25 15 (q := (1749, .iaload, 1750)) rfl
theorem c361_1750 : pm_code 361 1750 = some (.aload_n 0, 1751) := pm_of cl361_25 16 (q := (1750, .aload_n 0, 1751)) rfl
theorem c361_1751 : pm_code 361 1751 = some (.iload 4, 1753) := pm_of cl361_25 17 (q := (1751, .iload 4, 1753)) rfl
theorem c361_1753 : pm_code 361 1753 = some (.iconst 2, 1754) := pm_of cl361_25 18 (q := (1753, .iconst 2, 1754)) rfl
theorem c361_1754 : pm_code 361 1754 = some (.iadd, 1755) := pm_of cl361_25 19 (q := (1754, .iadd, 1755)) rfl
theorem c361_1755 : pm_code 361 1755 = some (.iaload, 1756) := pm_of cl361_25 20 (q := (1755, .iaload, 1756)) rfl
theorem c361_1756 : pm_code 361 1756 = some (.aload_n 3, 1757) := pm_of cl361_25 21 (q := (1756, .aload_n 3, 1757)) rfl
theorem c361_1757 : pm_code 361 1757 = some (.invokestatic 217, 1760) := pm_of cl361_25 22 (q := (1757, .invokestatic 217, 1760)) rfl
theorem c361_1760 : pm_code 361 1760 = some (.istore 5, 1762) := pm_of cl361_25 23 (q := (1760, .istore 5, 1762)) rfl
theorem c361_1762 : pm_code 361 1762 = some (.aload_n 2, 1763) := pm_of cl361_25 24 (q := (1762, .aload_n 2, 1763)) rfl
theorem c361_1763 : pm_code 361 1763 = some (.aload_n 0, 1764) := pm_of cl361_25 25 (q := (1763, .aload_n 0, 1764)) rfl
theorem c361_1764 : pm_code 361 1764 = some (.iload 4, 1766) := pm_of cl361_25 26 (q := (1764, .iload 4, 1766)) rfl
theorem c361_1766 : pm_code 361 1766 = some (.iconst 1, 1767) := pm_of cl361_25 27 (q := (1766, .iconst 1, 1767)) rfl
theorem c361_1767 : pm_code 361 1767 = some (.iadd, 1768) := pm_of cl361_25 28 (q := (1767, .iadd, 1768)) rfl
theorem c361_1768 : pm_code 361 1768 = some (.iaload, 1769) := pm_of cl361_25 29 (q := (1768, .iaload, 1769)) rfl
theorem c361_1769 : pm_code 361 1769 = some (.aload_n 0, 1770) := pm_of cl361_25 30 (q := (1769, .aload_n 0, 1770)) rfl
theorem c361_1770 : pm_code 361 1770 = some (.iload 4, 1772) := pm_of cl361_25 31 (q := (1770, .iload 4, 1772)) rfl
theorem c361_1772 : pm_code 361 1772 = some (.iconst 2, 1773) := pm_of cl361_25 32 (q := (1772, .iconst 2, 1773)) rfl
theorem c361_1773 : pm_code 361 1773 = some (.iadd, 1774) := pm_of cl361_25 33 (q := (1773, .iadd, 1774)) rfl
theorem c361_1774 : pm_code 361 1774 = some (.iaload, 1775) := pm_of cl361_25 34 (q := (1774, .iaload, 1775)) rfl
theorem c361_1775 : pm_code 361 1775 = some (.invokevirtual 219, 1778) := pm_of cl361_25 35 (q := (1775, .invokevirtual 219, 1778)) rfl
theorem c361_1778 : pm_code 361 1778 = some (.istore 6, 1780) := pm_of cl361_25 36 (q := (1778, .istore 6, 1780)) rfl
theorem c361_1780 : pm_code 361 1780 = some (.aload_n 2, 1781) := pm_of cl361_25 37 (q := (1780, .aload_n 2, 1781)) rfl
theorem c361_1781 : pm_code 361 1781 = some (.invokevirtual 128, 1784) := pm_of cl361_25 38 (q := (1781, .invokevirtual 128, 1784)) rfl
theorem c361_1784 : pm_code 361 1784 = some (.iload 5, 1786) := pm_of cl361_25 39 (q := (1784, .iload 5, 1786)) rfl
theorem cl361_26 : ([(1786, .if_icmp .eq 5, 1789), (1789, .iconst 0, 1790), (1790, .ireturn, 1791), (1791, .iload 5, 1793), (1793, .ifCond .ne 15, 1796), (1796, .aload_n 3, 1797), (1797, .iconst 0, 1798), (1798, .laload, 1799), (1799, .iload 6, 1801), (1801, .i2l, 1802), (1802, .lcmp, 1803), (1803, .ifCond .eq 5, 1806), (1806, .iconst 0, 1807), (1807, .ireturn, 1808), (1808, .goto 768, 1811), (1811, .aload_n 1, 1812), (1812, .aload_n 0, 1813), (1813, .iload 4, 1815), (1815, .iconst 1, 1816), (1816, .iadd, 1817), (1817, .iaload, 1818), (1818, .aload_n 0, 1819), (1819, .iload 4, 1821), (1821, .iconst 2, 1822), (1822, .iadd, 1823), (1823, .iaload, 1824), (1824, .aload_n 0, 1825), (1825, .iload 4, 1827), (1827, .iconst 3, 1828), (1828, .iadd, 1829), (1829, .iaload, 1830), (1830, .aload_n 3, 1831), (1831, .invokestatic 220, 1834), (1834, .istore 5, 1836), (1836, .aload_n 2, 1837), (1837, .aload_n 0, 1838), (1838, .iload 4, 1840), (1840, .iconst 1, 1841), (1841, .iadd, 1842), (1842, .iaload, 1843)] : List (Nat × Instr × Nat)).all (fun q => decide (pm_code 361 q.1 = some q.2)) = true := by decide +kernel
theorem c361_1786 : pm_code 361 1786 = some (.if_icmp .eq 5, 1789) := pm_of cl361_26 0 (q := (1786, .if_icmp .eq 5, 1789)) rfl
theorem c361_1789 : pm_code 361 1789 = some (.iconst 0, 1790) := pm_of cl361_26 1 (q := (1789, .iconst 0, 1790)) rfl
theorem c361_1790 : pm_code 361 1790 = some (.ireturn, 1791) := pm_of cl361_26 2 (q := (1790, .ireturn, 1791)) rfl
theorem c361_1791 : pm_code 361 1791 = some (.iload 5, 1793) := pm_of cl361_26 3 (q := (1791, .iload 5, 1793)) rfl
theorem c361_1793 : pm_code 361 1793 = some (.ifCond .ne 15, 1796) := pm_of cl361_26 4 (q := (1793, .ifCond .ne 15, 1796)) rfl
theorem c361_1796 : pm_code 361 1796 = some (.aload_n 3, 1797) := pm_of cl361_26 5 (q := (1796, .aload_n 3, 1797)) rfl
theorem c361_1797 : pm_code 361 1797 = some (.iconst 0, 1798) := pm_of cl361_26 6 (q := (1797, .iconst 0, 1798)) rfl
theorem c361_1798 : pm_code 361 1798 = some (.laload, 1799) := pm_of cl361_26 7 (q := (1798, .laload, 1799)) rfl
theorem c361_1799 : pm_code 361 1799 = some (.iload 6, 1801) := pm_of cl361_26 8 (q := (1799, .iload 6, 1801)) rfl
theorem c361_1801 : pm_code 361 1801 = some (.i2l, 1802) := pm_of cl361_26 9 (q := (1801, .i2l, 1802)) rfl
theorem c361_1802 : pm_code 361 1802 = some (.lcmp, 1803) := pm_of cl361_26 10 (q := (1802, .lcmp, 1803)) rfl
theorem c361_1803 : pm_code 361 1803 = some (.ifCond .eq 5, 1806) := pm_of cl361_26 11 (q := (1803, .ifCond .eq 5, 1806)) rfl
theorem c361_1806 : pm_code 361 1806 = some (.iconst 0, 1807) := pm_of cl361_26 12 (q := (1806, .iconst 0, 1807)) rfl
theorem c361_1807 : pm_code 361 1807 = some (.ireturn, 1808) := pm_of cl361_26 13 (q := (1807, .ireturn, 1808)) rfl
theorem c361_1808 : pm_code 361 1808 = some (.goto 768, 1811) := pm_of cl361_26 14 (q := (1808, .goto 768, 1811)) rfl
theorem c361_1811 : pm_code 361 1811 = some (.aload_n 1, 1812) := pm_of cl361_26 15 (q := (1811, .aload_n 1, 1812)) rfl
theorem c361_1812 : pm_code 361 1812 = some (.aload_n 0, 1813) := pm_of cl361_26 16 (q := (1812, .aload_n 0, 1813)) rfl
theorem c361_1813 : pm_code 361 1813 = some (.iload 4, 1815) := pm_of cl361_26 17 (q := (1813, .iload 4, 1815)) rfl
theorem c361_1815 : pm_code 361 1815 = some (.iconst 1, 1816) := pm_of cl361_26 18 (q := (1815, .iconst 1, 1816)) rfl
theorem c361_1816 : pm_code 361 1816 = some (.iadd, 1817) := pm_of cl361_26 19 (q := (1816, .iadd, 1817)) rfl
theorem c361_1817 : pm_code 361 1817 = some (.iaload, 1818) := pm_of cl361_26 20 (q := (1817, .iaload, 1818)) rfl
theorem c361_1818 : pm_code 361 1818 = some (.aload_n 0, 1819) := pm_of cl361_26 21 (q := (1818, .aload_n 0, 1819)) rfl
theorem c361_1819 : pm_code 361 1819 = some (.iload 4, 1821) := pm_of cl361_26 22 (q := (1819, .iload 4, 1821)) rfl
theorem c361_1821 : pm_code 361 1821 = some (.iconst 2, 1822) := pm_of cl361_26 23 (q := (1821, .iconst 2, 1822)) rfl
theorem c361_1822 : pm_code 361 1822 = some (.iadd, 1823) := pm_of cl361_26 24 (q := (1822, .iadd, 1823)) rfl
theorem c361_1823 : pm_code 361 1823 = some (.iaload, 1824) := pm_of cl361_26 25 (q := (1823, .iaload, 1824)) rfl
theorem c361_1824 : pm_code 361 1824 = some (.aload_n 0, 1825) := pm_of cl361_26 26 (q := (1824, .aload_n 0, 1825)) rfl
theorem c361_1825 : pm_code 361 1825 = some (.iload 4, 1827) := pm_of cl361_26 27 (q := (1825, .iload 4, 1827)) rfl
theorem c361_1827 : pm_code 361 1827 = some (.iconst 3, 1828) := pm_of cl361_26 28 (q := (1827, .iconst 3, 1828)) rfl
theorem c361_1828 : pm_code 361 1828 = some (.iadd, 1829) := pm_of cl361_26 29 (q := (1828, .iadd, 1829)) rfl
theorem c361_1829 : pm_code 361 1829 = some (.iaload, 1830) := pm_of cl361_26 30 (q := (1829, .iaload, 1830)) rfl
theorem c361_1830 : pm_code 361 1830 = some (.aload_n 3, 1831) := pm_of cl361_26 31 (q := (1830, .aload_n 3, 1831)) rfl
theorem c361_1831 : pm_code 361 1831 = some (.invokestatic 220, 1834) := pm_of cl361_26 32 (q := (1831, .invokestatic 220, 1834)) rfl
theorem c361_1834 : pm_code 361 1834 = some (.istore 5, 1836) := pm_of cl361_26 33 (q := (1834, .istore 5, 1836)) rfl
theorem c361_1836 : pm_code 361 1836 = some (.aload_n 2, 1837) := pm_of cl361_26 34 (q := (1836, .aload_n 2, 1837)) rfl
theorem c361_1837 : pm_code 361 1837 = some (.aload_n 0, 1838) := pm_of cl361_26 35 (q := (1837, .aload_n 0, 1838)) rfl
theorem c361_1838 : pm_code 361 1838 = some (.iload 4, 1840) := pm_of cl361_26 36 (q := (1838, .iload 4, 1840)) rfl
theorem c361_1840 : pm_code 361 1840 = some (.iconst 1, 1841) := pm_of cl361_26 37 (q := (1840, .iconst 1, 1841)) rfl
theorem c361_1841 : pm_code 361 1841 = some (.iadd, 1842) := pm_of cl361_26 38 (q := (1841, .iadd, 1842)) rfl
theorem c361_1842 : pm_code 361 1842 = some (.iaload, 1843) := pm_of cl361_26 39 (q := (1842, .iaload, 1843)) rfl
theorem cl361_27 : ([(1843, .aload_n 0, 1844), (1844, .iload 4, 1846), (1846, .iconst 2, 1847), (1847, .iadd, 1848), (1848, .iaload, 1849), (1849, .aload_n 0, 1850), (1850, .iload 4, 1852), (1852, .iconst 3, 1853), (1853, .iadd, 1854), (1854, .iaload, 1855), (1855, .invokevirtual 223, 1858), (1858, .lstore 6, 1860), (1860, .aload_n 2, 1861), (1861, .invokevirtual 128, 1864), (1864, .iload 5, 1866), (1866, .if_icmp .eq 5, 1869), (1869, .iconst 0, 1870), (1870, .ireturn, 1871), (1871, .iload 5, 1873), (1873, .ifCond .ne 14, 1876), (1876, .aload_n 3, 1877), (1877, .iconst 0, 1878), (1878, .laload, 1879), (1879, .lload 6, 1881), (1881, .lcmp, 1882), (1882, .ifCond .eq 5, 1885), (1885, .iconst 0, 1886), (1886, .ireturn, 1887), (1887, .goto 689, 1890), (1890, .aload_n 1, 1891), (1891, .aload_n 0, 1892), (1892, .iload 4, 1894), (1894, .iconst 1, 1895), (1895, .iadd, 1896), (1896, .iaload, 1897), (1897, .aload_n 0, 1898), (1898, .iload 4, 1900), (1900, .iconst 2, 1901), (1901, .iadd, 1902), (1902, .iaload, 1903)] : List (Nat × Instr × Nat)).all (fun q => decide (pm_code 361 q.1 = some q.2)) = true := by decide +kernel
theorem c361_1843 : pm_code 361 1843 = some (.aload_n 0, 1844) := pm_of cl361_27 0 (q := (1843, .aload_n 0, 1844)) rfl
theorem c361_1844 : pm_code 361 1844 = some (.iload 4, 1846) := pm_of cl361_27 1 (q := (1844, .iload 4, 1846)) rfl
theorem c361_1846 : pm_code 361 1846 = some (.iconst 2, 1847) := pm_of cl361_27 2 (q := (1846, .iconst 2, 1847)) rfl
theorem c361_1847 : pm_code 361 1847 = some (.iadd, 1848) := pm_of cl361_27 3 (q := (1847, .iadd, 1848)) rfl
theorem c361_1848 : pm_code 361 1848 = some (.iaload, 1849) := pm_of cl361_27 4 (q := (1848, .iaload, 1849)) rfl
theorem c361_1849 : pm_code 361 1849 = some (.aload_n 0, 1850) := pm_of cl361_27 5 (q := (1849, .aload_n 0, 1850)) rfl
theorem c361_1850 : pm_code 361 1850 = some (.iload 4, 1852) := pm_of cl361_27 6 (q := (1850, .iload 4, 1852)) rfl
theorem c361_1852 : pm_code 361 1852 = some (.iconst 3, 1853) := pm_of cl361_27 7 (q := (1852, .iconst 3, 1853)) rfl
theorem c361_1853 : pm_code 361 1853 = some (.iadd, 1854) := pm_of cl361_27 8 (q := (1853, .iadd, 1854)) rfl
theorem c361_1854 : pm_code 361 1854 = some (.iaload, 1855) := pm_of cl361_27 9 (q := (1854, .iaload, 1855)) rfl
theorem c361_1855 : pm_code 361 1855 = some (.invokevirtual 223, 1858) := pm_of cl361_27 10 (q := (1855, .invokevirtual 223, 1858)) rfl
theorem c361_1858 : pm_code 361 1858 = some (.lstore 6, 1860) := pm_of cl361_27 11 (q := (1858, .lstore 6, 1860)) rfl
theorem c361_1860 : pm_code 361 1860 = some (.aload_n 2, 1861) := pm_of cl361_27 12 (q := (1860, .aload_n 2, 1861)) rfl
theorem c361_1861 : pm_code 361 1861 = some (.invokevirtual 128, 1864) := pm_of cl361_27 13 (q := (1861, .invokevirtual 128, 1864)) rfl
theorem c361_1864 : pm_code 361 1864 = some (.iload 5, 1866) := pm_of cl361_27 14 (q := (1864, .iload 5, 1866)) rfl
theorem c361_1866 : pm_code 361 1866 = some (.if_icmp .eq 5, 1869) := pm_of cl361_27 15 (q := (1866, .if_icmp .eq 5, 1869)) rfl
theorem c361_1869 : pm_code 361 1869 = some (.iconst 0, 1870) := pm_of cl361_27 16 (q := (1869, .iconst 0, 1870)) rfl
theorem c361_1870 : pm_code 361 1870 = some (.ireturn, 1871) := pm_of cl361_27 17 (q := (1870, .ireturn, 1871)) rfl
theorem c361_1871 : pm_code 361 1871 = some (.iload 5, 1873) := pm_of cl361_27 18 (q := (1871, .iload 5, 1873)) rfl
theorem c361_1873 : pm_code 361 1873 = some (.ifCond .ne 14, 1876) := pm_of cl361_27 19 (q := (1873, .ifCond .ne 14, 1876)) rfl
theorem c361_1876 : pm_code 361 1876 = some (.aload_n 3, 1877) := pm_of cl361_27 20 (q := (1876, .aload_n 3, 1877)) rfl
theorem c361_1877 : pm_code 361 1877 = some (.iconst 0, 1878) := pm_of cl361_27 21 (q := (1877, .iconst 0, 1878)) rfl
theorem c361_1878 : pm_code 361 1878 = some (.laload, 1879) := pm_of cl361_27 22 (q := (1878, .laload, 1879)) rfl
theorem c361_1879 : pm_code 361 1879 = some (.lload 6, 1881) := pm_of cl361_27 23 (q := (1879, .lload 6, 1881)) rfl
theorem c361_1881 : pm_code 361 1881 = some (.lcmp, 1882) := pm_of cl361_27 24 (q := (1881, .lcmp, 1882)) rfl
theorem c361_1882 : pm_code 361 1882 = some (.ifCond .eq 5, 1885) := pm_of cl361_27 25 (q := (1882, .ifCond .eq 5, 1885)) rfl
theorem c361_1885 : pm_code 361 1885 = some (.iconst 0, 1886) := pm_of cl361_27 26 (q := (1885, .iconst 0, 1886)) rfl
theorem c361_1886 : pm_code 361 1886 = some (.ireturn, 1887) := pm_of cl361_27 27 (q := (1886, .ireturn, 1887)) rfl
theorem c361_1887 : pm_code 361 1887 = some (.goto 689, 1890) := pm_of cl361_27 28 (q := (1887, .goto 689, 1890)) rfl
theorem c361_1890 : pm_code 361 1890 = some (.aload_n 1, 1891) := pm_of cl361_27 29 (q := (1890, .aload_n 1, 1891)) rfl
theorem c361_1891 : pm_code 361 1891 = some (.aload_n 0, 1892) := pm_of cl361_27 30 (q := (1891, .aload_n 0, 1892)) rfl
theorem c361_1892 : pm_code 361 1892 = some (.iload 4, 1894) := pm_of cl361_27 31 (q := (1892, .iload 4, 1894)) rfl
theorem c361_1894 : pm_code 361 1894 = some (.iconst 1, 1895) := pm_of cl361_27 32 (q := (1894, .iconst 1, 1895)) rfl
theorem c361_1895 : pm_code 361 1895 = some (.iadd, 1896) := pm_of cl361_27 33 (q := (1895, .iadd, 1896)) rfl
theorem c361_1896 : pm_code 361 1896 = some (.iaload, 1897) := pm_of cl361_27 34 (q := (1896, .iaload, 1897)) rfl
theorem c361_1897 : pm_code 361 1897 = some (.aload_n 0, 1898) := pm_of cl361_27 35 (q := (1897, .aload_n 0, 1898)) rfl
theorem c361_1898 : pm_code 361 1898 = some (.iload 4, 1900) := pm_of cl361_27 36 (q := (1898, .iload 4, 1900)) rfl
theorem c361_1900 : pm_code 361 1900 = some (.iconst 2, 1901) := pm_of cl361_27 37 (q := (1900, .iconst 2, 1901)) rfl
theorem c361_1901 : pm_code 361 1901 = some (.iadd, 1902) := pm_of cl361_27 38 (q := (1901, .iadd, 1902)) rfl
theorem c361_1902 : pm_code 361 1902 = some (.iaload, 1903) := pm_of cl361_27 39 (q := (1902, .iaload, 1903)) rfl
theorem cl361_28 : ([(1903, .aload_n 3, 1904), (1904, .invokestatic 224, 1907), (1907, .istore 5, 1909), (1909, .aload_n 2, 1910), (1910, .aload_n 0, 1911), (1911, .iload 4, 1913), (1913, .iconst 1, 1914), (1914, .iadd, 1915), (1915, .iaload, 1916), (1916, .aload_n 0, 1917), (1917, .iload 4, 1919), (1919, .iconst 2, 1920), (1920, .iadd, 1921), (1921, .iaload, 1922), (1922, .invokevirtual 226, 1925), (1925, .istore 6, 1927), (1927, .aload_n 2, 1928), (1928, .invokevirtual 128, 1931), (1931, .iload 5, 1933), (1933, .if_icmp .eq 5, 1936), (1936, .iconst 0, 1937), (1937, .ireturn, 1938), (1938, .iload 5, 1940), (1940, .ifCond .ne 15, 1943), (1943, .aload_n 3, 1944), (1944, .iconst 0, 1945), (1945, .laload, 1946), (1946, .iload 6, 1948), (1948, .i2l, 1949), (1949, .lcmp, 1950), (1950, .ifCond .eq 5, 1953), (1953, .iconst 0, 1954), (1954, .ireturn, 1955), (1955, .goto 621, 1958), (1958, .aload_n 1, 1959), (1959, .aload_n 0, 1960), (1960, .iload 4, 1962), (1962, .iconst 1, 1963), (1963, .iadd, 1964), (1964, .iaload, 1965)] : List (Nat × Instr × Nat)).all (fun q => decide (pm_code 361 q.1 = some q.2)) = true := by decide +kernel
theorem c361_1903 : pm_code 361 1903 = some (.aload_n 3, 1904) := pm_of cl361_28 0 (q := (1903, .aload_n 3, 1904)) rfl
theorem c361_1904 : pm_code 361 1904 = some (.invokestatic 224, 1907) := pm_of cl361_28 1 (q := (1904, .invokestatic 224, 1907)) rfl
theorem c361_1907 : pm_code 361 1907 = some (.istore 5, 1909) := pm_of cl361_28 2 (q := (1907, .istore 5, 1909)) rfl
theorem c361_1909 : pm_code 361 1909 = some (.aload_n 2, 1910) := pm_of cl361_28 3 (q := (1909, .aload_n 2, 1910)) rfl
theorem c361_1910 : pm_code 361 1910 = some (.aload_n 0, 1911) := pm_of cl361_28 4 (q := (1910, .aload_n 0, 1911)) rfl
theorem c361_1911 : pm_code 361 1911 = some (.iload 4, 1913) := pm_of cl361_28 5 (q := (1911, .iload 4, 1913)) rfl
theorem c361_1913 : pm_code 361 1913 = some (.iconst 1, 1914) := pm_of cl361_28 6 (q := (1913, .iconst 1, 1914)) rfl
theorem c361_1914 : pm_code 361 1914 = some (.iadd, 1915) := pm_of cl361_28 7 (q := (1914, .iadd, 1915)) rfl
theorem c361_1915 : pm_code 361 1915 = some (.iaload, 1916) := pm_of cl361_28 8 (q := (1915, .iaload, 1916)) rfl
theorem c361_1916 : pm_code 361 1916 = some (.aload_n 0, 1917) := pm_of cl361_28 9 (q := (1916, .aload_n 0, 1917)) rfl
theorem c361_1917 : pm_code 361 1917 = some (.iload 4, 1919) := pm_of cl361_28 10 (q := (1917, .iload 4, 1919)) rfl
theorem c361_1919 : pm_code 361 1919 = some (.iconst 2, 1920) := pm_of cl361_28 11 (q := (1919, .iconst 2, 1920)) rfl
theorem c361_1920 : pm_code 361 1920 = some (.iadd, 1921) := pm_of cl361_28 12 (q := (1920, .iadd, 1921)) rfl
theorem c361_1921 : pm_code 361 1921 = some (.iaload, 1922) := pm_of cl361_28 13 (q := (1921, .iaload, 1922)) rfl
theorem c361_1922 : pm_code 361 1922 = some (.invokevirtual 226, 1925) := pm_of cl361_28 14 (q := (1922, .invokevirtual 226, 1925)) rfl
theorem c361_1925 : pm_code 361 1925 = some (.istore 6, 1927) := pm_of cl361_28 15 (q := (1925, .istore 6, 1927)) rfl
theorem c361_1927 : pm_code 361 1927 = some (.aload_n 2, 1928) := pm_of cl361_28 16 (q := (1927, .aload_n 2, 1928)) rfl
theorem c361_1928 : pm_code 361 1928 = some (.invokevirtual 128, 1931) := pm_of cl361_28 17 (q := (1928, .invokevirtual 128, 1931)) rfl
theorem c361_1931 : pm_code 361 1931 = some (.iload 5, 1933) := pm_of cl361_28 18 (q := (1931, .iload 5, 1933)) rfl
theorem c361_1933 : pm_code 361 1933 = some (.if_icmp .eq 5, 1936) := pm_of cl361_28 19 (q := (1933, .if_icmp .eq 5, 1936)) rfl
theorem c361_1936 : pm_code 361 1936 = some (.iconst 0, 1937) := pm_of cl361_28 20 (q := (1936, .iconst 0, 1937)) rfl
theorem c361_1937 : pm_code 361 1937 = some (.ireturn, 1938) := pm_of cl361_28 21 (q := (1937, .ireturn, 1938)) rfl
theorem c361_1938 : pm_code 361 1938 = some (.iload 5, 1940) := pm_of cl361_28 22 (q := (1938, .iload 5, 1940)) rfl
theorem c361_1940 : pm_code 361 1940 = some (.ifCond .ne 15, 1943) := pm_of cl361_28 23 (q := (1940, .ifCond .ne 15, 1943)) rfl
theorem c361_1943 : pm_code 361 1943 = some (.aload_n 3, 1944) := pm_of cl361_28 24 (q := (1943, .aload_n 3, 1944)) rfl
theorem c361_1944 : pm_code 361 1944 = some (.iconst 0, 1945) := pm_of cl361_28 25 (q := (1944, .iconst 0, 1945)) rfl
theorem c361_1945 : pm_code 361 1945 = some (.laload, 1946) := pm_of cl361_28 26 (q := (1945, .laload, 1946)) rfl
theorem c361_1946 : pm_code 361 1946 = some (.iload 6, 1948) := pm_of cl361_28 27 (q := (1946, .iload 6, 1948)) rfl
theorem c361_1948 : pm_code 361 1948 = some (.i2l, 1949) := pm_of cl361_28 28 (q := (1948, .i2l, 1949)) rfl
theorem c361_1949 : pm_code 361 1949 = some (.lcmp, 1950) := pm_of cl361_28 29 (q := (1949, .lcmp, 1950)) rfl
theorem c361_1950 : pm_code 361 1950 = some (.ifCond .eq 5, 1953) := pm_of cl361_28 30 (q := (1950, .ifCond .eq 5, 1953)) rfl
theorem c361_1953 : pm_code 361 1953 = some (.iconst 0, 1954) := pm_of cl361_28 31 (q := (1953, .iconst 0, 1954)) rfl
theorem c361_1954 : pm_code 361 1954 = some (.ireturn, 1955) := pm_of cl361_28 32 (q := (1954, .ireturn, 1955)) rfl
theorem c361_1955 : pm_code 361 1955 = some (.goto 621, 1958) := pm_of cl361_28 33 (q := (1955, .goto 621, 1958)) rfl
theorem c361_1958 : pm_code 361 1958 = some (.aload_n 1, 1959) := pm_of cl361_28 34 (q := (1958, .aload_n 1, 1959)) rfl
theorem c361_1959 : pm_code 361 1959 = some (.aload_n 0, 1960) := pm_of cl361_28 35 (q := (1959, .aload_n 0, 1960)) rfl
theorem c361_1960 : pm_code 361 1960 = some (.iload 4, 1962) := pm_of cl361_28 36 (q := (1960, .iload 4, 1962)) rfl
theorem c361_1962 : pm_code 361 1962 = some (.iconst 1, 1963) := pm_of cl361_28 37 (q := (1962, .iconst 1, 1963)) rfl
theorem c361_1963 : pm_code 361 1963 = some (.iadd, 1964) := pm_of cl361_28 38 (q := (1963, .iadd, 1964)) rfl
theorem c361_1964 : pm_code 361 1964 = some (.iaload, 1965) := pm_of cl361_28 39 (q := (1964, .iaload, 1965)) rfl
theorem cl361_29 : ([(1965, .aload_n 0, 1966), (1966, .iload 4, 1968), (1968, .iconst 2, 1969), (1969, .iadd, 1970), (1970, .iaload, 1971), (1971, .aload_n 0, 1972), (1972, .iload 4, 1974), (1974, .iconst 3, 1975), (1975, .iadd, 1976), (1976, .iaload, 1977), (1977, .aload_n 3, 1978), (1978, .invokestatic 227, 1981), (1981, .istore 5, 1983), (1983, .aload_n 2, 1984), (1984, .aload_n 0, 1985), (1985, .iload 4, 1987), (1987, .iconst 1, 1988), (1988, .iadd, 1989), (1989, .iaload, 1990), (1990, .aload_n 0, 1991), (1991, .iload 4, 1993), (1993, .iconst 2, 1994), (1994, .iadd, 1995), (1995, .iaload, 1996), (1996, .aload_n 0, 1997), (1997, .iload 4, 1999), (1999, .iconst 3, 2000), (2000, .iadd, 2001), (2001, .iaload, 2002), (2002, .invokevirtual 229, 2005), (2005, .istore 6, 2007), (2007, .aload_n 2, 2008), (2008, .invokevirtual 128, 2011), (2011, .iload 5, 2013), (2013, .if_icmp .eq 5, 2016), (2016, .iconst 0, 2017), (2017, .ireturn, 2018), (2018, .iload 5, 2020), (2020, .ifCond .ne 15, 2023), (2023, .aload_n 3, 2024)] : List (Nat × Instr × Nat)).all (fun q => decide (pm_code 361 q.1 = some q.2)) = true := by decide +kernel
theorem c361_1965 : pm_code 361 1965 = some (.aload_n 0, 1966) := pm_of cl361_29 0 (q := (1965, .aload_n 0, 1966)) rfl
theorem c361_1966 : pm_code 361 1966 = some (.iload 4, 1968) := pm_of cl361_29 1 (q := (1966, .iload 4, 1968)) rfl
theorem c361_1968 : pm_code 361 1968 = some (.iconst 2, 1969) := pm_of cl361_29 2 (q := (1968, .iconst 2, 1969)) rfl
theorem c361_1969 : pm_code 361 1969 = some (.iadd, 1970) := pm_of cl361_29 3 (q := (1969, .iadd, 1970)) rfl
theorem c361_1970 : pm_code 361 1970 = some (.iaload, 1971) := pm_of cl361_29 4 (q := (1970, .iaload, 1971)) rfl
theorem c361_1971 : pm_code 361 1971 = some (.aload_n 0, 1972) := pm_of cl361_29 5 (q := (1971, .aload_n 0, 1972)) rfl
theorem c361_1972 : pm_code 361 1972 = some (.iload 4, 1974) := pm_of cl361_29 6 (q := (1972, .iload 4, 1974)) rfl
theorem c361_1974 : pm_code 361 1974 = some (.iconst 3, 1975) := pm_of cl361_29 7 (q := (1974, .iconst 3, 1975)) rfl
theorem c361_1975 : pm_code 361 1975 = some (.iadd, 1976) := pm_of cl361_29 8 (q := (1975, .iadd, 1976)) rfl
theorem c361_1976 : pm_code 361 1976 = some (.iaload, 1977) := pm_of cl361_29 9 (q := (1976, .iaload, 1977)) rfl
theorem c361_1977 : pm_code 361 1977 = some (.aload_n 3, 1978) := pm_of cl361_29 10 (q := (1977, .aload_n 3, 1978)) rfl
theorem c361_1978 : pm_code 361 1978 = some (.invokestatic 227, 1981) := pm_of cl361_29 11 (q := (1978, .invokestatic 227, 1981)) rfl
theorem c361_1981 : pm_code 361 1981 = some (.istore 5, 1983) := pm_of cl361_29 12 (q := (1981, .istore 5, 1983)) rfl
theorem c361_1983 : pm_code 361 1983 = some (.aload_n 2, 1984) := pm_of cl361_29 13 (q := (1983, .aload_n 2, 1984)) rfl
theorem c361_1984 : pm_code 361 1984 = some (.aload_n 0, 1985) := pm_of cl361_29 14 (q := (1984, .aload_n 0, 1985)) rfl
theorem c361_1985 : pm_code 361 1985 = some (.iload 4, 1987) := pm_of cl361_29 15 (q := (1985, .iload 4, 1987)) rfl
theorem c361_1987 : pm_code 361 1987 = some (.iconst 1, 1988) := pm_of cl361_29 16 (q := (1987, .iconst 1, 1988)) rfl
theorem c361_1988 : pm_code 361 1988 = some (.iadd, 1989) := pm_of cl361_29 17 (q := (1988, .iadd, 1989)) rfl
theorem c361_1989 : pm_code 361 1989 = some (.iaload, 1990) := pm_of cl361_29 18 (q := (1989, .iaload, 1990)) rfl
theorem c361_1990 : pm_code 361 1990 = some (.aload_n 0, 1991) := pm_of cl361_29 19 (q := (1990, .aload_n 0, 1991)) rfl
theorem c361_1991 : pm_code 361 1991 = some (.iload 4, 1993) := pm_of cl361_29 20 (q := (1991, .iload 4, 1993)) rfl
theorem c361_1993 : pm_code 361 1993 = some (.iconst 2, 1994) := pm_of cl361_29 21 (q := (1993, .iconst 2, 1994)) rfl
theorem c361_1994 : pm_code 361 1994 = some (.iadd, 1995) := pm_of cl361_29 22 (q := (1994, .iadd, 1995)) rfl
theorem c361_1995 : pm_code 361 1995 = some (.iaload, 1996) := pm_of cl361_29 23 (q := (1995, .iaload, 1996)) rfl
theorem c361_1996 : pm_code 361 1996 = some (.aload_n 0, 1997) := pm_of cl361_29 24 (q := (1996, .aload_n 0, 1997)) rfl
theorem c361_1997 : pm_code 361 1997 = some (.iload 4, 1999) := pm_of cl361_29 25 (q := (1997, .iload 4, 1999)) rfl
theorem c361_1999 : pm_code 361 1999 = some (.iconst 3, 2000) := pm_of cl361_29 26 (q := (1999, .iconst 3, 2000)) rfl
theorem c361_2000 : pm_code 361 2000 = some (.iadd, 2001) := pm_of cl361_29 27 (q := (2000, .iadd, 2001)) rfl
theorem c361_2001 : pm_code 361 2001 = some (.iaload, 2002) := pm_of cl361_29 28 (q := (2001, .iaload, 2002)) rfl
theorem c361_2002 : pm_code 361 2002 = some (.invokevirtual 229, 2005) := pm_of cl361_29 29 (q := (2002, .invokevirtual 229, 2005)) rfl
theorem c361_2005 : pm_code 361 2005 = some (.istore 6, 2007) := pm_of cl361_29 30 (q := (2005, .istore 6, 2007)) rfl
theorem c361_2007 : pm_code 361 2007 = some (.aload_n 2, 2008) := pm_of cl361_29 31 (q := (2007, .aload_n 2, 2008)) rfl
theorem c361_2008 : pm_code 361 2008 = some (.invokevirtual 128, 2011) := pm_of cl361_29 32 (q := (2008, .invokevirtual 128, 2011)) rfl
theorem c361_2011 : pm_code 361 2011 = some (.iload 5, 2013) := pm_of cl361_29 33 (q := (2011, .iload 5, 2013)) rfl
theorem c361_2013 : pm_code 361 2013 = some (.if_icmp .eq 5, 2016) := pm_of cl361_29 34 (q := (2013, .if_icmp .eq 5, 2016)) rfl
theorem c361_2016 : pm_code 361 2016 = some (.iconst 0, 2017) := pm_of cl361_29 35 (q := (2016, .iconst 0, 2017)) rfl
theorem c361_2017 : pm_code 361 2017 = some (.ireturn, 2018) := pm_of cl361_29 36 (q := (2017, .ireturn, 2018)) rfl
theorem c361_2018 : pm_code 361 2018 = some (.iload 5, 2020) := pm_of cl361_29 37 (q := (2018, .iload 5, 2020)) rfl
theorem c361_2020 : pm_code 361 2020 = some (.ifCond .ne 15, 2023) := pm_of cl361_29 38 (q := (2020, .ifCond .ne 15, 2023)) rfl
theorem c361_2023 : pm_code 361 2023 = some (.aload_n 3, 2024) := pm_of cl361_29 39 (q := (2023, .aload_n 3, 2024)) rfl
theorem cl361_30 : ([(2024, .iconst 0, 2025), (2025, .laload, 2026), (2026, .iload 6, 2028), (2028, .i2l, 2029), (2029, .lcmp, 2030), (2030, .ifCond .eq 5, 2033), (2033, .iconst 0, 2034), (2034, .ireturn, 2035), (2035, .goto 541, 2038), (2038, .aload_n 1, 2039), (2039, .aload_n 0, 2040), (2040, .iload 4, 2042), (2042, .iconst 1, 2043), (2043, .iadd, 2044), (2044, .iaload, 2045), (2045, .aload_n 0, 2046), (2046, .iload 4, 2048), (2048, .iconst 2, 2049), (2049, .iadd, 2050), (2050, .iaload, 2051), (2051, .aload_n 3, 2052), (2052, .invokestatic 230, 2055), (2055, .istore 5, 2057), (2057, .aload_n 2, 2058), (2058, .aload_n 0, 2059), (2059, .iload 4, 2061), (2061, .iconst 1, 2062), (2062, .iadd, 2063), (2063, .iaload, 2064), (2064, .aload_n 0, 2065), (2065, .iload 4, 2067), (2067, .iconst 2, 2068), (2068, .iadd, 2069), (2069, .iaload, 2070), (2070, .invokevirtual 232, 2073), (2073, .istore 6, 2075), (2075, .aload_n 2, 2076), (2076, .invokevirtual 128, 2079), (2079, .iload 5, 2081), (2081, .if_icmp .eq 5, 2084)] : List (Nat × Instr × Nat)).all (fun q => decide (pm_code 361 q.1 = some q.2)) = true := by decide +kernel
theorem c361_2024 : pm_code 361 2024 = some (.iconst 0, 2025) := pm_of cl361_30 0 (q := (2024, .iconst 0, 2025)) rfl
theorem c361_2025 : pm_code 361 2025 = some (.laload, 2026) := pm_of cl361_30 1 (q := (2025, .laload, 2026)) rfl
theorem c361_2026 : pm_code 361 2026 = some (.iload 6, 2028) := pm_of cl361_30 2 (q := (2026, .iload 6, 2028)) rfl
theorem c361_2028 : pm_code 361 2028 = some (.i2l, 2029) := pm_of cl361_30 3 (q := (2028, .i2l, 2029)) rfl
theorem c361_2029 : pm_code 361 2029 = some (.lcmp, 2030) := pm_of cl361_30 4 (q := (2029, .lcmp, 2030)) rfl
theorem c361_2030 : pm_code 361 2030 = some (.ifCond .eq 5, 2033) := pm_of cl361_30 5 (q := (2030, .ifCond .eq 5, 2033)) rfl
theorem c361_2033 : pm_code 361 2033 = some (.iconst 0, 2034) := pm_of cl361_30 6 (q := (2033, .iconst 0, 2034)) rfl
theorem c361_2034 : pm_code 361 2034 = some (.ireturn, 2035) := pm_of cl361_30 7 (q := (2034, .ireturn, 2035)) rfl
theorem c361_2035 : pm_code 361 2035 = some (.goto 541, 2038) := pm_of cl361_30 8 (q := (2035, .goto 541, 2038)) rfl
theorem c361_2038 : pm_code 361 2038 = some (.aload_n 1, 2039) := pm_of cl361_30 9 (q := (2038, .aload_n 1, 2039)) rfl
theorem c361_2039 : pm_code 361 2039 = some (.aload_n 0, 2040) := pm_of cl361_30 10 (q := (2039, .aload_n 0, 2040)) rfl
theorem c361_2040 : pm_code 361 2040 = some (.iload 4, 2042) := pm_of cl361_30 11 (q := (2040, .iload 4, 2042)) rfl
theorem c361_2042 : pm_code 361 2042 = some (.iconst 1, 2043) := pm_of cl361_30 12 (q := (2042, .iconst 1, 2043)) rfl
theorem c361_2043 : pm_code 361 2043 = some (.iadd, 2044) := pm_of cl361_30 13 (q := (2043, .iadd, 2044)) rfl
theorem c361_2044 : pm_code 361 2044 = some (.iaload, 2045) := pm_of cl361_30 14 (q := (2044, .iaload, 2045)) rfl
theorem c361_2045 : pm_code 361 2045 = some (.aload_n 0, 2046) := pm_of cl361_30 15 (q := (2045, .aload_n 0, 2046)) rfl
theorem c361_2046 : pm_code 361 2046 = some (.iload 4, 2048) := pm_of cl361_30 16 (q := (2046, .iload 4, 2048)) rfl
theorem c361_2048 : pm_code 361 2048 = some (.iconst 2, 2049) := pm_of cl361_30 17 (q := (2048, .iconst 2, 2049)) rfl
theorem c361_2049 : pm_code 361 2049 = some (.iadd, 2050) := pm_of cl361_30 18 (q := (2049, .iadd, 2050)) rfl
theorem c361_2050 : pm_code 361 2050 = some (.iaload, 2051) := pm_of cl361_30 19 (q := (2050, .iaload, 2051)) rfl
theorem c361_2051 : pm_code 361 2051 = some (.aload_n 3, 2052) := pm_of cl361_30 20 (q := (2051, .aload_n 3, 2052)) rfl
theorem c361_2052 : pm_code 361 2052 = some (.invokestatic 230, 2055) := pm_of cl361_30 21 (q := (2052, .invokestatic 230, 2055)) rfl
theorem c361_2055 : pm_code 361 2055 = some (.istore 5, 2057) := pm_of cl361_30 22 (q := (2055, .istore 5, 2057)) rfl
theorem c361_2057 : pm_code 361 2057 = some (.aload_n 2, 2058) := pm_of cl361_30 23 (q := (2057, .aload_n 2, 2058)) rfl
theorem c361_2058 : pm_code 361 2058 = some (.aload_n 0, 2059) := pm_of cl361_30 24 (q := (2058, .aload_n 0, 2059)) rfl
theorem c361_2059 : pm_code 361 2059 = some (.iload 4, 2061) := pm_of cl361_30 25 (q := (2059, .iload 4, 2061)) rfl
theorem c361_2061 : pm_code 361 2061 = some (.iconst 1, 2062) := pm_of cl361_30 26 (q := (2061, .iconst 1, 2062)) rfl
theorem c361_2062 : pm_code 361 2062 = some (.iadd, 2063) := pm_of cl361_30 27 (q := (2062, .iadd, 2063)) rfl
theorem c361_2063 : pm_code 361 2063 = some (.iaload, 2064) := pm_of cl361_30 28 (q := (2063, .iaload, 2064)) rfl
theorem c361_2064 : pm_code 361 2064 = some (.aload_n 0, 2065) := pm_of cl361_30 29 (q := (2064, .aload_n 0, 2065)) rfl
theorem c361_2065 : pm_code 361 2065 = some (.iload 4, 2067) := pm_of cl361_30 30 (q := (2065, .iload 4, 2067)) rfl
theorem c361_2067 : pm_code 361 2067 = some (.iconst 2, 2068) := pm_of cl361_30 31 (q := (2067, .iconst 2, 2068)) rfl
theorem c361_2068 : pm_code 361 2068 = some (.iadd, 2069) := pm_of cl361_30 32 (q := (2068, .iadd, 2069)) rfl
theorem c361_2069 : pm_code 361 2069 = some (.iaload, 2070) := pm_of cl361_30 33 (q := (2069, .iaload, 2070)) rfl
theorem c361_2070 : pm_code 361 2070 = some (.invokevirtual 232, 2073) := pm_of cl361_30 34 (q := (2070, .invokevirtual 232, 2073)) rfl
theorem c361_2073 : pm_code 361 2073 = some (.istore 6, 2075) := pm_of cl361_30 35 (q := (2073, .istore 6, 2075)) rfl
theorem c361_2075 : pm_code 361 2075 = some (.aload_n 2, 2076) := pm_of cl361_30 36 (q := (2075, .aload_n 2, 2076)) rfl
theorem c361_2076 : pm_code 361 2076 = some (.invokevirtual 128, 2079) := pm_of cl361_30 37 (q := (2076, .invokevirtual 128, 2079)) rfl
theorem c361_2079 : pm_code 361 2079 = some (.iload 5, 2081) := pm_of cl361_30 38 (q := (2079, .iload 5, 2081)) rfl
theorem c361_2081 : pm_code 361 2081 = some (.if_icmp .eq 5, 2084) := pm_of cl361_30 39 (q := (2081, .if_icmp .eq 5, 2084)) rfl
theorem cl361_31 : ([(2084, .iconst 0, 2085), (2085, .ireturn, 2086), (2086, .iload 5, 2088), (2088, .ifCond .ne 15, 2091), (2091, .aload_n 3, 2092), (2092, .iconst 0, 2093), (2093, .laload, 2094), (2094, .iload 6, 2096), (2096, .i2l, 2097), (2097, .lcmp, 2098), (2098, .ifCond .eq 5, 2101), (2101, .iconst 0, 2102), (2102, .ireturn, 2103), (2103, .goto 473, 2106), (2106, .aload_n 1, 2107), (2107, .aload_n 0, 2108), (2108, .iload 4, 2110), (2110, .iconst 1, 2111), (2111, .iadd, 2112), (2112, .iaload, 2113), (2113, .aload_n 0, 2114), (2114, .iload 4, 2116), (2116, .iconst 2, 2117), (2117, .iadd, 2118), (2118, .iaload, 2119), (2119, .aload_n 0, 2120), (2120, .iload 4, 2122), (2122, .iconst 3, 2123), (2123, .iadd, 2124), (2124, .iaload, 2125), (2125, .aload_n 0, 2126), (2126, .iload 4, 2128), (2128, .iconst 4, 2129), (2129, .iadd, 2130), (2130, .iaload, 2131), (2131, .aload_n 3, 2132), (2132, .invokestatic 233, 2135), (2135, .istore 5, 2137), (2137, .aload_n 2, 2138), (2138, .aload_n 0, 2139)] : List (Nat × Instr × Nat)).all (fun q => decide (pm_code 361 q.1 = some q.2)) = true := by decide +kernel
theorem c361_2084 : pm_code 361 2084 = some (.iconst 0, 2085) := pm_of cl361_31 0 (q := (2084, .iconst 0, 2085)) rfl
theorem c361_2085 : pm_code 361 2085 = some (.ireturn, 2086) := pm_of cl361_31 1 (q := (2085, .ireturn, 2086)) rfl
theorem c361_2086 : pm_code 361 2086 = some (.iload 5, 2088) := pm_of cl361_31 2 (q := (2086, .iload 5, 2088)) rfl
theorem c361_2088 : pm_code 361 2088 = some (.ifCond .ne 15, 2091) := pm_of cl361_31 3 (q := (2088, .ifCond .ne 15, 2091)) rfl
theorem c361_2091 : pm_code 361 2091 = some (.aload_n 3, 2092) := pm_of cl361_31 4 (q := (2091, .aload_n 3, 2092)) rfl
theorem c361_2092 : pm_code 361 2092 = some (.iconst 0, 2093) := pm_of cl361_31 5 (q := (2092, .iconst 0, 2093)) rfl
theorem c361_2093 : pm_code 361 2093 = some (.laload, 2094) := pm_of cl361_31 6 (q := (2093, .laload, 2094)) rfl
theorem c361_2094 : pm_code 361 2094 = some (.iload 6, 2096) := pm_of cl361_31 7 (q := (2094, .iload 6, 2096)) rfl
theorem c361_2096 : pm_code 361 2096 = some (.i2l, 2097) := pm_of cl361_31 8 (q := (2096, .i2l, 2097)) rfl
theorem c361_2097 : pm_code 361 2097 = some (.lcmp, 2098) := pm_of cl361_31 9 (q := (2097, .lcmp, 2098)) rfl
theorem c361_2098 : pm_code 361 2098 = some (.ifCond .eq 5, 2101) := pm_of cl361_31 10 (q := (2098, .ifCond .eq 5, 2101)) rfl
theorem c361_2101 : pm_code 361 2101 = some (.iconst 0, 2102) := pm_of cl361_31 11 (q := (2101, .iconst 0, 2102)) rfl
theorem c361_2102 : pm_code 361 2102 = some (.ireturn, 2103) := pm_of cl361_31 12 (q := (2102, .ireturn, 2103)) rfl
theorem c361_2103 : pm_code 361 2103 = some (.goto 473, 2106) := pm_of cl361_31 13 (q := (2103, .goto 473, 2106)) rfl
theorem c361_2106 : pm_code 361 2106 = some (.aload_n 1, 2107) := pm_of cl361_31 14 (q := (2106, .aload_n 1, 2107)) rfl
theorem c361_2107 : pm_code 361 2107 = some (.aload_n 0, 2108) := pm_of cl361_31 15 (q := (2107, .aload_n 0, 2108)) rfl
theorem c361_2108 : pm_code 361 2108 = some (.iload 4, 2110) := pm_of cl361_31 16 (q := (2108, .iload 4, 2110)) rfl
theorem c361_2110 : pm_code 361 2110 = some (.iconst 1, 2111) := pm_of cl361_31 17 (q := (2110, .iconst 1, 2111)) rfl
theorem c361_2111 : pm_code 361 2111 = some (.iadd, 2112) := pm_of cl361_31 18 (q := (2111, .iadd, 2112)) rfl
theorem c361_2112 : pm_code 361 2112 = some (.iaload, 2113) := pm_of cl361_31 19 (q := (2112, .iaload, 2113)) rfl
theorem c361_2113 : pm_code 361 2113 = some (.aload_n 0, 2114) := pm_of cl361_31 20 (q := (2113, .aload_n 0, 2114)) rfl
theorem c361_2114 : pm_code 361 2114 = some (.iload 4, 2116) := pm_of cl361_31 21 (q := (2114, .iload 4, 2116)) rfl
theorem c361_2116 : pm_code 361 2116 = some (.iconst 2, 2117) := pm_of cl361_31 22 (q := (2116, .iconst 2, 2117)) rfl
theorem c361_2117 : pm_code 361 2117 = some (.iadd, 2118) := pm_of cl361_31 23 (q := (2117, .iadd, 2118)) rfl
theorem c361_2118 : pm_code 361 2118 = some (.iaload, 2119) := pm_of cl361_31 24 (q := (2118, .iaload, 2119)) rfl
theorem c361_2119 : pm_code 361 2119 = some (.aload_n 0, 2120) := pm_of cl361_31 25 (q := (2119, .aload_n 0, 2120)) rfl
theorem c361_2120 : pm_code 361 2120 = some (.iload 4, 2122) := pm_of cl361_31 26 (q := (2120, .iload 4, 2122)) rfl
theorem c361_2122 : pm_code 361 2122 = some (.iconst 3, 2123) := pm_of cl361_31 27 (q := (2122, .iconst 3, 2123)) rfl
theorem c361_2123 : pm_code 361 2123 = some (.iadd, 2124) := pm_of cl361_31 28 (q := (2123, .iadd, 2124)) rfl
theorem c361_2124 : pm_code 361 2124 = some (.iaload, 2125) := pm_of cl361_31 29 (q := (2124, .iaload, 2125)) rfl
theorem c361_2125 : pm_code 361 2125 = some (.aload_n 0, 2126) := pm_of cl361_31 30 (q := (2125, .aload_n 0, 2126)) rfl
theorem c361_2126 : pm_code 361 2126 = some (.iload 4, 2128) := pm_of cl361_31 31 (q := (2126, .iload 4, 2128)) rfl
theorem c361_2128 : pm_code 361 2128 = some (.iconst 4, 2129) := pm_of cl361_31 32 (q := (2128, .iconst 4, 2129)) rfl
theorem c361_2129 : pm_code 361 2129 = some (.iadd, 2130) := pm_of cl361_31 33 (q := (2129, .iadd, 2130)) rfl
theorem c361_2130 : pm_code 361 2130 = some (.iaload, 2131) := pm_of cl361_31 34 (q := (2130, .iaload, 2131)) rfl
theorem c361_2131 : pm_code 361 2131 = some (.aload_n 3, 2132) := pm_of cl361_31 35 (q := (2131, .aload_n 3, 2132)) rfl
theorem c361_2132 : pm_code 361 2132 = some (.invokestatic 233, 2135) := pm_of cl361_31 36 (q := (2132, .invokestatic 233, 2135)) rfl
theorem c361_2135 : pm_code 361 2135 = some (.istore 5, 2137) := pm_of cl361_31 37 (q := (2135, .istore 5, 2137)) rfl
theorem c361_2137 : pm_code 361 2137 = some (.aload_n 2, 2138) := pm_of cl361_31 38 (q := (2137, .aload_n 2, 2138)) rfl
theorem c361_2138 : pm_code 361 2138 = some (.aload_n 0, 2139) := pm_of cl361_31 39 (q := (2138, .aload_n 0, 2139)) rfl
theorem cl361_32 : ([(2139, .iload 4, 2141), (2141, .iconst 1, 2142), (2142, .iadd, 2143), (2143, .iaload, 2144), (2144, .aload_n 0, 2145), (2145, .iload 4, 2147), (2147, .iconst 2, 2148), (2148, .iadd, 2149), (2149, .iaload, 2150), (2150, .aload_n 0, 2151), (2151, .iload 4, 2153), (2153, .iconst 3, 2154), (2154, .iadd, 2155), (2155, .iaload, 2156), (2156, .aload_n 0, 2157), (2157, .iload 4, 2159), (2159, .iconst 4, 2160), (2160, .iadd, 2161), (2161, .iaload, 2162), (2162, .invokevirtual 236, 2165), (2165, .istore 6, 2167), (2167, .aload_n 2, 2168), (2168, .invokevirtual 128, 2171), (2171, .iload 5, 2173), (2173, .if_icmp .eq 5, 2176), (2176, .iconst 0, 2177), (2177, .ireturn, 2178), (2178, .iload 5, 2180), (2180, .ifCond .ne 15, 2183), (2183, .aload_n 3, 2184), (2184, .iconst 0, 2185), (2185, .laload, 2186), (2186, .iload 6, 2188), (2188, .i2l, 2189), (2189, .lcmp, 2190), (2190, .ifCond .eq 5, 2193), (2193, .iconst 0, 2194), (2194, .ireturn, 2195), (2195, .goto 381, 2198), (2198, .aload_n 1, 2199)] : List (Nat × Instr × Nat)).all (fun q => decide (pm_code 361 q.1 = some q.2)) = true := by decide +kernel
theorem c361_2139 : pm_code 361 2139 = some (.iload 4, 2141) := pm_of cl361_32 0 (q := (2139, .iload 4, 2141)) rfl
theorem c361_2141 : pm_code 361 2141 = some (.iconst 1, 2142) := pm_of cl361_32 1 (q := (2141, .iconst 1, 2142)) rfl
theorem c361_2142 : pm_code 361 2142 = some (.iadd, 2143) := pm_of cl361_32 2 (q := (2142, .iadd, 2143)) rfl
theorem c361_2143 : pm_code 361 2143 = some (.iaload, 2144) := pm_of cl361_32 3 (q := (2143, .iaload, 2144)) rfl
theorem c361_2144 : pm_code 361 2144 = some (.aload_n 0, 2145) := pm_of cl361_32 4 (q := (2144, .aload_n 0, 2145)) rfl
theorem c361_2145 : pm_code 361 2145 = some (.iload 4, 2147) := pm_of cl361_32 5 (q := (2145, .iload 4, 2147)) rfl
theorem c361_2147 : pm_code 361 2147 = some (.iconst 2, 2148) := pm_of cl361_32 6 (q := (2147, .iconst 2, 2148)) rfl
theorem c361_2148 : pm_code 361 2148 = some (.iadd, 2149) := pm_of cl361_32 7 (q := (2148, .iadd, 2149)) rfl
theorem c361_2149 : pm_code 361 2149 = some (.iaload, 2150) := pm_of cl361_32 8 (q := (2149, .iaload, 2150)) rfl
theorem c361_2150 : pm_code 361 2150 = some (.aload_n 0, 2151) := pm_of cl361_32 9 (q := (2150, .aload_n 0, 2151)) rfl
theorem c361_2151 : pm_code 361 2151 = some (.iload 4, 2153) := pm_of cl361_32 10 (q := (2151, .iload 4, 2153)) rfl
theorem c361_2153 : pm_code 361 2153 = some (.iconst 3, 2154) := pm_of cl361_32 11 (q := (2153, .iconst 3, 2154)) rfl
theorem c361_2154 : pm_code 361 2154 = some (.iadd, 2155) := pm_of cl361_32 12 (q := (2154, .iadd, 2155)) rfl
theorem c361_2155 : pm_code 361 2155 = some (.iaload, 2156) := pm_of cl361_32 13 (q := (2155, .iaload, 2156)) rfl
theorem c361_2156 : pm_code 361 2156 = some (.aload_n 0, 2157) := pm_of cl361_32 14 (q := (2156, .aload_n 0, 2157)) rfl
theorem c361_2157 : pm_code 361 2157 = some (.iload 4, 2159) := pm_of cl361_32 15 (q := (2157, .iload 4, 2159)) rfl
theorem c361_2159 : pm_code 361 2159 = some (.iconst 4, 2160) := pm_of cl361_32 16 (q := (2159, .iconst 4, 2160)) rfl
theorem c361_2160 : pm_code 361 2160 = some (.iadd, 2161) := pm_of cl361_32 17 (q := (2160, .iadd, 2161)) rfl
theorem c361_2161 : pm_code 361 2161 = some (.iaload, 2162) := pm_of cl361_32 18 (q := (2161, .iaload, 2162)) rfl
theorem c361_2162 : pm_code 361 2162 = some (.invokevirtual 236, 2165) := pm_of cl361_32 19 (q := (2162, .invokevirtual 236, 2165)) rfl
theorem c361_2165 : pm_code 361 2165 = some (.istore 6, 2167) := pm_of cl361_32 20 (q := (2165, .istore 6, 2167)) rfl
theorem c361_2167 : pm_code 361 2167 = some (.aload_n 2, 2168) := pm_of cl361_32 21 (q := (2167, .aload_n 2, 2168)) rfl
theorem c361_2168 : pm_code 361 2168 = some (.invokevirtual 128, 2171) := pm_of cl361_32 22 (q := (2168, .invokevirtual 128, 2171)) rfl
theorem c361_2171 : pm_code 361 2171 = some (.iload 5, 2173) := pm_of cl361_32 23 (q := (2171, .iload 5, 2173)) rfl
theorem c361_2173 : pm_code 361 2173 = some (.if_icmp .eq 5, 2176) := pm_of cl361_32 24 (q := (2173, .if_icmp .eq 5, 2176)) rfl
theorem c361_2176 : pm_code 361 2176 = some (.iconst 0, 2177) := pm_of cl361_32 25 (q := (2176, .iconst 0, 2177)) rfl
theorem c361_2177 : pm_code 361 2177 = some (.ireturn, 2178) := pm_of cl361_32 26 (q := (2177, .ireturn, 2178)) rfl
theorem c361_2178 : pm_code 361 2178 = some (.iload 5, 2180) := pm_of cl361_32 27 (q := (2178, .iload 5, 2180)) rfl
theorem c361_2180 : pm_code 361 2180 = some (.ifCond .ne 15, 2183) := pm_of cl361_32 28 (q := (2180, .ifCond .ne 15, 2183)) rfl
theorem c361_2183 : pm_code 361 2183 = some (.aload_n 3, 2184) := pm_of cl361_32 29 (q := (2183, .aload_n 3, 2184)) rfl
theorem c361_2184 : pm_code 361 2184 = some (.iconst 0, 2185) := pm_of cl361_32 30 (q := (2184, .iconst 0, 2185)) rfl
theorem c361_2185 : pm_code 361 2185 = some (.laload, 2186) := pm_of cl361_32 31 (q := (2185, .laload, 2186)) rfl
theorem c361_2186 : pm_code 361 2186 = some (.iload 6, 2188) := pm_of cl361_32 32 (q := (2186, .iload 6, 2188)) rfl
theorem c361_2188 : pm_code 361 2188 = some (.i2l, 2189) := pm_of cl361_32 33 (q := (2188, .i2l, 2189)) rfl
theorem c361_2189 : pm_code 361 2189 = some (.lcmp, 2190) := pm_of cl361_32 34 (q := (2189, .lcmp, 2190)) rfl
theorem c361_2190 : pm_code 361 2190 = some (.ifCond .eq 5, 2193) := pm_of cl361_32 35 (q := (2190, .ifCond .eq 5, 2193)) rfl
theorem c361_2193 : pm_code 361 2193 = some (.iconst 0, 2194) := pm_of cl361_32 36 (q := (2193, .iconst 0, 2194)) rfl
theorem c361_2194 : pm_code 361 2194 = some (.ireturn, 2195) := pm_of cl361_32 37 (q := (2194, .ireturn, 2195)) rfl
theorem c361_2195 : pm_code 361 2195 = some (.goto 381, 2198) := pm_of cl361_32 38 (q := (2195, .goto 381, 2198)) rfl
theorem c361_2198 : pm_code 361 2198 = some (.aload_n 1, 2199) := pm_of cl361_32 39 (q := (2198, .aload_n 1, 2199)) rfl
theorem cl361_33 : ([(2199, .aload_n 0, 2200), (2200, .iload 4, 2202), (2202, .iconst 1, 2203), (2203, .iadd, 2204), (2204, .iaload, 2205), (2205, .aload_n 0, 2206), (2206, .iload 4, 2208), (2208, .iconst 2, 2209), (2209, .iadd, 2210), (2210, .iaload, 2211), (2211, .aload_n 0, 2212), (2212, .iload 4, 2214), (2214, .iconst 3, 2215), (2215, .iadd, 2216), (2216, .iaload, 2217), (2217, .aload_n 3, 2218), (2218, .invokestatic 237, 2221), (2221, .istore 5, 2223), (2223, .aload_n 2, 2224), (2224, .aload_n 0, 2225), (2225, .iload 4, 2227), (2227, .iconst 1, 2228), (2228, .iadd, 2229), (2229, .iaload, 2230), (2230, .aload_n 0, 2231), (2231, .iload 4, 2233), (2233, .iconst 2, 2234), (2234, .iadd, 2235), (2235, .iaload, 2236), (2236, .aload_n 0, 2237), (2237, .iload 4, 2239), (2239, .iconst 3, 2240), (2240, .iadd, 2241), (2241, .iaload, 2242), (2242, .invokevirtual 239, 2245), (2245, .istore 6, 2247), (2247, .aload_n 2, 2248), (2248, .invokevirtual 128, 2251), (2251, .iload 5, 2253), (2253, .if_icmp .eq 5, 2256)] : List (Nat × Instr × Nat)).all (fun q => decide (pm_code 361 q.1 = some q.2)) = true := by decide +kernel
theorem c361_2199 : pm_code 361 2199 = some (.aload_n 0, 2200) := pm_of cl361_33 0 (q := (2199, .aload_n 0, 2200)) rfl
theorem c361_2200 : pm_code 361 2200 = some (.iload 4, 2202) := pm_of cl361_33 1 (q := (2200, .iload 4, 2202)) rfl
theorem c361_2202 : pm_code 361 2202 = some (.iconst 1, 2203) := pm_of cl361_33 2 (q := (2202, .iconst 1, 2203)) rfl
theorem c361_2203 : pm_code 361 2203 = some (.iadd, 2204) := pm_of cl361_33 3 (q := (2203, .iadd, 2204)) rfl
theorem c361_2204 : pm_code 361 2204 = some (.iaload, 2205) := pm_of cl361_33 4 (q := (2204, .iaload, 2205)) rfl
theorem c361_2205 : pm_code 361 2205 = some (.aload_n 0, 2206) := pm_of cl361_33 5 (q := (2205, .aload_n 0, 2206)) rfl
theorem c361_2206 : pm_code 361 2206 = some (.iload 4, 2208) := pm_of cl361_33 6 (q := (2206, .iload 4, 2208)) rfl
theorem c361_2208 : pm_code 361 2208 = some (.iconst 2, 2209) := pm_of cl361_33 7 (q := (2208, .iconst 2, 2209)) rfl
theorem c361_2209 : pm_code 361 2209 = some (.iadd, 2210) := pm_of cl361_33 8 (q := (2209, .iadd, 2210)) rfl
theorem c361_2210 : pm_code 361 2210 = some (.iaload, 2211) := pm_of cl361_33 9 (q := (2210, .iaload, 2211)) rfl
theorem c361_2211 : pm_code 361 2211 = some (.aload_n 0, 2212) := pm_of cl361_33 10 (q := (2211, .aload_n 0, 2212)) rfl
theorem c361_2212 : pm_code 361 2212 = some (.iload 4, 2214) := pm_of cl361_33 11 (q := (2212, .iload 4, 2214)) rfl
theorem c361_2214 : pm_code 361 2214 = some (.iconst 3, 2215) := pm_of cl361_33 12 (q := (2214, .iconst 3, 2215)) rfl
theorem c361_2215 : pm_code 361 2215 = some (.iadd, 2216) := pm_of cl361_33 13 (q := (2215, .iadd, 2216)) rfl
theorem c361_2216 : pm_code 361 2216 = some (.iaload, 2217) := pm_of cl361_33 14 (q := (2216, .iaload, 2217)) rfl
theorem c361_2217 : pm_code 361 2217 = some (.aload_n 3, 2218) := pm_of cl361_33 15 (q := (2217, .aload_n 3, 2218)) rfl
theorem c361_2218 : pm_code 361 2218 = some (.invokestatic 237, 2221) := pm_of cl361_33 16 (q := (2218, .invokestatic 237, 2221)) rfl
theorem c361_2221 : pm_code 361 2221 = some (.istore 5, 2223) := pm_of cl361_33 17 (q := (2221, .istore 5, 2223)) rfl
theorem c361_2223 : pm_code 361 2223 = some (.aload_n 2, 2224) := pm_of cl361_33 18 (q := (2223, .aload_n 2, 2224)) rfl
theorem c361_2224 : pm_code 361 2224 = some (.aload_n 0, 2225) := pm_of cl361_33 19 (q := (2224, .aload_n 0, 2225)) rfl
theorem c361_2225 : pm_code 361 2225 = some (.iload 4, 2227) := pm_of cl361_33 20 (q := (2225, .iload 4, 2227)) rfl
theorem c361_2227 : pm_code 361 2227 = some (.iconst 1, 2228) := pm_of cl361_33 21 (q := (2227, .iconst 1, 2228)) rfl
theorem c361_2228 : pm_code 361 2228 = some (.iadd, 2229) := pm_of cl361_33 22 (q := (2228, .iadd, 2229)) rfl
theorem c361_2229 : pm_code 361 2229 = some (.iaload, 2230) := pm_of cl361_33 23 (q := (2229, .iaload, 2230)) rfl
theorem c361_2230 : pm_code 361 2230 = some (.aload_n 0, 2231) := pm_of cl361_33 24 (q := (2230, .aload_n 0, 2231)) rfl
theorem c361_2231 : pm_code 361 2231 = some (.iload 4, 2233) := pm_of cl361_33 25 (q := (2231, .iload 4, 2233)) rfl
theorem c361_2233 : pm_code 361 2233 = some (.iconst 2, 2234) := pm_of cl361_33 26 (q := (2233, .iconst 2, 2234)) rfl
theorem c361_2234 : pm_code 361 2234 = some (.iadd, 2235) := pm_of cl361_33 27 (q := (2234, .iadd, 2235)) rfl
theorem c361_2235 : pm_code 361 2235 = some (.iaload, 2236) := pm_of cl361_33 28 (q := (2235, .iaload, 2236)) rfl
theorem c361_2236 : pm_code 361 2236 = some (.aload_n 0, 2237) := pm_of cl361_33 29 (q := (2236, .aload_n 0, 2237)) rfl
theorem c361_2237 : pm_code 361 2237 = some (.iload 4, 2239) := pm_of cl361_33 30 (q := (2237, .iload 4, 2239)) rfl
theorem c361_2239 : pm_code 361 2239 = some (.iconst 3, 2240) := pm_of cl361_33 31 (q := (2239, .iconst 3, 2240)) rfl
theorem c361_2240 : pm_code 361 2240 = some (.iadd, 2241) := pm_of cl361_33 32 (q := (2240, .iadd, 2241)) rfl
theorem c361_2241 : pm_code 361 2241 = some (.iaload, 2242) := pm_of cl361_33 33 (q := (2241, .iaload, 2242)) rfl
theorem c361_2242 : pm_code 361 2242 = some (.invokevirtual 239, 2245) := pm_of cl361_33 34 (q := (2242, .invokevirtual 239, 2245)) rfl
theorem c361_2245 : pm_code 361 2245 = some (.istore 6, 2247) := pm_of cl361_33 35 (q := (2245, .istore 6, 2247)) rfl
theorem c361_2247 : pm_code 361 2247 = some (.aload_n 2, 2248) := pm_of cl361_33 36 (q := (2247, .aload_n 2, 2248)) rfl
theorem c361_2248 : pm_code 361 2248 = some (.invokevirtual 128, 2251) := pm_of cl361_33 37 (q := (2248, .invokevirtual 128, 2251)) rfl
theorem c361_2251 : pm_code 361 2251 = some (.iload 5, 2253) := pm_of cl361_33 38 (q := (2251, .iload 5, 2253)) rfl
theorem c361_2253 : pm_code 361 2253 = some (.if_icmp .eq 5, 2256) := pm_of cl361_33 39 (q := (2253, .if_icmp .eq 5, 2256)) rfl
theorem cl361_34 : ([(2256, .iconst 0, 2257), (2257, .ireturn, 2258), (2258, .iload 5, 2260), (2260, .ifCond .ne 15, 2263), (2263, .aload_n 3, 2264), (2264, .iconst 0, 2265), (2265, .laload, 2266), (2266, .iload 6, 2268), (2268, .i2l, 2269), (2269, .lcmp, 2270), (2270, .ifCond .eq 5, 2273), (2273, .iconst 0, 2274), (2274, .ireturn, 2275), (2275, .goto 301, 2278), (2278, .aload_n 1, 2279), (2279, .aload_n 0, 2280), (2280, .iload 4, 2282), (2282, .iconst 1, 2283), (2283, .iadd, 2284), (2284, .iaload, 2285), (2285, .aload_n 0, 2286), (2286, .iload 4, 2288), (2288, .iconst 2, 2289), (2289, .iadd, 2290), (2290, .iaload, 2291), (2291, .aload_n 0, 2292), (2292, .iload 4, 2294), (2294, .iconst 3, 2295), (2295, .iadd, 2296), (2296, .iaload, 2297), (2297, .aload_n 0, 2298), (2298, .iload 4, 2300), (2300, .iconst 4, 2301), (2301, .iadd, 2302), (2302, .iaload, 2303), (2303, .aload_n 0, 2304), (2304, .iload 4, 2306), (2306, .iconst 5, 2307), (2307, .iadd, 2308), (2308, .iaload, 2309)] : List (Nat × Instr × Nat)).all (fun q => decide (pm_code 361 q.1 = some q.2)) = true := by decide +kernel
theorem c361_2256 : pm_code 361 2256 = some (.iconst 0, 2257) := pm_of cl361_34 0 (q := (2256, .iconst 0, 2257)) rfl
theorem c361_2257 : pm_code 361 2257 = some (.ireturn, 2258) := pm_of cl361_34 1 (q := (2257, .ireturn, 2258)) rfl
theorem c361_2258 : pm_code 361 2258 = some (.iload 5, 2260) := pm_of cl361_34 2 (q := (2258, .iload 5, 2260)) rfl
theorem c361_2260 : pm_code 361 2260 = some (.ifCond .ne 15, 2263) := pm_of cl361_34 3 (q := (2260, .ifCond .ne 15, 2263)) rfl
theorem c361_2263 : pm_code 361 2263 = some (.aload_n 3, 2264) := pm_of cl361_34 4 (q := (2263, .aload_n 3, 2264)) rfl
theorem c361_2264 : pm_code 361 2264 = some (.iconst 0, 2265) := pm_of cl361_34 5 (q := (2264, .iconst 0, 2265)) rfl
theorem c361_2265 : pm_code 361 2265 = some (.laload, 2266) := pm_of cl361_34 6 (q := (2265, .laload, 2266)) rfl
theorem c361_2266 : pm_code 361 2266 = some (.iload 6, 2268) := pm_of cl361_34 7 (q := (2266, .iload 6, 2268)) rfl
theorem c361_2268 : pm_code 361 2268 = some (.i2l, 2269) := pm_of cl361_34 8 (q := (2268, .i2l, 2269)) rfl
theorem c361_2269 : pm_code 361 2269 = some (.lcmp, 2270) := pm_of cl361_34 9 (q := (2269, .lcmp, 2270)) rfl
theorem c361_2270 : pm_code 361 2270 = some (.ifCond .eq 5, 2273) := pm_of cl361_34 10 (q := (2270, .ifCond .eq 5, 2273)) rfl
theorem c361_2273 : pm_code 361 2273 = some (.iconst 0, 2274) := pm_of cl361_34 11 (q := (2273, .iconst 0, 2274)) rfl
theorem c361_2274 : pm_code 361 2274 = some (.ireturn, 2275) := pm_of cl361_34 12 (q := (2274, .ireturn, 2275)) rfl
theorem c361_2275 : pm_code 361 2275 = some (.goto 301, 2278) := pm_of cl361_34 13 (q := (2275, .goto 301, 2278)) rfl
theorem c361_2278 : pm_code 361 2278 = some (.aload_n 1, 2279) := pm_of cl361_34 14 (q := (2278, .aload_n 1, 2279)) rfl
theorem c361_2279 : pm_code 361 2279 = some (.aload_n 0, 2280) := pm_of cl361_34 15 (q := (2279, .aload_n 0, 2280)) rfl
theorem c361_2280 : pm_code 361 2280 = some (.iload 4, 2282) := pm_of cl361_34 16 (q := (2280, .iload 4, 2282)) rfl
theorem c361_2282 : pm_code 361 2282 = some (.iconst 1, 2283) := pm_of cl361_34 17 (q := (2282, .iconst 1, 2283)) rfl
theorem c361_2283 : pm_code 361 2283 = some (.iadd, 2284) := pm_of cl361_34 18 (q := (2283, .iadd, 2284)) rfl
theorem c361_2284 : pm_code 361 2284 = some (.iaload, 2285) := pm_of cl361_34 19 (q := (2284, .iaload, 2285)) rfl
theorem c361_2285 : pm_code 361 2285 = some (.aload_n 0, 2286) := pm_of cl361_34 20 (q := (2285, .aload_n 0, 2286)) rfl
theorem c361_2286 : pm_code 361 2286 = some (.iload 4, 2288) := pm_of cl361_34 21 (q := (2286, .iload 4, 2288)) rfl
theorem c361_2288 : pm_code 361 2288 = some (.iconst 2, 2289) := pm_of cl361_34 22 (q := (2288, .iconst 2, 2289)) rfl
theorem c361_2289 : pm_code 361 2289 = some (.iadd, 2290) := pm_of cl361_34 23 (q := (2289, .iadd, 2290)) rfl
theorem c361_2290 : pm_code 361 2290 = some (.iaload, 2291) := pm_of cl361_34 24 (q := (2290, .iaload, 2291)) rfl
theorem c361_2291 : pm_code 361 2291 = some (.aload_n 0, 2292) := pm_of cl361_34 25 (q := (2291, .aload_n 0, 2292)) rfl
theorem c361_2292 : pm_code 361 2292 = some (.iload 4, 2294) := pm_of cl361_34 26 (q := (2292, .iload 4, 2294)) rfl
theorem c361_2294 : pm_code 361 2294 = some (.iconst 3, 2295) := pm_of cl361_34 27 (q := (2294, .iconst 3, 2295)) rfl
theorem c361_2295 : pm_code 361 2295 = some (.iadd, 2296) := pm_of cl361_34 28 (q := (2295, .iadd, 2296)) rfl
theorem c361_2296 : pm_code 361 2296 = some (.iaload, 2297) := pm_of cl361_34 29 (q := (2296, .iaload, 2297)) rfl
theorem c361_2297 : pm_code 361 2297 = some (.aload_n 0, 2298) := pm_of cl361_34 30 (q := (2297, .aload_n 0, 2298)) rfl
theorem c361_2298 : pm_code 361 2298 = some (.iload 4, 2300) := pm_of cl361_34 31 (q := (2298, .iload 4, 2300)) rfl
theorem c361_2300 : pm_code 361 2300 = some (.iconst 4, 2301) := pm_of cl361_34 32 (q := (2300, .iconst 4, 2301)) rfl
theorem c361_2301 : pm_code 361 2301 = some (.iadd, 2302) := pm_of cl361_34 33 (q := (2301, .iadd, 2302)) rfl
theorem c361_2302 : pm_code 361 2302 = some (.iaload, 2303) := pm_of cl361_34 34 (q := (2302, .iaload, 2303)) rfl
theorem c361_2303 : pm_code 361 2303 = some (.aload_n 0, 2304) := pm_of cl361_34 35 (q := (2303, .aload_n 0, 2304)) rfl
theorem c361_2304 : pm_code 361 2304 = some (.iload 4, 2306) := pm_of cl361_34 36 (q := (2304, .iload 4, 2306)) rfl
theorem c361_2306 : pm_code 361 2306 = some (.iconst 5, 2307) := pm_of cl361_34 37 (q := (2306, .iconst 5, 2307)) rfl
theorem c361_2307 : pm_code 361 2307 = some (.iadd, 2308) := pm_of cl361_34 38 (q := (2307, .iadd, 2308)) rfl
theorem c361_2308 : pm_code 361 2308 = some (.iaload, 2309) := pm_of cl361_34 39 (q := (2308, .iaload, 2309)) rfl
theorem cl361_35 : ([(2309, .aload_n 3, 2310), (2310, .invokestatic 240, 2313), (2313, .istore 5, 2315), (2315, .aload_n 2, 2316), (2316, .aload_n 0, 2317), (2317, .iload 4, 2319), (2319, .iconst 1, 2320), (2320, .iadd, 2321), (2321, .iaload, 2322), (2322, .aload_n 0, 2323), (2323, .iload 4, 2325), (2325, .iconst 2, 2326), (2326, .iadd, 2327), (2327, .iaload, 2328), (2328, .aload_n 0, 2329), (2329, .iload 4, 2331), (2331, .iconst 3, 2332), (2332, .iadd, 2333), (2333, .iaload, 2334), (2334, .aload_n 0, 2335), (2335, .iload 4, 2337), (2337, .iconst 4, 2338), (2338, .iadd, 2339), (2339, .iaload, 2340), (2340, .aload_n 0, 2341), (2341, .iload 4, 2343), (2343, .iconst 5, 2344), (2344, .iadd, 2345), (2345, .iaload, 2346), (2346, .invokevirtual 243, 2349), (2349, .istore 6, 2351), (2351, .aload_n 2, 2352), (2352, .invokevirtual 128, 2355), (2355, .iload 5, 2357), (2357, .if_icmp .eq 5, 2360), (2360, .iconst 0, 2361), (2361, .ireturn, 2362), (2362, .iload 5, 2364), (2364, .ifCond .ne 15, 2367), (2367, .aload_n 3, 2368)] : List (Nat × Instr × Nat)).all (fun q => decide (pm_code 361 q.1 = some q.2)) = true := by decide +kernel
theorem c361_2309 : pm_code 361 2309 = some (.aload_n 3, 2310) := pm_of cl361_35 0 (q := (2309, .aload_n 3, 2310)) rfl
theorem c361_2310 : pm_code 361 2310 = some (.invokestatic 240, 2313) := pm_of cl361_35 1 (q := (2310, .invokestatic 240, 2313)) rfl
theorem c361_2313 : pm_code 361 2313 = some (.istore 5, 2315) := pm_of cl361_35 2 (q := (2313, .istore 5, 2315)) rfl
theorem c361_2315 : pm_code 361 2315 = some (.aload_n 2, 2316) := pm_of cl361_35 3 (q := (2315, .aload_n 2, 2316)) rfl
theorem c361_2316 : pm_code 361 2316 = some (.aload_n 0, 2317) := pm_of cl361_35 4 (q := (2316, .aload_n 0, 2317)) rfl
theorem c361_2317 : pm_code 361 2317 = some (.iload 4, 2319) := pm_of cl361_35 5 (q := (2317, .iload 4, 2319)) rfl
theorem c361_2319 : pm_code 361 2319 = some (.iconst 1, 2320) := pm_of cl361_35 6 (q := (2319, .iconst 1, 2320)) rfl
theorem c361_2320 : pm_code 361 2320 = some (.iadd, 2321) := pm_of cl361_35 7 (q := (2320, .iadd, 2321)) rfl
theorem c361_2321 : pm_code 361 2321 = some (.iaload, 2322) := pm_of cl361_35 8 (q := (2321, .iaload, 2322)) rfl
theorem c361_2322 : pm_code 361 2322 = some (.aload_n 0, 2323) := pm_of cl361_35 9 (q := (2322, .aload_n 0, 2323)) rfl
theorem c361_2323 : pm_code 361 2323 = some (.iload 4, 2325) := pm_of cl361_35 10 (q := (2323, .iload 4, 2325)) rfl
theorem c361_2325 : pm_code 361 2325 = some (.iconst 2, 2326) := pm_of cl361_35 11 (q := (2325, .iconst 2, 2326)) rfl
theorem c361_2326 : pm_code 361 2326 = some (.iadd, 2327) := pm_of cl361_35 12 (q := (2326, .iadd, 2327)) rfl
theorem c361_2327 : pm_code 361 2327 = some (.iaload, 2328) := pm_of cl361_35 13 (q := (2327, .iaload, 2328)) rfl
theorem c361_2328 : pm_code 361 2328 = some (.aload_n 0, 2329) := pm_of cl361_35 14 (q := (2328, .aload_n 0, 2329)) rfl
theorem c361_2329 : pm_code 361 2329 = some (.iload 4, 2331) := pm_of cl361_35 15 (q := (2329, .iload 4, 2331)) rfl
theorem c361_2331 : pm_code 361 2331 = some (.iconst 3, 2332) := pm_of cl361_35 16 (q := (2331, .iconst 3, 2332)) rfl
theorem c361_2332 : pm_code 361 2332 = some (.iadd, 2333) := pm_of cl361_35 17 (q := (2332, .iadd, 2333)) rfl
theorem c361_2333 : pm_code 361 2333 = some (.iaload, 2334) := pm_of cl361_35 18 (q := (2333, .iaload, 2334)) rfl
theorem c361_2334 : pm_code 361 2334 = some (.aload_n 0, 2335) := pm_of cl361_35 19 (q := (2334, .aload_n 0, 2335)) rfl
theorem c361_2335 : pm_code 361 2335 = some (.iload 4, 2337) := pm_of cl361_35 20 (q := (2335, .iload 4, 2337)) rfl
theorem c361_2337 : pm_code 361 2337 = some (.iconst 4, 2338) := pm_of cl361_35 21 (q := (2337, .iconst 4, 2338)) rfl
theorem c361_2338 : pm_code 361 2338 = some (.iadd, 2339) := pm_of cl361_35 22 (q := (2338, .iadd, 2339)) rfl
theorem c361_2339 : pm_code 361 2339 = some (.iaload, 2340) := pm_of cl361_35 23 (q := (2339, .iaload, 2340)) rfl
theorem c361_2340 : pm_code 361 2340 = some (.aload_n 0, 2341) := pm_of cl361_35 24 (q := (2340, .aload_n 0, 2341)) rfl
theorem c361_2341 : pm_code 361 2341 = some (.iload 4, 2343) := pm_of cl361_35 25 (q := (2341, .iload 4, 2343)) rfl
theorem c361_2343 : pm_code 361 2343 = some (.iconst 5, 2344) := pm_of cl361_35 26 (q := (2343, .iconst 5, 2344)) rfl
theorem c361_2344 : pm_code 361 2344 = some (.iadd, 2345) := pm_of cl361_35 27 (q := (2344, .iadd, 2345)) rfl
theorem c361_2345 : pm_code 361 2345 = some (.iaload, 2346) := pm_of cl361_35 28 (q := (2345, .iaload, 2346)) rfl
theorem c361_2346 : pm_code 361 2346 = some (.invokevirtual 243, 2349) := pm_of cl361_35 29 (q := (2346, .invokevirtual 243, 2349)) rfl
theorem c361_2349 : pm_code 361 2349 = some (.istore 6, 2351) := pm_of cl361_35 30 (q := (2349, .istore 6, 2351)) rfl
theorem c361_2351 : pm_code 361 2351 = some (.aload_n 2, 2352) := pm_of cl361_35 31 (q := (2351, .aload_n 2, 2352)) rfl
theorem c361_2352 : pm_code 361 2352 = some (.invokevirtual 128, 2355) := pm_of cl361_35 32 (q := (2352, .invokevirtual 128, 2355)) rfl
theorem c361_2355 : pm_code 361 2355 = some (.iload 5, 2357) := pm_of cl361_35 33 (q := (2355, .iload 5, 2357)) rfl
theorem c361_2357 : pm_code 361 2357 = some (.if_icmp .eq 5, 2360) := pm_of cl361_35 34 (q := (2357, .if_icmp .eq 5, 2360)) rfl
theorem c361_2360 : pm_code 361 2360 = some (.iconst 0, 2361) := pm_of cl361_35 35 (q := (2360, .iconst 0, 2361)) rfl
theorem c361_2361 : pm_code 361 2361 = some (.ireturn, 2362) := pm_of cl361_35 36 (q := (2361, .ireturn, 2362)) rfl
theorem c361_2362 : pm_code 361 2362 = some (.iload 5, 2364) := pm_of cl361_35 37 (q := (2362, .iload 5, 2364)) rfl
theorem c361_2364 : pm_code 361 2364 = some (.ifCond .ne 15, 2367) := pm_of cl361_35 38 (q := (2364, .ifCond .ne 15, 2367)) rfl
theorem c361_2367 : pm_code 361 2367 = some (.aload_n 3, 2368) := pm_of cl361_35 39 (q := (2367, .aload_n 3, 2368)) rfl
theorem cl361_36 : ([(2368, .iconst 0, 2369), (2369, .laload, 2370), (2370, .iload 6, 2372), (2372, .i2l, 2373), (2373, .lcmp, 2374), (2374, .ifCond .eq 5, 2377), (2377, .iconst 0, 2378), (2378, .ireturn, 2379), (2379, .goto 197, 2382), (2382, .aload_n 1, 2383), (2383, .aload_n 0, 2384), (2384, .iload 4, 2386), (2386, .iconst 1, 2387), (2387, .iadd, 2388), (2388, .iaload, 2389), (2389, .aload_n 0, 2390), (2390, .iload 4, 2392), (2392, .iconst 2, 2393), (2393, .iadd, 2394), (2394, .iaload, 2395), (2395, .aload_n 0, 2396), (2396, .iload 4, 2398), (2398, .iconst 3, 2399), (2399, .iadd, 2400), (2400, .iaload, 2401), (2401, .aload_n 0, 2402), (2402, .iload 4, 2404), (2404, .iconst 4, 2405), (2405, .iadd, 2406), (2406, .iaload, 2407), (2407, .aload_n 0, 2408), (2408, .iload 4, 2410), (2410, .iconst 5, 2411), (2411, .iadd, 2412), (2412, .iaload, 2413), (2413, .aload_n 0, 2414), (2414, .iload 4, 2416), (2416, .bipush 6, 2418), (2418, .iadd, 2419), (2419, .iaload, 2420)] : List (Nat × Instr × Nat)).all (fun q => decide (pm_code 361 q.1 = some q.2)) = true := by decide +kernel
theorem c361_2368 : pm_code 361 2368 = some (.iconst 0, 2369) := pm_of cl361_36 0 (q := (2368, .iconst 0, 2369)) rfl
theorem c361_2369 : pm_code 361 2369 = some (.laload, 2370) := pm_of cl361_36 1 (q := (2369, .laload, 2370)) rfl
theorem c361_2370 : pm_code 361 2370 = some (.iload 6, 2372) := pm_of cl361_36 2 (q := (2370, .iload 6, 2372)) rfl
theorem c361_2372 : pm_code 361 2372 = some (.i2l, 2373) := pm_of cl361_36 3 (q := (2372, .i2l, 2373)) rfl
theorem c361_2373 : pm_code 361 2373 = some (.lcmp, 2374) := pm_of cl361_36 4 (q := (2373, .lcmp, 2374)) rfl
theorem c361_2374 : pm_code 361 2374 = some (.ifCond .eq 5, 2377) := pm_of cl361_36 5 (q := (2374, .ifCond .eq 5, 2377)) rfl
theorem c361_2377 : pm_code 361 2377 = some (.iconst 0, 2378) := pm_of cl361_36 6 (q := (2377, .iconst 0, 2378)) rfl
theorem c361_2378 : pm_code 361 2378 = some (.ireturn, 2379) := pm_of cl361_36 7 (q := (2378, .ireturn, 2379)) rfl
theorem c361_2379 : pm_code 361 2379 = some (.goto 197, 2382) := pm_of cl361_36 8 (q := (2379, .goto 197, 2382)) rfl
theorem c361_2382 : pm_code 361 2382 = some (.aload_n 1, 2383) := pm_of cl361_36 9 (q := (2382, .aload_n 1, 2383)) rfl
theorem c361_2383 : pm_code 361 2383 = some (.aload_n 0, 2384) := pm_of cl361_36 10 (q := (2383, .aload_n 0, 2384)) rfl
theorem c361_2384 : pm_code 361 2384 = some (.iload 4, 2386) := pm_of cl361_36 11 (q := (2384, .iload 4, 2386)) rfl
theorem c361_2386 : pm_code 361 2386 = some (.iconst 1, 2387) := pm_of cl361_36 12 (q := (2386, .iconst 1, 2387)) rfl
theorem c361_2387 : pm_code 361 2387 = some (.iadd, 2388) := pm_of cl361_36 13 (q := (2387, .iadd, 2388)) rfl
theorem c361_2388 : pm_code 361 2388 = some (.iaload, 2389) := pm_of cl361_36 14 (q := (2388, .iaload, 2389)) rfl
theorem c361_2389 : pm_code 361 2389 = some (.aload_n 0, 2390) := pm_of cl361_36 15 (q := (2389, .aload_n 0, 2390)) rfl
theorem c361_2390 : pm_code 361 2390 = some (.iload 4, 2392) := pm_of cl361_36 16 (q := (2390, .iload 4, 2392)) rfl
theorem c361_2392 : pm_code 361 2392 = some (.iconst 2, 2393) := pm_of cl361_36 17 (q := (2392, .iconst 2, 2393)) rfl
theorem c361_2393 : pm_code 361 2393 = some (.iadd, 2394) := pm_of cl361_36 18 (q := (2393, .iadd, 2394)) rfl
theorem c361_2394 : pm_code 361 2394 = some (.iaload, 2395) := pm_of cl361_36 19 (q := (2394, .iaload, 2395)) rfl
theorem c361_2395 : pm_code 361 2395 = some (.aload_n 0, 2396) := pm_of cl361_36 20 (q := (2395, .aload_n 0, 2396)) rfl
theorem c361_2396 : pm_code 361 2396 = some (.iload 4, 2398) := pm_of cl361_36 21 (q := (2396, .iload 4, 2398)) rfl
theorem c361_2398 : pm_code 361 2398 = some (.iconst 3, 2399) := pm_of cl361_36 22 (q := (2398, .iconst 3, 2399)) rfl
theorem c361_2399 : pm_code 361 2399 = some (.iadd, 2400) := pm_of cl361_36 23 (q := (2399, .iadd, 2400)) rfl
theorem c361_2400 : pm_code 361 2400 = some (.iaload, 2401) := pm_of cl361_36 24 (q := (2400, .iaload, 2401)) rfl
theorem c361_2401 : pm_code 361 2401 = some (.aload_n 0, 2402) := pm_of cl361_36 25 (q := (2401, .aload_n 0, 2402)) rfl
theorem c361_2402 : pm_code 361 2402 = some (.iload 4, 2404) := pm_of cl361_36 26 (q := (2402, .iload 4, 2404)) rfl
theorem c361_2404 : pm_code 361 2404 = some (.iconst 4, 2405) := pm_of cl361_36 27 (q := (2404, .iconst 4, 2405)) rfl
theorem c361_2405 : pm_code 361 2405 = some (.iadd, 2406) := pm_of cl361_36 28 (q := (2405, .iadd, 2406)) rfl
theorem c361_2406 : pm_code 361 2406 = some (.iaload, 2407) := pm_of cl361_36 29 (q := (2406, .iaload, 2407)) rfl
theorem c361_2407 : pm_code 361 2407 = some (.aload_n 0, 2408) := pm_of cl361_36 30 (q := (2407, .aload_n 0, 2408)) rfl
theorem c361_2408 : pm_code 361 2408 = some (.iload 4, 2410) := pm_of cl361_36 31 (q := (2408, .iload 4, 2410)) rfl
theorem c361_2410 : pm_code 361 2410 = some (.iconst 5, 2411) := pm_of cl361_36 32 (q := (2410, .iconst 5, 2411)) rfl
theorem c361_2411 : pm_code 361 2411 = some (.iadd, 2412) := pm_of cl361_36 33 (q := (2411, .iadd, 2412)) rfl
theorem c361_2412 : pm_code 361 2412 = some (.iaload, 2413) := pm_of cl361_36 34 (q := (2412, .iaload, 2413)) rfl
theorem c361_2413 : pm_code 361 2413 = some (.aload_n 0, 2414) := pm_of cl361_36 35 (q := (2413, .aload_n 0, 2414)) rfl
theorem c361_2414 : pm_code 361 2414 = some (.iload 4, 2416) := pm_of cl361_36 36 (q := (2414, .iload 4, 2416)) rfl
theorem c361_2416 : pm_code 361 2416 = some (.bipush 6, 2418) := pm_of cl361_36 37 (q := (2416, .bipush 6, 2418)) rfl
theorem c361_2418 : pm_code 361 2418 = some (.iadd, 2419) := pm_of cl361_36 38 (q := (2418, .iadd, 2419)) rfl
theorem c361_2419 : pm_code 361 2419 = some (.iaload, 2420) := pm_of cl361_36 39 (q := (2419, .iaload, 2420)) rfl
theorem cl361_37 : ([(2420, .aload_n 3, 2421), (2421, .invokestatic 244, 2424), (2424, .istore 5, 2426), (2426, .aload_n 2, 2427), (2427, .aload_n 0, 2428), (2428, .iload 4, 2430), (2430, .iconst 1, 2431), (2431, .iadd, 2432), (2432, .iaload, 2433), (2433, .aload_n 0, 2434), (2434, .iload 4, 2436), (2436, .iconst 2, 2437), (2437, .iadd, 2438), (2438, .iaload, 2439), (2439, .aload_n 0, 2440), (2440, .iload 4, 2442), (2442, .iconst 3, 2443), (2443, .iadd, 2444), (2444, .iaload, 2445), (2445, .aload_n 0, 2446), (2446, .iload 4, 2448), (2448, .iconst 4, 2449), (2449, .iadd, 2450), (2450, .iaload, 2451), (2451, .aload_n 0, 2452), (2452, .iload 4, 2454), (2454, .iconst 5, 2455), (2455, .iadd, 2456), (2456, .iaload, 2457), (2457, .aload_n 0, 2458), (2458, .iload 4, 2460), (2460, .bipush 6, 2462), (2462, .iadd, 2463), (2463, .iaload, 2464), (2464, .invokevirtual 246, 2467), (2467, .istore 6, 2469), (2469, .aload_n 2, 2470), (2470, .invokevirtual 128, 2473), (2473, .iload 5, 2475), (2475, .if_icmp .eq 5, 2478)] : List (Nat × Instr × Nat)).all (fun q => decide (pm_code 361 q.1 = some q.2)) = true := by decide +kernel
theorem c361_2420 : pm_code 361 2420 = some (.aload_n 3, 2421) := pm_of cl361_37 0 (q := (2420, .aload_n 3, 2421)) rfl
theorem c361_2421 : pm_code 361 2421 = some (.invokestatic 244, 2424) := pm_of cl361_37 1 (q := (2421, .invokestatic 244, 2424)) rfl
theorem c361_2424 : pm_code 361 2424 = some (.istore 5, 2426) := pm_of cl361_37 2 (q := (2424, .istore 5, 2426)) rfl
theorem c361_2426 : pm_code 361 2426 = some (.aload_n 2, 2427) := pm_of cl361_37 3 (q := (2426, .aload_n 2, 2427)) rfl
theorem c361_2427 : pm_code 361 2427 = some (.aload_n 0, 2428) := pm_of cl361_37 4 (q := (2427, .aload_n 0, 2428)) rfl
theorem c361_2428 : pm_code 361 2428 = some (.iload 4, 2430) := pm_of cl361_37 5 (q := (2428, .iload 4, 2430)) rfl
theorem c361_2430 : pm_code 361 2430 = some (.iconst 1, 2431) := pm_of cl361_37 6 (q := (2430, .iconst 1, 2431)) rfl
theorem c361_2431 : pm_code 361 2431 = some (.iadd, 2432) := pm_of cl361_37 7 (q := (2431, .iadd, 2432)) rfl
theorem c361_2432 : pm_code 361 2432 = some (.iaload, 2433) := pm_of cl361_37 8 (q := (2432, .iaload, 2433)) rfl
theorem c361_2433 : pm_code 361 2433 = some (.aload_n 0, 2434) := pm_of cl361_37 9 (q := (2433, .aload_n 0, 2434)) rfl
theorem c361_2434 : pm_code 361 2434 = some (.iload 4, 2436) := pm_of cl361_37 10 (q := (2434, .iload 4, 2436)) rfl
theorem c361_2436 : pm_code 361 2436 = some (.iconst 2, 2437) := pm_of cl361_37 11 (q := (2436, .iconst 2, 2437)) rfl
theorem c361_2437 : pm_code 361 2437 = some (.iadd, 2438) := pm_of cl361_37 12 (q := (2437, .iadd, 2438)) rfl
theorem c361_2438 : pm_code 361 2438 = some (.iaload, 2439) := pm_of cl361_37 13 (q := (2438, .iaload, 2439)) rfl
theorem c361_2439 : pm_code 361 2439 = some (.aload_n 0, 2440) := pm_of cl361_37 14 (q := (2439, .aload_n 0, 2440)) rfl
theorem c361_2440 : pm_code 361 2440 = some (.iload 4, 2442) := pm_of cl361_37 15 (q := (2440, .iload 4, 2442)) rfl
theorem c361_2442 : pm_code 361 2442 = some (.iconst 3, 2443) := pm_of cl361_37 16 (q := (2442, .iconst 3, 2443)) rfl
theorem c361_2443 : pm_code 361 2443 = some (.iadd, 2444) := pm_of cl361_37 17 (q := (2443, .iadd, 2444)) rfl
theorem c361_2444 : pm_code 361 2444 = some (.iaload, 2445) := pm_of cl361_37 18 (q := (2444, .iaload, 2445)) rfl
theorem c361_2445 : pm_code 361 2445 = some (.aload_n 0, 2446) := pm_of cl361_37 19 (q := (2445, .aload_n 0, 2446)) rfl
theorem c361_2446 : pm_code 361 2446 = some (.iload 4, 2448) := pm_of cl361_37 20 (q := (2446, .iload 4, 2448)) rfl
theorem c361_2448 : pm_code 361 2448 = some (.iconst 4, 2449) := pm_of cl361_37 21 (q := (2448, .iconst 4, 2449)) rfl
theorem c361_2449 : pm_code 361 2449 = some (.iadd, 2450) := pm_of cl361_37 22 (q := (2449, .iadd, 2450)) rfl
theorem c361_2450 : pm_code 361 2450 = some (.iaload, 2451) := pm_of cl361_37 23 (q := (2450, .iaload, 2451)) rfl
theorem c361_2451 : pm_code 361 2451 = some (.aload_n 0, 2452) := pm_of cl361_37 24 (q := (2451, .aload_n 0, 2452)) rfl
theorem c361_2452 : pm_code 361 2452 = some (.iload 4, 2454) := pm_of cl361_37 25 (q := (2452, .iload 4, 2454)) rfl
theorem c361_2454 : pm_code 361 2454 = some (.iconst 5, 2455) := pm_of cl361_37 26 (q := (2454, .iconst 5, 2455)) rfl
theorem c361_2455 : pm_code 361 2455 = some (.iadd, 2456) := pm_of cl361_37 27 (q := (2455, .iadd, 2456)) rfl
theorem c361_2456 : pm_code 361 2456 = some (.iaload, 2457) := pm_of cl361_37 28 (q := (2456, .iaload, 2457)) rfl
theorem c361_2457 : pm_code 361 2457 = some (.aload_n 0, 2458) := pm_of cl361_37 29 (q := (2457, .aload_n 0, 2458)) rfl
theorem c361_2458 : pm_code 361 2458 = some (.iload 4, 2460) := pm_of cl361_37 30 (q := (2458, .iload 4, 2460)) rfl
theorem c361_2460 : pm_code 361 2460 = some (.bipush 6, 2462) := pm_of cl361_37 31 (q := (2460, .bipush 6, 2462)) rfl
theorem c361_2462 : pm_code 361 2462 = some (.iadd, 2463) := pm_of cl361_37 32 (q := (2462, .iadd, 2463)) rfl
theorem c361_2463 : pm_code 361 2463 = some (.iaload, 2464) := pm_of cl361_37 33 (q := (2463, .iaload, 2464)) rfl
theorem c361_2464 : pm_code 361 2464 = some (.invokevirtual 246, 2467) := pm_of cl361_37 34 (q := (2464, .invokevirtual 246, 2467)) rfl
theorem c361_2467 : pm_code 361 2467 = some (.istore 6, 2469) := pm_of cl361_37 35 (q := (2467, .istore 6, 2469)) rfl
theorem c361_2469 : pm_code 361 2469 = some (.aload_n 2, 2470) := pm_of cl361_37 36 (q := (2469, .aload_n 2, 2470)) rfl
theorem c361_2470 : pm_code 361 2470 = some (.invokevirtual 128, 2473) := pm_of cl361_37 37 (q := (2470, .invokevirtual 128, 2473)) rfl
theorem c361_2473 : pm_code 361 2473 = some (.iload 5, 2475) := pm_of cl361_37 38 (q := (2473, .iload 5, 2475)) rfl
theorem c361_2475 : pm_code 361 2475 = some (.if_icmp .eq 5, 2478) := pm_of cl361_37 39 (q := (2475, .if_icmp .eq 5, 2478)) rfl
theorem cl361_38 : ([(2478, .iconst 0, 2479), (2479, .ireturn, 2480), (2480, .iload 5, 2482), (2482, .ifCond .ne 15, 2485), (2485, .aload_n 3, 2486), (2486, .iconst 0, 2487), (2487, .laload, 2488), (2488, .iload 6, 2490), (2490, .i2l, 2491), (2491, .lcmp, 2492), (2492, .ifCond .eq 5, 2495), (2495, .iconst 0, 2496), (2496, .ireturn, 2497), (2497, .goto 79, 2500), (2500, .aload_n 1, 2501), (2501, .invokevirtual 247, 2504), (2504, .aload_n 2, 2505), (2505, .invokevirtual 250, 2508), (2508, .if_icmp .eq 68, 2511), (2511, .iconst 0, 2512), (2512, .ireturn, 2513), (2513, .aload_n 1, 2514), (2514, .invokevirtual 251, 2517), (2517, .aload_n 2, 2518), (2518, .invokevirtual 254, 2521), (2521, .if_icmp .eq 55, 2524), (2524, .iconst 0, 2525), (2525, .ireturn, 2526), (2526, .aload_n 1, 2527), (2527, .aload_n 0, 2528), (2528, .iload 4, 2530), (2530, .iconst 1, 2531), (2531, .iadd, 2532), (2532, .iaload, 2533), (2533, .invokevirtual 255, 2536), (2536, .aload_n 2, 2537), (2537, .aload_n 0, 2538), (2538, .iload 4, 2540), (2540, .iconst 1, 2541), (2541, .iadd, 2542)] : List (Nat × Instr × Nat)).all (fun q => decide (pm_code 361 q.1 = some q.2)) = true := by decide +kernel
theorem c361_2478 : pm_code 361 2478 = some (.iconst 0, 2479) := pm_of cl361_38 0 (q := (2478, .iconst 0, 2479)) rfl
theorem c361_2479 : pm_code 361 2479 = some (.ireturn, 2480) := pm_of cl361_38 1 (q := (2479, .ireturn, 2480)) rfl
theorem c361_2480 : pm_code 361 2480 = some (.iload 5, 2482) := pm_of cl361_38 2 (q := (2480, .iload 5, 2482)) rfl
theorem c361_2482 : pm_code 361 2482 = some (.ifCond .ne 15, 2485) := pm_of cl361_38 3 (q := (2482, .ifCond .ne 15, 2485)) rfl
theorem c361_2485 : pm_code 361 2485 = some (.aload_n 3, 2486) := pm_of cl361_38 4 (q := (2485, .aload_n 3, 2486)) rfl
theorem c361_2486 : pm_code 361 2486 = some (.iconst 0, 2487) := pm_of cl361_38 5 (q := (2486, .iconst 0, 2487)) rfl
theorem c361_2487 : pm_code 361 2487 = some (.laload, 2488) := pm_of cl361_38 6 (q := (2487, .laload, 2488)) rfl
theorem c361_2488 : pm_code 361 2488 = some (.iload 6, 2490) := pm_of cl361_38 7 (q := (2488, .iload 6, 2490)) rfl
theorem c361_2490 : pm_code 361 2490 = some (.i2l, 2491) := pm_of cl361_38 8 (q := (2490, .i2l, 2491)) rfl
theorem c361_2491 : pm_code 361 2491 = some (.lcmp, 2492) := pm_of cl361_38 9 (q := (2491, .lcmp, 2492)) rfl
theorem c361_2492 : pm_code 361 2492 = some (.ifCond .eq 5, 2495) := pm_of cl361_38 10 (q := (2492, .ifCond .eq 5, 2495)) rfl
theorem c361_2495 : pm_code 361 2495 = some (.iconst 0, 2496) := pm_of cl361_38 11 (q := (2495, .iconst 0, 2496)) rfl
theorem c361_2496 : pm_code 361 2496 = some (.ireturn, 2497) := pm_of cl361_38 12 (q := (2496, .ireturn, 2497)) rfl
theorem c361_2497 : pm_code 361 2497 = some (.goto 79, 2500) := pm_of cl361_38 13 (q := (2497, .goto 79, 2500)) rfl
theorem c361_2500 : pm_code 361 2500 = some (.aload_n 1, 2501) := pm_of cl361_38 14 (q := (2500, .aload_n 1, 2501)) rfl
theorem c361_2501 : pm_code 361 2501 = some (.invokevirtual 247, 2504) := pm_of cl361_38 15 (q := (2501, .invokevirtual 247, 2504)) rfl
theorem c361_2504 : pm_code 361 2504 = some (.aload_n 2, 2505) := pm_of cl361_38 16 (q := (2504, .aload_n 2, 2505)) rfl
theorem c361_2505 : pm_code 361 2505 = some (.invokevirtual 250, 2508) := pm_of cl361_38 17 (q := (2505, .invokevirtual 250, 2508)) rfl
theorem c361_2508 : pm_code 361 2508 = some (.if_icmp .eq 68, 2511) := pm_of cl361_38 18 (q := (2508, .if_icmp .eq 68, 2511)) rfl
theorem c361_2511 : pm_code 361 2511 = some (.iconst 0, 2512) := pm_of cl361_38 19 (q := (2511, .iconst 0, 2512)) rfl
theorem c361_2512 : pm_code 361 2512 = some (.ireturn, 2513) := pm_of cl361_38 20 (q := (2512, .ireturn, 2513)) rfl
theorem c361_2513 : pm_code 361 2513 = some (.aload_n 1, 2514) := pm_of cl361_38 21 (q := (2513, .aload_n 1, 2514)) rfl
theorem c361_2514 : pm_code 361 2514 = some (.invokevirtual 251, 2517) := pm_of cl361_38 22 (q := (2514, .invokevirtual 251, 2517)) rfl
theorem c361_2517 : pm_code 361 2517 = some (.aload_n 2, 2518) := pm_of cl361_38 23 (q := (2517, .aload_n 2, 2518)) rfl
theorem c361_2518 : pm_code 361 2518 = some (.invokevirtual 254, 2521) := pm_of cl361_38 24 (q := (2518, .invokevirtual 254, 2521)) rfl
theorem c361_2521 : pm_code 361 2521 = some (.if_icmp .eq 55, 2524) := pm_of cl361_38 25 (q := (2521, .if_icmp .eq 55, 2524)) rfl
theorem c361_2524 : pm_code 361 2524 = some (.iconst 0, 2525) := pm_of cl361_38 26 (q := (2524, .iconst 0, 2525)) rfl
theorem c361_2525 : pm_code 361 2525 = some (.ireturn, 2526) := pm_of cl361_38 27 (q := (2525, .ireturn, 2526)) rfl
theorem c361_2526 : pm_code 361 2526 = some (.aload_n 1, 2527) := pm_of cl361_38 28 (q := (2526, .aload_n 1, 2527)) rfl
theorem c361_2527 : pm_code 361 2527 = some (.aload_n 0, 2528) := pm_of cl361_38 29 (q := (2527, .aload_n 0, 2528)) rfl
theorem c361_2528 : pm_code 361 2528 = some (.iload 4, 2530) := pm_of cl361_38 30 (q := (2528, .iload 4, 2530)) rfl
theorem c361_2530 : pm_code 361 2530 = some (.iconst 1, 2531) := pm_of cl361_38 31 (q := (2530, .iconst 1, 2531)) rfl
theorem c361_2531 : pm_code 361 2531 = some (.iadd, 2532) := pm_of cl361_38 32 (q := (2531, .iadd, 2532)) rfl
theorem c361_2532 : pm_code 361 2532 = some (.iaload, 2533) := pm_of cl361_38 33 (q := (2532, .iaload, 2533)) rfl
theorem c361_2533 : pm_code 361 2533 = some (.invokevirtual 255, 2536) := pm_of cl361_38 34 (q := (2533, .invokevirtual 255, 2536)) rfl
theorem c361_2536 : pm_code 361 2536 = some (.aload_n 2, 2537) := pm_of cl361_38 35 (q := (2536, .aload_n 2, 2537)) rfl
theorem c361_2537 : pm_code 361 2537 = some (.aload_n 0, 2538) := pm_of cl361_38 36 (q := (2537, .aload_n 0, 2538)) rfl
theorem c361_2538 : pm_code 361 2538 = some (.iload 4, 2540) := pm_of cl361_38 37 (q := (2538, .iload 4, 2540)) rfl
theorem c361_2540 : pm_code 361 2540 = some (.iconst 1, 2541) := pm_of cl361_38 38 (q := (2540, .iconst 1, 2541)) rfl
theorem c361_2541 : pm_code 361 2541 = some (.iadd, 2542) := pm_of cl361_38 39 (q := (2541, .iadd, 2542)) rfl
theorem cl361_39 : ([(2542, .iaload, 2543), (2543, .invokevirtual 258, 2546), (2546, .if_icmp .eq 30, 2549), (2549, .iconst 0, 2550), (2550, .ireturn, 2551), (2551, .aload_n 1, 2552), (2552, .aload_n 0, 2553), (2553, .iload 4, 2555), (2555, .iconst 1, 2556), (2556, .iadd, 2557), (2557, .iaload, 2558), (2558, .invokevirtual 259, 2561), (2561, .aload_n 2, 2562), (2562, .aload_n 0, 2563), (2563, .iload 4, 2565), (2565, .iconst 1, 2566), (2566, .iadd, 2567), (2567, .iaload, 2568), (2568, .invokevirtual 262, 2571), (2571, .if_icmp .eq 5, 2574), (2574, .iconst 0, 2575), (2575, .ireturn, 2576), (2576, .iinc 4 7, 2579), (2579, .goto (-2556), 2582), (2582, .iconst 1, 2583), (2583, .ireturn, 2584)] : List (Nat × Instr × Nat)).all (fun q => decide (pm_code 361 q.1 = some q.2)) = true := by decide +kernel
theorem c361_2542 : pm_code 361 2542 = some (.iaload, 2543) := pm_of cl361_39 0 (q := (2542, .iaload, 2543)) rfl
theorem c361_2543 : pm_code 361 2543 = some (.invokevirtual 258, 2546) := pm_of cl361_39 1 (q := (2543, .invokevirtual 258, 2546)) rfl
theorem c361_2546 : pm_code 361 2546 = some (.if_icmp .eq 30, 2549) := pm_of cl361_39 2 (q := (2546, .if_icmp .eq 30, 2549)) rfl
theorem c361_2549 : pm_code 361 2549 = some (.iconst 0, 2550) := pm_of cl361_39 3 (q := (2549, .iconst 0, 2550)) rfl
theorem c361_2550 : pm_code 361 2550 = some (.ireturn, 2551) := pm_of cl361_39 4 (q := (2550, .ireturn, 2551)) rfl
theorem c361_2551 : pm_code 361 2551 = some (.aload_n 1, 2552) := pm_of cl361_39 5 (q := (2551, .aload_n 1, 2552)) rfl
theorem c361_2552 : pm_code 361 2552 = some (.aload_n 0, 2553) := pm_of cl361_39 6 (q := (2552, .aload_n 0, 2553)) rfl
theorem c361_2553 : pm_code 361 2553 = some (.iload 4, 2555) := pm_of cl361_39 7 (q := (2553, .iload 4, 2555)) rfl
theorem c361_2555 : pm_code 361 2555 = some (.iconst 1, 2556) := pm_of cl361_39 8 (q := (2555, .iconst 1, 2556)) rfl
theorem c361_2556 : pm_code 361 2556 = some (.iadd, 2557) := pm_of cl361_39 9 (q := (2556, .iadd, 2557)) rfl
theorem c361_2557 : pm_code 361 2557 = some (.iaload, 2558) := pm_of cl361_39 10 (q := (2557, .iaload, 2558)) rfl
theorem c361_2558 : pm_code 361 2558 = some (.invokevirtual 259, 2561) := pm_of cl361_39 11 (q := (2558, .invokevirtual 259, 2561)) rfl
theorem c361_2561 : pm_code 361 2561 = some (.aload_n 2, 2562) := pm_of cl361_39 12 (q := (2561, .aload_n 2, 2562)) rfl
theorem c361_2562 : pm_code 361 2562 = some (.aload_n 0, 2563) := pm_of cl361_39 13 (q := (2562, .aload_n 0, 2563)) rfl
theorem c361_2563 : pm_code 361 2563 = some (.iload 4, 2565) := pm_of cl361_39 14 (q := (2563, .iload 4, 2565)) rfl
theorem c361_2565 : pm_code 361 2565 = some (.iconst 1, 2566) := pm_of cl361_39 15 (q := (2565, .iconst 1, 2566)) rfl
theorem c361_2566 : pm_code 361 2566 = some (.iadd, 2567) := pm_of cl361_39 16 (q := (2566, .iadd, 2567)) rfl
theorem c361_2567 : pm_code 361 2567 = some (.iaload, 2568) := pm_of cl361_39 17 (q := (2567, .iaload, 2568)) rfl
theorem c361_2568 : pm_code 361 2568 = some (.invokevirtual 262, 2571) := pm_of cl361_39 18 (q := (2568, .invokevirtual 262, 2571)) rfl
theorem c361_2571 : pm_code 361 2571 = some (.if_icmp .eq 5, 2574) := pm_of cl361_39 19 (q := (2571, .if_icmp .eq 5, 2574)) rfl
theorem c361_2574 : pm_code 361 2574 = some (.iconst 0, 2575) := pm_of cl361_39 20 (q := (2574, .iconst 0, 2575)) rfl
theorem c361_2575 : pm_code 361 2575 = some (.ireturn, 2576) := pm_of cl361_39 21 (q := (2575, .ireturn, 2576)) rfl
theorem c361_2576 : pm_code 361 2576 = some (.iinc 4 7, 2579) := pm_of cl361_39 22 (q := (2576, .iinc 4 7, 2579)) rfl
theorem c361_2579 : pm_code 361 2579 = some (.goto (-2556), 2582) := pm_of cl361_39 23 (q := (2579, .goto (-2556), 2582)) rfl
theorem c361_2582 : pm_code 361 2582 = some (.iconst 1, 2583) := pm_of cl361_39 24 (q := (2582, .iconst 1, 2583)) rfl
theorem c361_2583 : pm_code 361 2583 = some (.ireturn, 2584) := pm_of cl361_39 25 (q := (2583, .ireturn, 2584)) rfl

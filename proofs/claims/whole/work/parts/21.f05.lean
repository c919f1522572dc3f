/-! THE METHODS AS FUNCTIONS OF THE MEMORY (written by dec.py) -/
def f207_L  : Nat → Nat → Int32 → Int32 → Int32 → Int32 → Int32 → Int32 → Int32 → Int32 → Int32 → (Nat → Nat → Int32) → (Nat → Nat → Int64) → Option ((Int32 ⊕ Nat) × (Nat → Nat → Int32) × (Nat → Nat → Int64))
  | 0, _, _, _, _, _, _, _, _, _, _, _, _ => none
  | fu + 1, 0, y1, y2, y3, y4, y5, y6, y7, y8, _, I, J => (if y1.toInt < y8.toInt then (if y4 = 0 then some (.inl y5, I, J) else if y4 = 1 then some (.inl y6, I, J) else some (.inl y7, I, J)) else f207_L fu 1 y1 y2 y3 y4 y5 y6 y7 y8 0 I J)
  | fu + 1, _ + 1, y1, y2, y3, y4, y5, y6, y7, y8, y9, I, J => (if y1.toInt < y9.toInt then f207_L fu 0 y1 y2 y3 y4 y5 y6 y7 (y8 + 1) 0 I J else (if (v208 y8 y9 y2 I).toInt < (v209 y1 y9 y2 I).toInt then f207_L fu 1 y1 y2 y3 y4 y5 y6 y7 y8 (y9 + 1) I J else (if (v208 y9 y8 y3 I).toInt < (v209 y1 y8 y3 I).toInt then f207_L fu 1 y1 y2 y3 y4 y5 y6 y7 y8 (y9 + 1) I J else (if y5 = 0 then f207_L fu 1 y1 y2 y3 y4 (y5 + 1) ((100 * y8) + y9) ((v208 y8 y9 y2 I) + (v208 y9 y8 y3 I)) y8 (y9 + 1) I J else f207_L fu 1 y1 y2 y3 y4 (y5 + 1) y6 y7 y8 (y9 + 1) I J))))
def f207 (x1 : Int32) (x2 : Int32) (x3 : Int32) (x4 : Int32) (I : Nat → Nat → Int32) (J : Nat → Nat → Int64) : Option ((Int32 ⊕ Nat) × (Nat → Nat → Int32) × (Nat → Nat → Int64)) := (if x1.toInt < 0 then pm_xb (f174 0 I J) (fun ov2 I3 J4 => (if x2.toInt < 0 then pm_xb (f174 0 I3 J4) (fun ov8 I9 J10 => (if x3.toInt < 0 then pm_xb (f174 0 I9 J10) (fun ov14 I15 J16 => (if x4.toInt < 0 then pm_xb (f174 0 I15 J16) (fun ov20 I21 J22 => f207_L pm_FU 0 x1 x2 x3 x4 0 (-1) 0 0 0 I21 J22) else (if (2 : Int32).toInt < x4.toInt then pm_xb (f174 0 I15 J16) (fun ov26 I27 J28 => f207_L pm_FU 0 x1 x2 x3 x4 0 (-1) 0 0 0 I27 J28) else pm_xb (f174 1 I15 J16) (fun ov31 I32 J33 => f207_L pm_FU 0 x1 x2 x3 x4 0 (-1) 0 0 0 I32 J33)))) else (if (99 : Int32).toInt < x3.toInt then pm_xb (f174 0 I9 J10) (fun ov37 I38 J39 => (if x4.toInt < 0 then pm_xb (f174 0 I38 J39) (fun ov43 I44 J45 => f207_L pm_FU 0 x1 x2 x3 x4 0 (-1) 0 0 0 I44 J45) else (if (2 : Int32).toInt < x4.toInt then pm_xb (f174 0 I38 J39) (fun ov49 I50 J51 => f207_L pm_FU 0 x1 x2 x3 x4 0 (-1) 0 0 0 I50 J51) else pm_xb (f174 1 I38 J39) (fun ov54 I55 J56 => f207_L pm_FU 0 x1 x2 x3 x4 0 (-1) 0 0 0 I55 J56)))) else pm_xb (f174 1 I9 J10) (fun ov59 I60 J61 => (if x4.toInt < 0 then pm_xb (f174 0 I60 J61) (fun ov65 I66 J67 => f207_L pm_FU 0 x1 x2 x3 x4 0 (-1) 0 0 0 I66 J67) else (if (2 : Int32).toInt < x4.toInt then pm_xb (f174 0 I60 J61) (fun ov71 I72 J73 => f207_L pm_FU 0 x1 x2 x3 x4 0 (-1) 0 0 0 I72 J73) else pm_xb (f174 1 I60 J61) (fun ov76 I77 J78 => f207_L pm_FU 0 x1 x2 x3 x4 0 (-1) 0 0 0 I77 J78))))))) else (if (99 : Int32).toInt < x2.toInt then pm_xb (f174 0 I3 J4) (fun ov82 I83 J84 => (if x3.toInt < 0 then pm_xb (f174 0 I83 J84) (fun ov88 I89 J90 => (if x4.toInt < 0 then pm_xb (f174 0 I89 J90) (fun ov94 I95 J96 => f207_L pm_FU 0 x1 x2 x3 x4 0 (-1) 0 0 0 I95 J96) else (if (2 : Int32).toInt < x4.toInt then pm_xb (f174 0 I89 J90) (fun ov100 I101 J102 => f207_L pm_FU 0 x1 x2 x3 x4 0 (-1) 0 0 0 I101 J102) else pm_xb (f174 1 I89 J90) (fun ov105 I106 J107 => f207_L pm_FU 0 x1 x2 x3 x4 0 (-1) 0 0 0 I106 J107)))) else (if (99 : Int32).toInt < x3.toInt then pm_xb (f174 0 I83 J84) (fun ov111 I112 J113 => (if x4.toInt < 0 then pm_xb (f174 0 I112 J113) (fun ov117 I118 J119 => f207_L pm_FU 0 x1 x2 x3 x4 0 (-1) 0 0 0 I118 J119) else (if (2 : Int32).toInt < x4.toInt then pm_xb (f174 0 I112 J113) (fun ov123 I124 J125 => f207_L pm_FU 0 x1 x2 x3 x4 0 (-1) 0 0 0 I124 J125) else pm_xb (f174 1 I112 J113) (fun ov128 I129 J130 => f207_L pm_FU 0 x1 x2 x3 x4 0 (-1) 0 0 0 I129 J130)))) else pm_xb (f174 1 I83 J84) (fun ov133 I134 J135 => (if x4.toInt < 0 then pm_xb (f174 0 I134 J135) (fun ov139 I140 J141 => f207_L pm_FU 0 x1 x2 x3 x4 0 (-1) 0 0 0 I140 J141) else (if (2 : Int32).toInt < x4.toInt then pm_xb (f174 0 I134 J135) (fun ov145 I146 J147 => f207_L pm_FU 0 x1 x2 x3 x4 0 (-1) 0 0 0 I146 J147) else pm_xb (f174 1 I134 J135) (fun ov150 I151 J152 => f207_L pm_FU 0 x1 x2 x3 x4 0 (-1) 0 0 0 I151 J152))))))) else pm_xb (f174 1 I3 J4) (fun ov155 I156 J157 => (if x3.toInt < 0 then pm_xb (f174 0 I156 J157) (fun ov161 I162 J163 => (if x4.toInt < 0 then pm_xb (f174 0 I162 J163) (fun ov167 I168 J169 => f207_L pm_FU 0 x1 x2 x3 x4 0 (-1) 0 0 0 I168 J169) else (if (2 : Int32).toInt < x4.toInt then pm_xb (f174 0 I162 J163) (fun ov173 I174 J175 => f207_L pm_FU 0 x1 x2 x3 x4 0 (-1) 0 0 0 I174 J175) else pm_xb (f174 1 I162 J163) (fun ov178 I179 J180 => f207_L pm_FU 0 x1 x2 x3 x4 0 (-1) 0 0 0 I179 J180)))) else (if (99 : Int32).toInt < x3.toInt then pm_xb (f174 0 I156 J157) (fun ov184 I185 J186 => (if x4.toInt < 0 then pm_xb (f174 0 I185 J186) (fun ov190 I191 J192 => f207_L pm_FU 0 x1 x2 x3 x4 0 (-1) 0 0 0 I191 J192) else (if (2 : Int32).toInt < x4.toInt then pm_xb (f174 0 I185 J186) (fun ov196 I197 J198 => f207_L pm_FU 0 x1 x2 x3 x4 0 (-1) 0 0 0 I197 J198) else pm_xb (f174 1 I185 J186) (fun ov201 I202 J203 => f207_L pm_FU 0 x1 x2 x3 x4 0 (-1) 0 0 0 I202 J203)))) else pm_xb (f174 1 I156 J157) (fun ov206 I207 J208 => (if x4.toInt < 0 then pm_xb (f174 0 I207 J208) (fun ov212 I213 J214 => f207_L pm_FU 0 x1 x2 x3 x4 0 (-1) 0 0 0 I213 J214) else (if (2 : Int32).toInt < x4.toInt then pm_xb (f174 0 I207 J208) (fun ov218 I219 J220 => f207_L pm_FU 0 x1 x2 x3 x4 0 (-1) 0 0 0 I219 J220) else pm_xb (f174 1 I207 J208) (fun ov223 I224 J225 => f207_L pm_FU 0 x1 x2 x3 x4 0 (-1) 0 0 0 I224 J225)))))))))) else (if (20 : Int32).toInt < x1.toInt then pm_xb (f174 0 I J) (fun ov229 I230 J231 => (if x2.toInt < 0 then pm_xb (f174 0 I230 J231) (fun ov235 I236 J237 => (if x3.toInt < 0 then pm_xb (f174 0 I236 J237) (fun ov241 I242 J243 => (if x4.toInt < 0 then pm_xb (f174 0 I242 J243) (fun ov247 I248 J249 => f207_L pm_FU 0 x1 x2 x3 x4 0 (-1) 0 0 0 I248 J249) else (if (2 : Int32).toInt < x4.toInt then pm_xb (f174 0 I242 J243) (fun ov253 I254 J255 => f207_L pm_FU 0 x1 x2 x3 x4 0 (-1) 0 0 0 I254 J255) else pm_xb (f174 1 I242 J243) (fun ov258 I259 J260 => f207_L pm_FU 0 x1 x2 x3 x4 0 (-1) 0 0 0 I259 J260)))) else (if (99 : Int32).toInt < x3.toInt then pm_xb (f174 0 I236 J237) (fun ov264 I265 J266 => (if x4.toInt < 0 then pm_xb (f174 0 I265 J266) (fun ov270 I271 J272 => f207_L pm_FU 0 x1 x2 x3 x4 0 (-1) 0 0 0 I271 J272) else (if (2 : Int32).toInt < x4.toInt then pm_xb (f174 0 I265 J266) (fun ov276 I277 J278 => f207_L pm_FU 0 x1 x2 x3 x4 0 (-1) 0 0 0 I277 J278) else pm_xb (f174 1 I265 J266) (fun ov281 I282 J283 => f207_L pm_FU 0 x1 x2 x3 x4 0 (-1) 0 0 0 I282 J283)))) else pm_xb (f174 1 I236 J237) (fun ov286 I287 J288 => (if x4.toInt < 0 then pm_xb (f174 0 I287 J288) (fun ov292 I293 J294 => f207_L pm_FU 0 x1 x2 x3 x4 0 (-1) 0 0 0 I293 J294) else (if (2 : Int32).toInt < x4.toInt then pm_xb (f174 0 I287 J288) (fun ov298 I299 J300 => f207_L pm_FU 0 x1 x2 x3 x4 0 (-1) 0 0 0 I299 J300) else pm_xb (f174 1 I287 J288) (fun ov303 I304 J305 => f207_L pm_FU 0 x1 x2 x3 x4 0 (-1) 0 0 0 I304 J305))))))) else (if (99 : Int32).toInt < x2.toInt then pm_xb (f174 0 I230 J231) (fun ov309 I310 J311 => (if x3.toInt < 0 then pm_xb (f174 0 I310 J311) (fun ov315 I316 J317 => (if x4.toInt < 0 then pm_xb (f174 0 I316 J317) (fun ov321 I322 J323 => f207_L pm_FU 0 x1 x2 x3 x4 0 (-1) 0 0 0 I322 J323) else (if (2 : Int32).toInt < x4.toInt then pm_xb (f174 0 I316 J317) (fun ov327 I328 J329 => f207_L pm_FU 0 x1 x2 x3 x4 0 (-1) 0 0 0 I328 J329) else pm_xb (f174 1 I316 J317) (fun ov332 I333 J334 => f207_L pm_FU 0 x1 x2 x3 x4 0 (-1) 0 0 0 I333 J334)))) else (if (99 : Int32).toInt < x3.toInt then pm_xb (f174 0 I310 J311) (fun ov338 I339 J340 => (if x4.toInt < 0 then pm_xb (f174 0 I339 J340) (fun ov344 I345 J346 => f207_L pm_FU 0 x1 x2 x3 x4 0 (-1) 0 0 0 I345 J346) else (if (2 : Int32).toInt < x4.toInt then pm_xb (f174 0 I339 J340) (fun ov350 I351 J352 => f207_L pm_FU 0 x1 x2 x3 x4 0 (-1) 0 0 0 I351 J352) else pm_xb (f174 1 I339 J340) (fun ov355 I356 J357 => f207_L pm_FU 0 x1 x2 x3 x4 0 (-1) 0 0 0 I356 J357)))) else pm_xb (f174 1 I310 J311) (fun ov360 I361 J362 => (if x4.toInt < 0 then pm_xb (f174 0 I361 J362) (fun ov366 I367 J368 => f207_L pm_FU 0 x1 x2 x3 x4 0 (-1) 0 0 0 I367 J368) else (if (2 : Int32).toInt < x4.toInt then pm_xb (f174 0 I361 J362) (fun ov372 I373 J374 => f207_L pm_FU 0 x1 x2 x3 x4 0 (-1) 0 0 0 I373 J374) else pm_xb (f174 1 I361 J362) (fun ov377 I378 J379 => f207_L pm_FU 0 x1 x2 x3 x4 0 (-1) 0 0 0 I378 J379))))))) else pm_xb (f174 1 I230 J231) (fun ov382 I383 J384 => (if x3.toInt < 0 then pm_xb (f174 0 I383 J384) (fun ov388 I389 J390 => (if x4.toInt < 0 then pm_xb (f174 0 I389 J390) (fun ov394 I395 J396 => f207_L pm_FU 0 x1 x2 x3 x4 0 (-1) 0 0 0 I395 J396) else (if (2 : Int32).toInt < x4.toInt then pm_xb (f174 0 I389 J390) (fun ov400 I401 J402 => f207_L pm_FU 0 x1 x2 x3 x4 0 (-1) 0 0 0 I401 J402) else pm_xb (f174 1 I389 J390) (fun ov405 I406 J407 => f207_L pm_FU 0 x1 x2 x3 x4 0 (-1) 0 0 0 I406 J407)))) else (if (99 : Int32).toInt < x3.toInt then pm_xb (f174 0 I383 J384) (fun ov411 I412 J413 => (if x4.toInt < 0 then pm_xb (f174 0 I412 J413) (fun ov417 I418 J419 => f207_L pm_FU 0 x1 x2 x3 x4 0 (-1) 0 0 0 I418 J419) else (if (2 : Int32).toInt < x4.toInt then pm_xb (f174 0 I412 J413) (fun ov423 I424 J425 => f207_L pm_FU 0 x1 x2 x3 x4 0 (-1) 0 0 0 I424 J425) else pm_xb (f174 1 I412 J413) (fun ov428 I429 J430 => f207_L pm_FU 0 x1 x2 x3 x4 0 (-1) 0 0 0 I429 J430)))) else pm_xb (f174 1 I383 J384) (fun ov433 I434 J435 => (if x4.toInt < 0 then pm_xb (f174 0 I434 J435) (fun ov439 I440 J441 => f207_L pm_FU 0 x1 x2 x3 x4 0 (-1) 0 0 0 I440 J441) else (if (2 : Int32).toInt < x4.toInt then pm_xb (f174 0 I434 J435) (fun ov445 I446 J447 => f207_L pm_FU 0 x1 x2 x3 x4 0 (-1) 0 0 0 I446 J447) else pm_xb (f174 1 I434 J435) (fun ov450 I451 J452 => f207_L pm_FU 0 x1 x2 x3 x4 0 (-1) 0 0 0 I451 J452)))))))))) else pm_xb (f174 1 I J) (fun ov455 I456 J457 => (if x2.toInt < 0 then pm_xb (f174 0 I456 J457) (fun ov461 I462 J463 => (if x3.toInt < 0 then pm_xb (f174 0 I462 J463) (fun ov467 I468 J469 => (if x4.toInt < 0 then pm_xb (f174 0 I468 J469) (fun ov473 I474 J475 => f207_L pm_FU 0 x1 x2 x3 x4 0 (-1) 0 0 0 I474 J475) else (if (2 : Int32).toInt < x4.toInt then pm_xb (f174 0 I468 J469) (fun ov479 I480 J481 => f207_L pm_FU 0 x1 x2 x3 x4 0 (-1) 0 0 0 I480 J481) else pm_xb (f174 1 I468 J469) (fun ov484 I485 J486 => f207_L pm_FU 0 x1 x2 x3 x4 0 (-1) 0 0 0 I485 J486)))) else (if (99 : Int32).toInt < x3.toInt then pm_xb (f174 0 I462 J463) (fun ov490 I491 J492 => (if x4.toInt < 0 then pm_xb (f174 0 I491 J492) (fun ov496 I497 J498 => f207_L pm_FU 0 x1 x2 x3 x4 0 (-1) 0 0 0 I497 J498) else (if (2 : Int32).toInt < x4.toInt then pm_xb (f174 0 I491 J492) (fun ov502 I503 J504 => f207_L pm_FU 0 x1 x2 x3 x4 0 (-1) 0 0 0 I503 J504) else pm_xb (f174 1 I491 J492) (fun ov507 I508 J509 => f207_L pm_FU 0 x1 x2 x3 x4 0 (-1) 0 0 0 I508 J509)))) else pm_xb (f174 1 I462 J463) (fun ov512 I513 J514 => (if x4.toInt < 0 then pm_xb (f174 0 I513 J514) (fun ov518 I519 J520 => f207_L pm_FU 0 x1 x2 x3 x4 0 (-1) 0 0 0 I519 J520) else (if (2 : Int32).toInt < x4.toInt then pm_xb (f174 0 I513 J514) (fun ov524 I525 J526 => f207_L pm_FU 0 x1 x2 x3 x4 0 (-1) 0 0 0 I525 J526) else pm_xb (f174 1 I513 J514) (fun ov529 I530 J531 => f207_L pm_FU 0 x1 x2 x3 x4 0 (-1) 0 0 0 I530 J531))))))) else (if (99 : Int32).toInt < x2.toInt then pm_xb (f174 0 I456 J457) (fun ov535 I536 J537 => (if x3.toInt < 0 then pm_xb (f174 0 I536 J537) (fun ov541 I542 J543 => (if x4.toInt < 0 then pm_xb (f174 0 I542 J543) (fun ov547 I548 J549 => f207_L pm_FU 0 x1 x2 x3 x4 0 (-1) 0 0 0 I548 J549) else (if (2 : Int32).toInt < x4.toInt then pm_xb (f174 0 I542 J543) (fun ov553 I554 J555 => f207_L pm_FU 0 x1 x2 x3 x4 0 (-1) 0 0 0 I554 J555) else pm_xb (f174 1 I542 J543) (fun ov558 I559 J560 => f207_L pm_FU 0 x1 x2 x3 x4 0 (-1) 0 0 0 I559 J560)))) else (if (99 : Int32).toInt < x3.toInt then pm_xb (f174 0 I536 J537) (fun ov564 I565 J566 => (if x4.toInt < 0 then pm_xb (f174 0 I565 J566) (fun ov570 I571 J572 => f207_L pm_FU 0 x1 x2 x3 x4 0 (-1) 0 0 0 I571 J572) else (if (2 : Int32).toInt < x4.toInt then pm_xb (f174 0 I565 J566) (fun ov576 I577 J578 => f207_L pm_FU 0 x1 x2 x3 x4 0 (-1) 0 0 0 I577 J578) else pm_xb (f174 1 I565 J566) (fun ov581 I582 J583 => f207_L pm_FU 0 x1 x2 x3 x4 0 (-1) 0 0 0 I582 J583)))) else pm_xb (f174 1 I536 J537) (fun ov586 I587 J588 => (if x4.toInt < 0 then pm_xb (f174 0 I587 J588) (fun ov592 I593 J594 => f207_L pm_FU 0 x1 x2 x3 x4 0 (-1) 0 0 0 I593 J594) else (if (2 : Int32).toInt < x4.toInt then pm_xb (f174 0 I587 J588) (fun ov598 I599 J600 => f207_L pm_FU 0 x1 x2 x3 x4 0 (-1) 0 0 0 I599 J600) else pm_xb (f174 1 I587 J588) (fun ov603 I604 J605 => f207_L pm_FU 0 x1 x2 x3 x4 0 (-1) 0 0 0 I604 J605))))))) else pm_xb (f174 1 I456 J457) (fun ov608 I609 J610 => (if x3.toInt < 0 then pm_xb (f174 0 I609 J610) (fun ov614 I615 J616 => (if x4.toInt < 0 then pm_xb (f174 0 I615 J616) (fun ov620 I621 J622 => f207_L pm_FU 0 x1 x2 x3 x4 0 (-1) 0 0 0 I621 J622) else (if (2 : Int32).toInt < x4.toInt then pm_xb (f174 0 I615 J616) (fun ov626 I627 J628 => f207_L pm_FU 0 x1 x2 x3 x4 0 (-1) 0 0 0 I627 J628) else pm_xb (f174 1 I615 J616) (fun ov631 I632 J633 => f207_L pm_FU 0 x1 x2 x3 x4 0 (-1) 0 0 0 I632 J633)))) else (if (99 : Int32).toInt < x3.toInt then pm_xb (f174 0 I609 J610) (fun ov637 I638 J639 => (if x4.toInt < 0 then pm_xb (f174 0 I638 J639) (fun ov643 I644 J645 => f207_L pm_FU 0 x1 x2 x3 x4 0 (-1) 0 0 0 I644 J645) else (if (2 : Int32).toInt < x4.toInt then pm_xb (f174 0 I638 J639) (fun ov649 I650 J651 => f207_L pm_FU 0 x1 x2 x3 x4 0 (-1) 0 0 0 I650 J651) else pm_xb (f174 1 I638 J639) (fun ov654 I655 J656 => f207_L pm_FU 0 x1 x2 x3 x4 0 (-1) 0 0 0 I655 J656)))) else pm_xb (f174 1 I609 J610) (fun ov659 I660 J661 => (if x4.toInt < 0 then pm_xb (f174 0 I660 J661) (fun ov665 I666 J667 => f207_L pm_FU 0 x1 x2 x3 x4 0 (-1) 0 0 0 I666 J667) else (if (2 : Int32).toInt < x4.toInt then pm_xb (f174 0 I660 J661) (fun ov671 I672 J673 => f207_L pm_FU 0 x1 x2 x3 x4 0 (-1) 0 0 0 I672 J673) else pm_xb (f174 1 I660 J661) (fun ov676 I677 J678 => f207_L pm_FU 0 x1 x2 x3 x4 0 (-1) 0 0 0 I677 J678))))))))))))
theorem d207_L {X : (Nat → Int32) × Nat} {d : Nat} {P : Nat → Nat → Value} {e r k r2 k2 : Nat}  (hw : pm_W P r k r2 k2) (he : e < 100000)  : ∀ fu : Nat, (∀ {y1 y2 y3 y4 y5 y6 y7 y8 : Int32} {I : Nat → Nat → Int32} {J : Nat → Nat → Int64} {q : (Int32 ⊕ Nat) × (Nat → Nat → Int32) × (Nat → Nat → Int64)} {z0 : Value} {z9 : Value} {z10 : Value} {z11 : Value} (h : f207_L fu 0 y1 y2 y3 y4 y5 y6 y7 y8 0 I J = some q), pm_Fx X (d + 2) 207 89 [z0, .int y1, .int y2, .int y3, .int y4, .int y5, .int y6, .int y7, .int y8, z9, z10, z11] [] (I, J, P, pm_T0, e) (pm_sI q.1) (q.2.1, q.2.2, P, pm_T0, pm_sE q.1 e)) ∧ (∀ {y1 y2 y3 y4 y5 y6 y7 y8 y9 : Int32} {I : Nat → Nat → Int32} {J : Nat → Nat → Int64} {q : (Int32 ⊕ Nat) × (Nat → Nat → Int32) × (Nat → Nat → Int64)} {z0 : Value} {z10 : Value} {z11 : Value} (h : f207_L fu 1 y1 y2 y3 y4 y5 y6 y7 y8 y9 I J = some q), pm_Fx X (d + 2) 207 98 [z0, .int y1, .int y2, .int y3, .int y4, .int y5, .int y6, .int y7, .int y8, .int y9, z10, z11] [] (I, J, P, pm_T0, e) (pm_sI q.1) (q.2.1, q.2.2, P, pm_T0, pm_sE q.1 e)) := by
  obtain ⟨hp, hw1, hw2, hw3, hw4, hw5, hw6, hw7, hw8, hw9, hw10, hw11⟩ := id hw
  have hwa := hw5.1
  have hwb := hw6.1
  have hwc := hw7.1
  have hwd := hw8.1
  intro fu
  induction fu with
  | zero => exact ⟨(by intro y1 y2 y3 y4 y5 y6 y7 y8 I J q z0 z9 z10 z11 h; cases h), (by intro y1 y2 y3 y4 y5 y6 y7 y8 y9 I J q z0 z10 z11 h; cases h)⟩
  | succ fu ih =>
    refine ⟨?_, ?_⟩
    · intro y1 y2 y3 y4 y5 y6 y7 y8 I J q z0 z9 z10 z11 h
      rw [f207_L] at h
      refine il8 c207_89 ?_
      refine il1 c207_91 ?_
      refine r_icgt (t := 185) c207_92 rfl (fun h1 => ?_) (fun h1 => ?_)
      · rw [if_pos h1] at h
        refine il4 c207_185 ?_
        by_cases h2 : y4 = 0
        · rw [if_pos h2] at h
          refine r_lk (t := 212) (o := 25) c207_187 (by decide) (by rw [h2]; decide) rfl ?_
          refine il5 c207_212 ?_
          cases h
          exact r_ri c207_214 rt207 rfl rfl
        · rw [if_neg h2] at h
          by_cases h3 : y4 = 1
          · rw [if_pos h3] at h
            refine r_lk (t := 215) (o := 28) c207_187 (by decide) (by rw [h3]; decide) rfl ?_
            refine il6 c207_215 ?_
            cases h
            exact r_ri c207_217 rt207 rfl rfl
          · rw [if_neg h3] at h
            refine r_lk (t := 218) (o := 31) c207_187 (by decide) (pm_lkd y4 [0, 1] (by decide) (by intro v hv; simp only [List.mem_cons, List.not_mem_nil, or_false] at hv; rcases hv with rfl | rfl <;> assumption)) rfl ?_
            refine il7 c207_218 ?_
            cases h
            exact r_ri c207_220 rt207 rfl rfl
      · rw [if_neg (Int.not_lt.mpr h1)] at h
        refine r_ic c207_95 kI0 ?_
        refine is9 c207_96 rfl ?_
        exact ih.2 h
    · intro y1 y2 y3 y4 y5 y6 y7 y8 y9 I J q z0 z10 z11 h
      rw [f207_L] at h
      refine il9 c207_98 ?_
      refine il1 c207_100 ?_
      refine r_icgt (t := 179) c207_101 rfl (fun h4 => ?_) (fun h4 => ?_)
      · rw [if_pos h4] at h
        refine ii8 c207_179 kI1 rfl ?_
        refine r_go (t := 89) c207_182 rfl ?_
        exact ih.1 h
      · rw [if_neg (Int.not_lt.mpr h4)] at h
        refine il8 c207_104 ?_
        refine il9 c207_106 ?_
        refine il2 c207_108 ?_
        refine cv3 q207_109 (d208 hw rfl) rfl ?_
        refine is10 c207_112 rfl ?_
        refine il9 c207_114 ?_
        refine il8 c207_116 ?_
        refine il3 c207_118 ?_
        refine cv3 q207_119 (d208 hw rfl) rfl ?_
        refine is11 c207_122 rfl ?_
        refine il10 c207_124 ?_
        refine il1 c207_126 ?_
        refine il9 c207_127 ?_
        refine il2 c207_129 ?_
        refine cv3 q207_130 (d209 hw rfl) rfl ?_
        refine r_iclt (t := 173) c207_133 rfl (fun h5 => ?_) (fun h5 => ?_)
        · rw [if_pos h5] at h
          refine ii9 c207_173 kI1 rfl ?_
          refine r_go (t := 98) c207_176 rfl ?_
          exact ih.2 h
        · rw [if_neg (Int.not_lt.mpr h5)] at h
          refine il11 c207_136 ?_
          refine il1 c207_138 ?_
          refine il8 c207_139 ?_
          refine il3 c207_141 ?_
          refine cv3 q207_142 (d209 hw rfl) rfl ?_
          refine r_iclt (t := 173) c207_145 rfl (fun h6 => ?_) (fun h6 => ?_)
          · rw [if_pos h6] at h
            refine ii9 c207_173 kI1 rfl ?_
            refine r_go (t := 98) c207_176 rfl ?_
            exact ih.2 h
          · rw [if_neg (Int.not_lt.mpr h6)] at h
            refine il5 c207_148 ?_
            refine r_ifne (t := 170) c207_150 rfl (fun h7 => ?_) (fun h7 => ?_)
            · rw [if_neg h7] at h
              refine ii5 c207_170 kI1 rfl ?_
              refine ii9 c207_173 kI1 rfl ?_
              refine r_go (t := 98) c207_176 rfl ?_
              exact ih.2 h
            · rw [if_pos h7] at h
              refine r_bi c207_153 kB100 ?_
              refine il8 c207_155 ?_
              refine r_imul c207_157 ?_
              refine il9 c207_158 ?_
              refine r_iadd c207_160 ?_
              refine is6 c207_161 rfl ?_
              refine il10 c207_163 ?_
              refine il11 c207_165 ?_
              refine r_iadd c207_167 ?_
              refine is7 c207_168 rfl ?_
              refine ii5 c207_170 kI1 rfl ?_
              refine ii9 c207_173 kI1 rfl ?_
              refine r_go (t := 98) c207_176 rfl ?_
              exact ih.2 h
theorem d207 {X : (Nat → Int32) × Nat} {d : Nat} {I : Nat → Nat → Int32} {J : Nat → Nat → Int64} {P : Nat → Nat → Value} {e r k r2 k2 : Nat} {x1 : Int32} {x2 : Int32} {x3 : Int32} {x4 : Int32} {q : (Int32 ⊕ Nat) × (Nat → Nat → Int32) × (Nat → Nat → Int64)} (hw : pm_W P r k r2 k2) (he : e < 100000)  (h : f207 x1 x2 x3 x4 I J = some q) : pm_Fn X (d + 2) 207 1 [.ref 0, .int x1, .int x2, .int x3, .int x4] (I, J, P, pm_T0, e) (pm_sI q.1) (q.2.1, q.2.2, P, pm_T0, pm_sE q.1 e) := by
  obtain ⟨hp, hw1, hw2, hw3, hw4, hw5, hw6, hw7, hw8, hw9, hw10, hw11⟩ := id hw
  have hwa := hw5.1
  have hwb := hw6.1
  have hwc := hw7.1
  have hwd := hw8.1
  unfold f207 at h
  refine fn_v rc207 (c := 11) (nf := 14) (by first | rfl | assumption) ml207 rfl rfl rfl rfl ?_
  refine al0 c207_0 ?_
  refine il1 c207_1 ?_
  refine r_iflt (t := 15) c207_2 rfl (fun h1 => ?_) (fun h1 => ?_)
  · rw [if_pos h1] at h
    refine r_ic c207_15 kI0 ?_
    rcases pm_xb_sp h with ⟨ot6, I3, J4, e5, rfl⟩ | ⟨ov2, I3, J4, e5, h⟩
    · exact cx2 q207_16 hh207 (μ1 := (I3, J4, P, pm_T0, e + 1)) (d174 hw he e5) rfl
    refine cz2 q207_16 (μ1 := (I3, J4, P, pm_T0, e)) (d174 hw he e5) rfl ?_
    refine al0 c207_19 ?_
    refine il2 c207_20 ?_
    refine r_iflt (t := 34) c207_21 rfl (fun h7 => ?_) (fun h7 => ?_)
    · rw [if_pos h7] at h
      refine r_ic c207_34 kI0 ?_
      rcases pm_xb_sp h with ⟨ot12, I9, J10, e11, rfl⟩ | ⟨ov8, I9, J10, e11, h⟩
      · exact cx2 q207_35 hh207 (μ1 := (I9, J10, P, pm_T0, e + 1)) (d174 hw he e11) rfl
      refine cz2 q207_35 (μ1 := (I9, J10, P, pm_T0, e)) (d174 hw he e11) rfl ?_
      refine al0 c207_38 ?_
      refine il3 c207_39 ?_
      refine r_iflt (t := 53) c207_40 rfl (fun h13 => ?_) (fun h13 => ?_)
      · rw [if_pos h13] at h
        refine r_ic c207_53 kI0 ?_
        rcases pm_xb_sp h with ⟨ot18, I15, J16, e17, rfl⟩ | ⟨ov14, I15, J16, e17, h⟩
        · exact cx2 q207_54 hh207 (μ1 := (I15, J16, P, pm_T0, e + 1)) (d174 hw he e17) rfl
        refine cz2 q207_54 (μ1 := (I15, J16, P, pm_T0, e)) (d174 hw he e17) rfl ?_
        refine al0 c207_57 ?_
        refine il4 c207_58 ?_
        refine r_iflt (t := 73) c207_60 rfl (fun h19 => ?_) (fun h19 => ?_)
        · rw [if_pos h19] at h
          refine r_ic c207_73 kI0 ?_
          rcases pm_xb_sp h with ⟨ot24, I21, J22, e23, rfl⟩ | ⟨ov20, I21, J22, e23, h⟩
          · exact cx2 q207_74 hh207 (μ1 := (I21, J22, P, pm_T0, e + 1)) (d174 hw he e23) rfl
          refine cz2 q207_74 (μ1 := (I21, J22, P, pm_T0, e)) (d174 hw he e23) rfl ?_
          refine r_ic c207_77 kI0 ?_
          refine is5 c207_78 rfl ?_
          refine r_ic c207_80 kIm1 ?_
          refine is6 c207_81 rfl ?_
          refine r_ic c207_83 kI0 ?_
          refine is7 c207_84 rfl ?_
          refine r_ic c207_86 kI0 ?_
          refine is8 c207_87 rfl ?_
          exact (d207_L hw he pm_FU).1 h
        · rw [if_neg (Int.not_lt.mpr h19)] at h
          refine il4 c207_63 ?_
          refine r_ic c207_65 kI2 ?_
          refine r_icgt (t := 73) c207_66 rfl (fun h25 => ?_) (fun h25 => ?_)
          · rw [if_pos h25] at h
            refine r_ic c207_73 kI0 ?_
            rcases pm_xb_sp h with ⟨ot30, I27, J28, e29, rfl⟩ | ⟨ov26, I27, J28, e29, h⟩
            · exact cx2 q207_74 hh207 (μ1 := (I27, J28, P, pm_T0, e + 1)) (d174 hw he e29) rfl
            refine cz2 q207_74 (μ1 := (I27, J28, P, pm_T0, e)) (d174 hw he e29) rfl ?_
            refine r_ic c207_77 kI0 ?_
            refine is5 c207_78 rfl ?_
            refine r_ic c207_80 kIm1 ?_
            refine is6 c207_81 rfl ?_
            refine r_ic c207_83 kI0 ?_
            refine is7 c207_84 rfl ?_
            refine r_ic c207_86 kI0 ?_
            refine is8 c207_87 rfl ?_
            exact (d207_L hw he pm_FU).1 h
          · rw [if_neg (Int.not_lt.mpr h25)] at h
            refine r_ic c207_69 kI1 ?_
            refine r_go (t := 74) c207_70 rfl ?_
            rcases pm_xb_sp h with ⟨ot35, I32, J33, e34, rfl⟩ | ⟨ov31, I32, J33, e34, h⟩
            · exact cx2 q207_74 hh207 (μ1 := (I32, J33, P, pm_T0, e + 1)) (d174 hw he e34) rfl
            refine cz2 q207_74 (μ1 := (I32, J33, P, pm_T0, e)) (d174 hw he e34) rfl ?_
            refine r_ic c207_77 kI0 ?_
            refine is5 c207_78 rfl ?_
            refine r_ic c207_80 kIm1 ?_
            refine is6 c207_81 rfl ?_
            refine r_ic c207_83 kI0 ?_
            refine is7 c207_84 rfl ?_
            refine r_ic c207_86 kI0 ?_
            refine is8 c207_87 rfl ?_
            exact (d207_L hw he pm_FU).1 h
      · rw [if_neg (Int.not_lt.mpr h13)] at h
        refine il3 c207_43 ?_
        refine r_bi c207_44 kB99 ?_
        refine r_icgt (t := 53) c207_46 rfl (fun h36 => ?_) (fun h36 => ?_)
        · rw [if_pos h36] at h
          refine r_ic c207_53 kI0 ?_
          rcases pm_xb_sp h with ⟨ot41, I38, J39, e40, rfl⟩ | ⟨ov37, I38, J39, e40, h⟩
          · exact cx2 q207_54 hh207 (μ1 := (I38, J39, P, pm_T0, e + 1)) (d174 hw he e40) rfl
          refine cz2 q207_54 (μ1 := (I38, J39, P, pm_T0, e)) (d174 hw he e40) rfl ?_
          refine al0 c207_57 ?_
          refine il4 c207_58 ?_
          refine r_iflt (t := 73) c207_60 rfl (fun h42 => ?_) (fun h42 => ?_)
          · rw [if_pos h42] at h
            refine r_ic c207_73 kI0 ?_
            rcases pm_xb_sp h with ⟨ot47, I44, J45, e46, rfl⟩ | ⟨ov43, I44, J45, e46, h⟩
            · exact cx2 q207_74 hh207 (μ1 := (I44, J45, P, pm_T0, e + 1)) (d174 hw he e46) rfl
            refine cz2 q207_74 (μ1 := (I44, J45, P, pm_T0, e)) (d174 hw he e46) rfl ?_
            refine r_ic c207_77 kI0 ?_
            refine is5 c207_78 rfl ?_
            refine r_ic c207_80 kIm1 ?_
            refine is6 c207_81 rfl ?_
            refine r_ic c207_83 kI0 ?_
            refine is7 c207_84 rfl ?_
            refine r_ic c207_86 kI0 ?_
            refine is8 c207_87 rfl ?_
            exact (d207_L hw he pm_FU).1 h
          · rw [if_neg (Int.not_lt.mpr h42)] at h
            refine il4 c207_63 ?_
            refine r_ic c207_65 kI2 ?_
            refine r_icgt (t := 73) c207_66 rfl (fun h48 => ?_) (fun h48 => ?_)
            · rw [if_pos h48] at h
              refine r_ic c207_73 kI0 ?_
              rcases pm_xb_sp h with ⟨ot53, I50, J51, e52, rfl⟩ | ⟨ov49, I50, J51, e52, h⟩
              · exact cx2 q207_74 hh207 (μ1 := (I50, J51, P, pm_T0, e + 1)) (d174 hw he e52) rfl
              refine cz2 q207_74 (μ1 := (I50, J51, P, pm_T0, e)) (d174 hw he e52) rfl ?_
              refine r_ic c207_77 kI0 ?_
              refine is5 c207_78 rfl ?_
              refine r_ic c207_80 kIm1 ?_
              refine is6 c207_81 rfl ?_
              refine r_ic c207_83 kI0 ?_
              refine is7 c207_84 rfl ?_
              refine r_ic c207_86 kI0 ?_
              refine is8 c207_87 rfl ?_
              exact (d207_L hw he pm_FU).1 h
            · rw [if_neg (Int.not_lt.mpr h48)] at h
              refine r_ic c207_69 kI1 ?_
              refine r_go (t := 74) c207_70 rfl ?_
              rcases pm_xb_sp h with ⟨ot58, I55, J56, e57, rfl⟩ | ⟨ov54, I55, J56, e57, h⟩
              · exact cx2 q207_74 hh207 (μ1 := (I55, J56, P, pm_T0, e + 1)) (d174 hw he e57) rfl
              refine cz2 q207_74 (μ1 := (I55, J56, P, pm_T0, e)) (d174 hw he e57) rfl ?_
              refine r_ic c207_77 kI0 ?_
              refine is5 c207_78 rfl ?_
              refine r_ic c207_80 kIm1 ?_
              refine is6 c207_81 rfl ?_
              refine r_ic c207_83 kI0 ?_
              refine is7 c207_84 rfl ?_
              refine r_ic c207_86 kI0 ?_
              refine is8 c207_87 rfl ?_
              exact (d207_L hw he pm_FU).1 h
        · rw [if_neg (Int.not_lt.mpr h36)] at h
          refine r_ic c207_49 kI1 ?_
          refine r_go (t := 54) c207_50 rfl ?_
          rcases pm_xb_sp h with ⟨ot63, I60, J61, e62, rfl⟩ | ⟨ov59, I60, J61, e62, h⟩
          · exact cx2 q207_54 hh207 (μ1 := (I60, J61, P, pm_T0, e + 1)) (d174 hw he e62) rfl
          refine cz2 q207_54 (μ1 := (I60, J61, P, pm_T0, e)) (d174 hw he e62) rfl ?_
          refine al0 c207_57 ?_
          refine il4 c207_58 ?_
          refine r_iflt (t := 73) c207_60 rfl (fun h64 => ?_) (fun h64 => ?_)
          · rw [if_pos h64] at h
            refine r_ic c207_73 kI0 ?_
            rcases pm_xb_sp h with ⟨ot69, I66, J67, e68, rfl⟩ | ⟨ov65, I66, J67, e68, h⟩
            · exact cx2 q207_74 hh207 (μ1 := (I66, J67, P, pm_T0, e + 1)) (d174 hw he e68) rfl
            refine cz2 q207_74 (μ1 := (I66, J67, P, pm_T0, e)) (d174 hw he e68) rfl ?_
            refine r_ic c207_77 kI0 ?_
            refine is5 c207_78 rfl ?_
            refine r_ic c207_80 kIm1 ?_
            refine is6 c207_81 rfl ?_
            refine r_ic c207_83 kI0 ?_
            refine is7 c207_84 rfl ?_
            refine r_ic c207_86 kI0 ?_
            refine is8 c207_87 rfl ?_
            exact (d207_L hw he pm_FU).1 h
          · rw [if_neg (Int.not_lt.mpr h64)] at h
            refine il4 c207_63 ?_
            refine r_ic c207_65 kI2 ?_
            refine r_icgt (t := 73) c207_66 rfl (fun h70 => ?_) (fun h70 => ?_)
            · rw [if_pos h70] at h
              refine r_ic c207_73 kI0 ?_
              rcases pm_xb_sp h with ⟨ot75, I72, J73, e74, rfl⟩ | ⟨ov71, I72, J73, e74, h⟩
              · exact cx2 q207_74 hh207 (μ1 := (I72, J73, P, pm_T0, e + 1)) (d174 hw he e74) rfl
              refine cz2 q207_74 (μ1 := (I72, J73, P, pm_T0, e)) (d174 hw he e74) rfl ?_
              refine r_ic c207_77 kI0 ?_
              refine is5 c207_78 rfl ?_
              refine r_ic c207_80 kIm1 ?_
              refine is6 c207_81 rfl ?_
              refine r_ic c207_83 kI0 ?_
              refine is7 c207_84 rfl ?_
              refine r_ic c207_86 kI0 ?_
              refine is8 c207_87 rfl ?_
              exact (d207_L hw he pm_FU).1 h
            · rw [if_neg (Int.not_lt.mpr h70)] at h
              refine r_ic c207_69 kI1 ?_
              refine r_go (t := 74) c207_70 rfl ?_
              rcases pm_xb_sp h with ⟨ot80, I77, J78, e79, rfl⟩ | ⟨ov76, I77, J78, e79, h⟩
              · exact cx2 q207_74 hh207 (μ1 := (I77, J78, P, pm_T0, e + 1)) (d174 hw he e79) rfl
              refine cz2 q207_74 (μ1 := (I77, J78, P, pm_T0, e)) (d174 hw he e79) rfl ?_
              refine r_ic c207_77 kI0 ?_
              refine is5 c207_78 rfl ?_
              refine r_ic c207_80 kIm1 ?_
              refine is6 c207_81 rfl ?_
              refine r_ic c207_83 kI0 ?_
              refine is7 c207_84 rfl ?_
              refine r_ic c207_86 kI0 ?_
              refine is8 c207_87 rfl ?_
              exact (d207_L hw he pm_FU).1 h
    · rw [if_neg (Int.not_lt.mpr h7)] at h
      refine il2 c207_24 ?_
      refine r_bi c207_25 kB99 ?_
      refine r_icgt (t := 34) c207_27 rfl (fun h81 => ?_) (fun h81 => ?_)
      · rw [if_pos h81] at h
        refine r_ic c207_34 kI0 ?_
        rcases pm_xb_sp h with ⟨ot86, I83, J84, e85, rfl⟩ | ⟨ov82, I83, J84, e85, h⟩
        · exact cx2 q207_35 hh207 (μ1 := (I83, J84, P, pm_T0, e + 1)) (d174 hw he e85) rfl
        refine cz2 q207_35 (μ1 := (I83, J84, P, pm_T0, e)) (d174 hw he e85) rfl ?_
        refine al0 c207_38 ?_
        refine il3 c207_39 ?_
        refine r_iflt (t := 53) c207_40 rfl (fun h87 => ?_) (fun h87 => ?_)
        · rw [if_pos h87] at h
          refine r_ic c207_53 kI0 ?_
          rcases pm_xb_sp h with ⟨ot92, I89, J90, e91, rfl⟩ | ⟨ov88, I89, J90, e91, h⟩
          · exact cx2 q207_54 hh207 (μ1 := (I89, J90, P, pm_T0, e + 1)) (d174 hw he e91) rfl
          refine cz2 q207_54 (μ1 := (I89, J90, P, pm_T0, e)) (d174 hw he e91) rfl ?_
          refine al0 c207_57 ?_
          refine il4 c207_58 ?_
          refine r_iflt (t := 73) c207_60 rfl (fun h93 => ?_) (fun h93 => ?_)
          · rw [if_pos h93] at h
            refine r_ic c207_73 kI0 ?_
            rcases pm_xb_sp h with ⟨ot98, I95, J96, e97, rfl⟩ | ⟨ov94, I95, J96, e97, h⟩
            · exact cx2 q207_74 hh207 (μ1 := (I95, J96, P, pm_T0, e + 1)) (d174 hw he e97) rfl
            refine cz2 q207_74 (μ1 := (I95, J96, P, pm_T0, e)) (d174 hw he e97) rfl ?_
            refine r_ic c207_77 kI0 ?_
            refine is5 c207_78 rfl ?_
            refine r_ic c207_80 kIm1 ?_
            refine is6 c207_81 rfl ?_
            refine r_ic c207_83 kI0 ?_
            refine is7 c207_84 rfl ?_
            refine r_ic c207_86 kI0 ?_
            refine is8 c207_87 rfl ?_
            exact (d207_L hw he pm_FU).1 h
          · rw [if_neg (Int.not_lt.mpr h93)] at h
            refine il4 c207_63 ?_
            refine r_ic c207_65 kI2 ?_
            refine r_icgt (t := 73) c207_66 rfl (fun h99 => ?_) (fun h99 => ?_)
            · rw [if_pos h99] at h
              refine r_ic c207_73 kI0 ?_
              rcases pm_xb_sp h with ⟨ot104, I101, J102, e103, rfl⟩ | ⟨ov100, I101, J102, e103, h⟩
              · exact cx2 q207_74 hh207 (μ1 := (I101, J102, P, pm_T0, e + 1)) (d174 hw he e103) rfl
              refine cz2 q207_74 (μ1 := (I101, J102, P, pm_T0, e)) (d174 hw he e103) rfl ?_
              refine r_ic c207_77 kI0 ?_
              refine is5 c207_78 rfl ?_
              refine r_ic c207_80 kIm1 ?_
              refine is6 c207_81 rfl ?_
              refine r_ic c207_83 kI0 ?_
              refine is7 c207_84 rfl ?_
              refine r_ic c207_86 kI0 ?_
              refine is8 c207_87 rfl ?_
              exact (d207_L hw he pm_FU).1 h
            · rw [if_neg (Int.not_lt.mpr h99)] at h
              refine r_ic c207_69 kI1 ?_
              refine r_go (t := 74) c207_70 rfl ?_
              rcases pm_xb_sp h with ⟨ot109, I106, J107, e108, rfl⟩ | ⟨ov105, I106, J107, e108, h⟩
              · exact cx2 q207_74 hh207 (μ1 := (I106, J107, P, pm_T0, e + 1)) (d174 hw he e108) rfl
              refine cz2 q207_74 (μ1 := (I106, J107, P, pm_T0, e)) (d174 hw he e108) rfl ?_
              refine r_ic c207_77 kI0 ?_
              refine is5 c207_78 rfl ?_
              refine r_ic c207_80 kIm1 ?_
              refine is6 c207_81 rfl ?_
              refine r_ic c207_83 kI0 ?_
              refine is7 c207_84 rfl ?_
              refine r_ic c207_86 kI0 ?_
              refine is8 c207_87 rfl ?_
              exact (d207_L hw he pm_FU).1 h
        · rw [if_neg (Int.not_lt.mpr h87)] at h
          refine il3 c207_43 ?_
          refine r_bi c207_44 kB99 ?_
          refine r_icgt (t := 53) c207_46 rfl (fun h110 => ?_) (fun h110 => ?_)
          · rw [if_pos h110] at h
            refine r_ic c207_53 kI0 ?_
            rcases pm_xb_sp h with ⟨ot115, I112, J113, e114, rfl⟩ | ⟨ov111, I112, J113, e114, h⟩
            · exact cx2 q207_54 hh207 (μ1 := (I112, J113, P, pm_T0, e + 1)) (d174 hw he e114) rfl
            refine cz2 q207_54 (μ1 := (I112, J113, P, pm_T0, e)) (d174 hw he e114) rfl ?_
            refine al0 c207_57 ?_
            refine il4 c207_58 ?_
            refine r_iflt (t := 73) c207_60 rfl (fun h116 => ?_) (fun h116 => ?_)
            · rw [if_pos h116] at h
              refine r_ic c207_73 kI0 ?_
              rcases pm_xb_sp h with ⟨ot121, I118, J119, e120, rfl⟩ | ⟨ov117, I118, J119, e120, h⟩
              · exact cx2 q207_74 hh207 (μ1 := (I118, J119, P, pm_T0, e + 1)) (d174 hw he e120) rfl
              refine cz2 q207_74 (μ1 := (I118, J119, P, pm_T0, e)) (d174 hw he e120) rfl ?_
              refine r_ic c207_77 kI0 ?_
              refine is5 c207_78 rfl ?_
              refine r_ic c207_80 kIm1 ?_
              refine is6 c207_81 rfl ?_
              refine r_ic c207_83 kI0 ?_
              refine is7 c207_84 rfl ?_
              refine r_ic c207_86 kI0 ?_
              refine is8 c207_87 rfl ?_
              exact (d207_L hw he pm_FU).1 h
            · rw [if_neg (Int.not_lt.mpr h116)] at h
              refine il4 c207_63 ?_
              refine r_ic c207_65 kI2 ?_
              refine r_icgt (t := 73) c207_66 rfl (fun h122 => ?_) (fun h122 => ?_)
              · rw [if_pos h122] at h
                refine r_ic c207_73 kI0 ?_
                rcases pm_xb_sp h with ⟨ot127, I124, J125, e126, rfl⟩ | ⟨ov123, I124, J125, e126, h⟩
                · exact cx2 q207_74 hh207 (μ1 := (I124, J125, P, pm_T0, e + 1)) (d174 hw he e126) rfl
                refine cz2 q207_74 (μ1 := (I124, J125, P, pm_T0, e)) (d174 hw he e126) rfl ?_
                refine r_ic c207_77 kI0 ?_
                refine is5 c207_78 rfl ?_
                refine r_ic c207_80 kIm1 ?_
                refine is6 c207_81 rfl ?_
                refine r_ic c207_83 kI0 ?_
                refine is7 c207_84 rfl ?_
                refine r_ic c207_86 kI0 ?_
                refine is8 c207_87 rfl ?_
                exact (d207_L hw he pm_FU).1 h
              · rw [if_neg (Int.not_lt.mpr h122)] at h
                refine r_ic c207_69 kI1 ?_
                refine r_go (t := 74) c207_70 rfl ?_
                rcases pm_xb_sp h with ⟨ot132, I129, J130, e131, rfl⟩ | ⟨ov128, I129, J130, e131, h⟩
                · exact cx2 q207_74 hh207 (μ1 := (I129, J130, P, pm_T0, e + 1)) (d174 hw he e131) rfl
                refine cz2 q207_74 (μ1 := (I129, J130, P, pm_T0, e)) (d174 hw he e131) rfl ?_
                refine r_ic c207_77 kI0 ?_
                refine is5 c207_78 rfl ?_
                refine r_ic c207_80 kIm1 ?_
                refine is6 c207_81 rfl ?_
                refine r_ic c207_83 kI0 ?_
                refine is7 c207_84 rfl ?_
                refine r_ic c207_86 kI0 ?_
                refine is8 c207_87 rfl ?_
                exact (d207_L hw he pm_FU).1 h
          · rw [if_neg (Int.not_lt.mpr h110)] at h
            refine r_ic c207_49 kI1 ?_
            refine r_go (t := 54) c207_50 rfl ?_
            rcases pm_xb_sp h with ⟨ot137, I134, J135, e136, rfl⟩ | ⟨ov133, I134, J135, e136, h⟩
            · exact cx2 q207_54 hh207 (μ1 := (I134, J135, P, pm_T0, e + 1)) (d174 hw he e136) rfl
            refine cz2 q207_54 (μ1 := (I134, J135, P, pm_T0, e)) (d174 hw he e136) rfl ?_
            refine al0 c207_57 ?_
            refine il4 c207_58 ?_
            refine r_iflt (t := 73) c207_60 rfl (fun h138 => ?_) (fun h138 => ?_)
            · rw [if_pos h138] at h
              refine r_ic c207_73 kI0 ?_
              rcases pm_xb_sp h with ⟨ot143, I140, J141, e142, rfl⟩ | ⟨ov139, I140, J141, e142, h⟩
              · exact cx2 q207_74 hh207 (μ1 := (I140, J141, P, pm_T0, e + 1)) (d174 hw he e142) rfl
              refine cz2 q207_74 (μ1 := (I140, J141, P, pm_T0, e)) (d174 hw he e142) rfl ?_
              refine r_ic c207_77 kI0 ?_
              refine is5 c207_78 rfl ?_
              refine r_ic c207_80 kIm1 ?_
              refine is6 c207_81 rfl ?_
              refine r_ic c207_83 kI0 ?_
              refine is7 c207_84 rfl ?_
              refine r_ic c207_86 kI0 ?_
              refine is8 c207_87 rfl ?_
              exact (d207_L hw he pm_FU).1 h
            · rw [if_neg (Int.not_lt.mpr h138)] at h
              refine il4 c207_63 ?_
              refine r_ic c207_65 kI2 ?_
              refine r_icgt (t := 73) c207_66 rfl (fun h144 => ?_) (fun h144 => ?_)
              · rw [if_pos h144] at h
                refine r_ic c207_73 kI0 ?_
                rcases pm_xb_sp h with ⟨ot149, I146, J147, e148, rfl⟩ | ⟨ov145, I146, J147, e148, h⟩
                · exact cx2 q207_74 hh207 (μ1 := (I146, J147, P, pm_T0, e + 1)) (d174 hw he e148) rfl
                refine cz2 q207_74 (μ1 := (I146, J147, P, pm_T0, e)) (d174 hw he e148) rfl ?_
                refine r_ic c207_77 kI0 ?_
                refine is5 c207_78 rfl ?_
                refine r_ic c207_80 kIm1 ?_
                refine is6 c207_81 rfl ?_
                refine r_ic c207_83 kI0 ?_
                refine is7 c207_84 rfl ?_
                refine r_ic c207_86 kI0 ?_
                refine is8 c207_87 rfl ?_
                exact (d207_L hw he pm_FU).1 h
              · rw [if_neg (Int.not_lt.mpr h144)] at h
                refine r_ic c207_69 kI1 ?_
                refine r_go (t := 74) c207_70 rfl ?_
                rcases pm_xb_sp h with ⟨ot154, I151, J152, e153, rfl⟩ | ⟨ov150, I151, J152, e153, h⟩
                · exact cx2 q207_74 hh207 (μ1 := (I151, J152, P, pm_T0, e + 1)) (d174 hw he e153) rfl
                refine cz2 q207_74 (μ1 := (I151, J152, P, pm_T0, e)) (d174 hw he e153) rfl ?_
                refine r_ic c207_77 kI0 ?_
                refine is5 c207_78 rfl ?_
                refine r_ic c207_80 kIm1 ?_
                refine is6 c207_81 rfl ?_
                refine r_ic c207_83 kI0 ?_
                refine is7 c207_84 rfl ?_
                refine r_ic c207_86 kI0 ?_
                refine is8 c207_87 rfl ?_
                exact (d207_L hw he pm_FU).1 h
      · rw [if_neg (Int.not_lt.mpr h81)] at h
        refine r_ic c207_30 kI1 ?_
        refine r_go (t := 35) c207_31 rfl ?_
        rcases pm_xb_sp h with ⟨ot159, I156, J157, e158, rfl⟩ | ⟨ov155, I156, J157, e158, h⟩
        · exact cx2 q207_35 hh207 (μ1 := (I156, J157, P, pm_T0, e + 1)) (d174 hw he e158) rfl
        refine cz2 q207_35 (μ1 := (I156, J157, P, pm_T0, e)) (d174 hw he e158) rfl ?_
        refine al0 c207_38 ?_
        refine il3 c207_39 ?_
        refine r_iflt (t := 53) c207_40 rfl (fun h160 => ?_) (fun h160 => ?_)
        · rw [if_pos h160] at h
          refine r_ic c207_53 kI0 ?_
          rcases pm_xb_sp h with ⟨ot165, I162, J163, e164, rfl⟩ | ⟨ov161, I162, J163, e164, h⟩
          · exact cx2 q207_54 hh207 (μ1 := (I162, J163, P, pm_T0, e + 1)) (d174 hw he e164) rfl
          refine cz2 q207_54 (μ1 := (I162, J163, P, pm_T0, e)) (d174 hw he e164) rfl ?_
          refine al0 c207_57 ?_
          refine il4 c207_58 ?_
          refine r_iflt (t := 73) c207_60 rfl (fun h166 => ?_) (fun h166 => ?_)
          · rw [if_pos h166] at h
            refine r_ic c207_73 kI0 ?_
            rcases pm_xb_sp h with ⟨ot171, I168, J169, e170, rfl⟩ | ⟨ov167, I168, J169, e170, h⟩
            · exact cx2 q207_74 hh207 (μ1 := (I168, J169, P, pm_T0, e + 1)) (d174 hw he e170) rfl
            refine cz2 q207_74 (μ1 := (I168, J169, P, pm_T0, e)) (d174 hw he e170) rfl ?_
            refine r_ic c207_77 kI0 ?_
            refine is5 c207_78 rfl ?_
            refine r_ic c207_80 kIm1 ?_
            refine is6 c207_81 rfl ?_
            refine r_ic c207_83 kI0 ?_
            refine is7 c207_84 rfl ?_
            refine r_ic c207_86 kI0 ?_
            refine is8 c207_87 rfl ?_
            exact (d207_L hw he pm_FU).1 h
          · rw [if_neg (Int.not_lt.mpr h166)] at h
            refine il4 c207_63 ?_
            refine r_ic c207_65 kI2 ?_
            refine r_icgt (t := 73) c207_66 rfl (fun h172 => ?_) (fun h172 => ?_)
            · rw [if_pos h172] at h
              refine r_ic c207_73 kI0 ?_
              rcases pm_xb_sp h with ⟨ot177, I174, J175, e176, rfl⟩ | ⟨ov173, I174, J175, e176, h⟩
              · exact cx2 q207_74 hh207 (μ1 := (I174, J175, P, pm_T0, e + 1)) (d174 hw he e176) rfl
              refine cz2 q207_74 (μ1 := (I174, J175, P, pm_T0, e)) (d174 hw he e176) rfl ?_
              refine r_ic c207_77 kI0 ?_
              refine is5 c207_78 rfl ?_
              refine r_ic c207_80 kIm1 ?_
              refine is6 c207_81 rfl ?_
              refine r_ic c207_83 kI0 ?_
              refine is7 c207_84 rfl ?_
              refine r_ic c207_86 kI0 ?_
              refine is8 c207_87 rfl ?_
              exact (d207_L hw he pm_FU).1 h
            · rw [if_neg (Int.not_lt.mpr h172)] at h
              refine r_ic c207_69 kI1 ?_
              refine r_go (t := 74) c207_70 rfl ?_
              rcases pm_xb_sp h with ⟨ot182, I179, J180, e181, rfl⟩ | ⟨ov178, I179, J180, e181, h⟩
              · exact cx2 q207_74 hh207 (μ1 := (I179, J180, P, pm_T0, e + 1)) (d174 hw he e181) rfl
              refine cz2 q207_74 (μ1 := (I179, J180, P, pm_T0, e)) (d174 hw he e181) rfl ?_
              refine r_ic c207_77 kI0 ?_
              refine is5 c207_78 rfl ?_
              refine r_ic c207_80 kIm1 ?_
              refine is6 c207_81 rfl ?_
              refine r_ic c207_83 kI0 ?_
              refine is7 c207_84 rfl ?_
              refine r_ic c207_86 kI0 ?_
              refine is8 c207_87 rfl ?_
              exact (d207_L hw he pm_FU).1 h
        · rw [if_neg (Int.not_lt.mpr h160)] at h
          refine il3 c207_43 ?_
          refine r_bi c207_44 kB99 ?_
          refine r_icgt (t := 53) c207_46 rfl (fun h183 => ?_) (fun h183 => ?_)
          · rw [if_pos h183] at h
            refine r_ic c207_53 kI0 ?_
            rcases pm_xb_sp h with ⟨ot188, I185, J186, e187, rfl⟩ | ⟨ov184, I185, J186, e187, h⟩
            · exact cx2 q207_54 hh207 (μ1 := (I185, J186, P, pm_T0, e + 1)) (d174 hw he e187) rfl
            refine cz2 q207_54 (μ1 := (I185, J186, P, pm_T0, e)) (d174 hw he e187) rfl ?_
            refine al0 c207_57 ?_
            refine il4 c207_58 ?_
            refine r_iflt (t := 73) c207_60 rfl (fun h189 => ?_) (fun h189 => ?_)
            · rw [if_pos h189] at h
              refine r_ic c207_73 kI0 ?_
              rcases pm_xb_sp h with ⟨ot194, I191, J192, e193, rfl⟩ | ⟨ov190, I191, J192, e193, h⟩
              · exact cx2 q207_74 hh207 (μ1 := (I191, J192, P, pm_T0, e + 1)) (d174 hw he e193) rfl
              refine cz2 q207_74 (μ1 := (I191, J192, P, pm_T0, e)) (d174 hw he e193) rfl ?_
              refine r_ic c207_77 kI0 ?_
              refine is5 c207_78 rfl ?_
              refine r_ic c207_80 kIm1 ?_
              refine is6 c207_81 rfl ?_
              refine r_ic c207_83 kI0 ?_
              refine is7 c207_84 rfl ?_
              refine r_ic c207_86 kI0 ?_
              refine is8 c207_87 rfl ?_
              exact (d207_L hw he pm_FU).1 h
            · rw [if_neg (Int.not_lt.mpr h189)] at h
              refine il4 c207_63 ?_
              refine r_ic c207_65 kI2 ?_
              refine r_icgt (t := 73) c207_66 rfl (fun h195 => ?_) (fun h195 => ?_)
              · rw [if_pos h195] at h
                refine r_ic c207_73 kI0 ?_
                rcases pm_xb_sp h with ⟨ot200, I197, J198, e199, rfl⟩ | ⟨ov196, I197, J198, e199, h⟩
                · exact cx2 q207_74 hh207 (μ1 := (I197, J198, P, pm_T0, e + 1)) (d174 hw he e199) rfl
                refine cz2 q207_74 (μ1 := (I197, J198, P, pm_T0, e)) (d174 hw he e199) rfl ?_
                refine r_ic c207_77 kI0 ?_
                refine is5 c207_78 rfl ?_
                refine r_ic c207_80 kIm1 ?_
                refine is6 c207_81 rfl ?_
                refine r_ic c207_83 kI0 ?_
                refine is7 c207_84 rfl ?_
                refine r_ic c207_86 kI0 ?_
                refine is8 c207_87 rfl ?_
                exact (d207_L hw he pm_FU).1 h
              · rw [if_neg (Int.not_lt.mpr h195)] at h
                refine r_ic c207_69 kI1 ?_
                refine r_go (t := 74) c207_70 rfl ?_
                rcases pm_xb_sp h with ⟨ot205, I202, J203, e204, rfl⟩ | ⟨ov201, I202, J203, e204, h⟩
                · exact cx2 q207_74 hh207 (μ1 := (I202, J203, P, pm_T0, e + 1)) (d174 hw he e204) rfl
                refine cz2 q207_74 (μ1 := (I202, J203, P, pm_T0, e)) (d174 hw he e204) rfl ?_
                refine r_ic c207_77 kI0 ?_
                refine is5 c207_78 rfl ?_
                refine r_ic c207_80 kIm1 ?_
                refine is6 c207_81 rfl ?_
                refine r_ic c207_83 kI0 ?_
                refine is7 c207_84 rfl ?_
                refine r_ic c207_86 kI0 ?_
                refine is8 c207_87 rfl ?_
                exact (d207_L hw he pm_FU).1 h
          · rw [if_neg (Int.not_lt.mpr h183)] at h
            refine r_ic c207_49 kI1 ?_
            refine r_go (t := 54) c207_50 rfl ?_
            rcases pm_xb_sp h with ⟨ot210, I207, J208, e209, rfl⟩ | ⟨ov206, I207, J208, e209, h⟩
            · exact cx2 q207_54 hh207 (μ1 := (I207, J208, P, pm_T0, e + 1)) (d174 hw he e209) rfl
            refine cz2 q207_54 (μ1 := (I207, J208, P, pm_T0, e)) (d174 hw he e209) rfl ?_
            refine al0 c207_57 ?_
            refine il4 c207_58 ?_
            refine r_iflt (t := 73) c207_60 rfl (fun h211 => ?_) (fun h211 => ?_)
            · rw [if_pos h211] at h
              refine r_ic c207_73 kI0 ?_
              rcases pm_xb_sp h with ⟨ot216, I213, J214, e215, rfl⟩ | ⟨ov212, I213, J214, e215, h⟩
              · exact cx2 q207_74 hh207 (μ1 := (I213, J214, P, pm_T0, e + 1)) (d174 hw he e215) rfl
              refine cz2 q207_74 (μ1 := (I213, J214, P, pm_T0, e)) (d174 hw he e215) rfl ?_
              refine r_ic c207_77 kI0 ?_
              refine is5 c207_78 rfl ?_
              refine r_ic c207_80 kIm1 ?_
              refine is6 c207_81 rfl ?_
              refine r_ic c207_83 kI0 ?_
              refine is7 c207_84 rfl ?_
              refine r_ic c207_86 kI0 ?_
              refine is8 c207_87 rfl ?_
              exact (d207_L hw he pm_FU).1 h
            · rw [if_neg (Int.not_lt.mpr h211)] at h
              refine il4 c207_63 ?_
              refine r_ic c207_65 kI2 ?_
              refine r_icgt (t := 73) c207_66 rfl (fun h217 => ?_) (fun h217 => ?_)
              · rw [if_pos h217] at h
                refine r_ic c207_73 kI0 ?_
                rcases pm_xb_sp h with ⟨ot222, I219, J220, e221, rfl⟩ | ⟨ov218, I219, J220, e221, h⟩
                · exact cx2 q207_74 hh207 (μ1 := (I219, J220, P, pm_T0, e + 1)) (d174 hw he e221) rfl
                refine cz2 q207_74 (μ1 := (I219, J220, P, pm_T0, e)) (d174 hw he e221) rfl ?_
                refine r_ic c207_77 kI0 ?_
                refine is5 c207_78 rfl ?_
                refine r_ic c207_80 kIm1 ?_
                refine is6 c207_81 rfl ?_
                refine r_ic c207_83 kI0 ?_
                refine is7 c207_84 rfl ?_
                refine r_ic c207_86 kI0 ?_
                refine is8 c207_87 rfl ?_
                exact (d207_L hw he pm_FU).1 h
              · rw [if_neg (Int.not_lt.mpr h217)] at h
                refine r_ic c207_69 kI1 ?_
                refine r_go (t := 74) c207_70 rfl ?_
                rcases pm_xb_sp h with ⟨ot227, I224, J225, e226, rfl⟩ | ⟨ov223, I224, J225, e226, h⟩
                · exact cx2 q207_74 hh207 (μ1 := (I224, J225, P, pm_T0, e + 1)) (d174 hw he e226) rfl
                refine cz2 q207_74 (μ1 := (I224, J225, P, pm_T0, e)) (d174 hw he e226) rfl ?_
                refine r_ic c207_77 kI0 ?_
                refine is5 c207_78 rfl ?_
                refine r_ic c207_80 kIm1 ?_
                refine is6 c207_81 rfl ?_
                refine r_ic c207_83 kI0 ?_
                refine is7 c207_84 rfl ?_
                refine r_ic c207_86 kI0 ?_
                refine is8 c207_87 rfl ?_
                exact (d207_L hw he pm_FU).1 h
  · rw [if_neg (Int.not_lt.mpr h1)] at h
    refine il1 c207_5 ?_
    refine r_bi c207_6 kB20 ?_
    refine r_icgt (t := 15) c207_8 rfl (fun h228 => ?_) (fun h228 => ?_)
    · rw [if_pos h228] at h
      refine r_ic c207_15 kI0 ?_
      rcases pm_xb_sp h with ⟨ot233, I230, J231, e232, rfl⟩ | ⟨ov229, I230, J231, e232, h⟩
      · exact cx2 q207_16 hh207 (μ1 := (I230, J231, P, pm_T0, e + 1)) (d174 hw he e232) rfl
      refine cz2 q207_16 (μ1 := (I230, J231, P, pm_T0, e)) (d174 hw he e232) rfl ?_
      refine al0 c207_19 ?_
      refine il2 c207_20 ?_
      refine r_iflt (t := 34) c207_21 rfl (fun h234 => ?_) (fun h234 => ?_)
      · rw [if_pos h234] at h
        refine r_ic c207_34 kI0 ?_
        rcases pm_xb_sp h with ⟨ot239, I236, J237, e238, rfl⟩ | ⟨ov235, I236, J237, e238, h⟩
        · exact cx2 q207_35 hh207 (μ1 := (I236, J237, P, pm_T0, e + 1)) (d174 hw he e238) rfl
        refine cz2 q207_35 (μ1 := (I236, J237, P, pm_T0, e)) (d174 hw he e238) rfl ?_
        refine al0 c207_38 ?_
        refine il3 c207_39 ?_
        refine r_iflt (t := 53) c207_40 rfl (fun h240 => ?_) (fun h240 => ?_)
        · rw [if_pos h240] at h
          refine r_ic c207_53 kI0 ?_
          rcases pm_xb_sp h with ⟨ot245, I242, J243, e244, rfl⟩ | ⟨ov241, I242, J243, e244, h⟩
          · exact cx2 q207_54 hh207 (μ1 := (I242, J243, P, pm_T0, e + 1)) (d174 hw he e244) rfl
          refine cz2 q207_54 (μ1 := (I242, J243, P, pm_T0, e)) (d174 hw he e244) rfl ?_
          refine al0 c207_57 ?_
          refine il4 c207_58 ?_
          refine r_iflt (t := 73) c207_60 rfl (fun h246 => ?_) (fun h246 => ?_)
          · rw [if_pos h246] at h
            refine r_ic c207_73 kI0 ?_
            rcases pm_xb_sp h with ⟨ot251, I248, J249, e250, rfl⟩ | ⟨ov247, I248, J249, e250, h⟩
            · exact cx2 q207_74 hh207 (μ1 := (I248, J249, P, pm_T0, e + 1)) (d174 hw he e250) rfl
            refine cz2 q207_74 (μ1 := (I248, J249, P, pm_T0, e)) (d174 hw he e250) rfl ?_
            refine r_ic c207_77 kI0 ?_
            refine is5 c207_78 rfl ?_
            refine r_ic c207_80 kIm1 ?_
            refine is6 c207_81 rfl ?_
            refine r_ic c207_83 kI0 ?_
            refine is7 c207_84 rfl ?_
            refine r_ic c207_86 kI0 ?_
            refine is8 c207_87 rfl ?_
            exact (d207_L hw he pm_FU).1 h
          · rw [if_neg (Int.not_lt.mpr h246)] at h
            refine il4 c207_63 ?_
            refine r_ic c207_65 kI2 ?_
            refine r_icgt (t := 73) c207_66 rfl (fun h252 => ?_) (fun h252 => ?_)
            · rw [if_pos h252] at h
              refine r_ic c207_73 kI0 ?_
              rcases pm_xb_sp h with ⟨ot257, I254, J255, e256, rfl⟩ | ⟨ov253, I254, J255, e256, h⟩
              · exact cx2 q207_74 hh207 (μ1 := (I254, J255, P, pm_T0, e + 1)) (d174 hw he e256) rfl
              refine cz2 q207_74 (μ1 := (I254, J255, P, pm_T0, e)) (d174 hw he e256) rfl ?_
              refine r_ic c207_77 kI0 ?_
              refine is5 c207_78 rfl ?_
              refine r_ic c207_80 kIm1 ?_
              refine is6 c207_81 rfl ?_
              refine r_ic c207_83 kI0 ?_
              refine is7 c207_84 rfl ?_
              refine r_ic c207_86 kI0 ?_
              refine is8 c207_87 rfl ?_
              exact (d207_L hw he pm_FU).1 h
            · rw [if_neg (Int.not_lt.mpr h252)] at h
              refine r_ic c207_69 kI1 ?_
              refine r_go (t := 74) c207_70 rfl ?_
              rcases pm_xb_sp h with ⟨ot262, I259, J260, e261, rfl⟩ | ⟨ov258, I259, J260, e261, h⟩
              · exact cx2 q207_74 hh207 (μ1 := (I259, J260, P, pm_T0, e + 1)) (d174 hw he e261) rfl
              refine cz2 q207_74 (μ1 := (I259, J260, P, pm_T0, e)) (d174 hw he e261) rfl ?_
              refine r_ic c207_77 kI0 ?_
              refine is5 c207_78 rfl ?_
              refine r_ic c207_80 kIm1 ?_
              refine is6 c207_81 rfl ?_
              refine r_ic c207_83 kI0 ?_
              refine is7 c207_84 rfl ?_
              refine r_ic c207_86 kI0 ?_
              refine is8 c207_87 rfl ?_
              exact (d207_L hw he pm_FU).1 h
        · rw [if_neg (Int.not_lt.mpr h240)] at h
          refine il3 c207_43 ?_
          refine r_bi c207_44 kB99 ?_
          refine r_icgt (t := 53) c207_46 rfl (fun h263 => ?_) (fun h263 => ?_)
          · rw [if_pos h263] at h
            refine r_ic c207_53 kI0 ?_
            rcases pm_xb_sp h with ⟨ot268, I265, J266, e267, rfl⟩ | ⟨ov264, I265, J266, e267, h⟩
            · exact cx2 q207_54 hh207 (μ1 := (I265, J266, P, pm_T0, e + 1)) (d174 hw he e267) rfl
            refine cz2 q207_54 (μ1 := (I265, J266, P, pm_T0, e)) (d174 hw he e267) rfl ?_
            refine al0 c207_57 ?_
            refine il4 c207_58 ?_
            refine r_iflt (t := 73) c207_60 rfl (fun h269 => ?_) (fun h269 => ?_)
            · rw [if_pos h269] at h
              refine r_ic c207_73 kI0 ?_
              rcases pm_xb_sp h with ⟨ot274, I271, J272, e273, rfl⟩ | ⟨ov270, I271, J272, e273, h⟩
              · exact cx2 q207_74 hh207 (μ1 := (I271, J272, P, pm_T0, e + 1)) (d174 hw he e273) rfl
              refine cz2 q207_74 (μ1 := (I271, J272, P, pm_T0, e)) (d174 hw he e273) rfl ?_
              refine r_ic c207_77 kI0 ?_
              refine is5 c207_78 rfl ?_
              refine r_ic c207_80 kIm1 ?_
              refine is6 c207_81 rfl ?_
              refine r_ic c207_83 kI0 ?_
              refine is7 c207_84 rfl ?_
              refine r_ic c207_86 kI0 ?_
              refine is8 c207_87 rfl ?_
              exact (d207_L hw he pm_FU).1 h
            · rw [if_neg (Int.not_lt.mpr h269)] at h
              refine il4 c207_63 ?_
              refine r_ic c207_65 kI2 ?_
              refine r_icgt (t := 73) c207_66 rfl (fun h275 => ?_) (fun h275 => ?_)
              · rw [if_pos h275] at h
                refine r_ic c207_73 kI0 ?_
                rcases pm_xb_sp h with ⟨ot280, I277, J278, e279, rfl⟩ | ⟨ov276, I277, J278, e279, h⟩
                · exact cx2 q207_74 hh207 (μ1 := (I277, J278, P, pm_T0, e + 1)) (d174 hw he e279) rfl
                refine cz2 q207_74 (μ1 := (I277, J278, P, pm_T0, e)) (d174 hw he e279) rfl ?_
                refine r_ic c207_77 kI0 ?_
                refine is5 c207_78 rfl ?_
                refine r_ic c207_80 kIm1 ?_
                refine is6 c207_81 rfl ?_
                refine r_ic c207_83 kI0 ?_
                refine is7 c207_84 rfl ?_
                refine r_ic c207_86 kI0 ?_
                refine is8 c207_87 rfl ?_
                exact (d207_L hw he pm_FU).1 h
              · rw [if_neg (Int.not_lt.mpr h275)] at h
                refine r_ic c207_69 kI1 ?_
                refine r_go (t := 74) c207_70 rfl ?_
                rcases pm_xb_sp h with ⟨ot285, I282, J283, e284, rfl⟩ | ⟨ov281, I282, J283, e284, h⟩
                · exact cx2 q207_74 hh207 (μ1 := (I282, J283, P, pm_T0, e + 1)) (d174 hw he e284) rfl
                refine cz2 q207_74 (μ1 := (I282, J283, P, pm_T0, e)) (d174 hw he e284) rfl ?_
                refine r_ic c207_77 kI0 ?_
                refine is5 c207_78 rfl ?_
                refine r_ic c207_80 kIm1 ?_
                refine is6 c207_81 rfl ?_
                refine r_ic c207_83 kI0 ?_
                refine is7 c207_84 rfl ?_
                refine r_ic c207_86 kI0 ?_
                refine is8 c207_87 rfl ?_
                exact (d207_L hw he pm_FU).1 h
          · rw [if_neg (Int.not_lt.mpr h263)] at h
            refine r_ic c207_49 kI1 ?_
            refine r_go (t := 54) c207_50 rfl ?_
            rcases pm_xb_sp h with ⟨ot290, I287, J288, e289, rfl⟩ | ⟨ov286, I287, J288, e289, h⟩
            · exact cx2 q207_54 hh207 (μ1 := (I287, J288, P, pm_T0, e + 1)) (d174 hw he e289) rfl
            refine cz2 q207_54 (μ1 := (I287, J288, P, pm_T0, e)) (d174 hw he e289) rfl ?_
            refine al0 c207_57 ?_
            refine il4 c207_58 ?_
            refine r_iflt (t := 73) c207_60 rfl (fun h291 => ?_) (fun h291 => ?_)
            · rw [if_pos h291] at h
              refine r_ic c207_73 kI0 ?_
              rcases pm_xb_sp h with ⟨ot296, I293, J294, e295, rfl⟩ | ⟨ov292, I293, J294, e295, h⟩
              · exact cx2 q207_74 hh207 (μ1 := (I293, J294, P, pm_T0, e + 1)) (d174 hw he e295) rfl
              refine cz2 q207_74 (μ1 := (I293, J294, P, pm_T0, e)) (d174 hw he e295) rfl ?_
              refine r_ic c207_77 kI0 ?_
              refine is5 c207_78 rfl ?_
              refine r_ic c207_80 kIm1 ?_
              refine is6 c207_81 rfl ?_
              refine r_ic c207_83 kI0 ?_
              refine is7 c207_84 rfl ?_
              refine r_ic c207_86 kI0 ?_
              refine is8 c207_87 rfl ?_
              exact (d207_L hw he pm_FU).1 h
            · rw [if_neg (Int.not_lt.mpr h291)] at h
              refine il4 c207_63 ?_
              refine r_ic c207_65 kI2 ?_
              refine r_icgt (t := 73) c207_66 rfl (fun h297 => ?_) (fun h297 => ?_)
              · rw [if_pos h297] at h
                refine r_ic c207_73 kI0 ?_
                rcases pm_xb_sp h with ⟨ot302, I299, J300, e301, rfl⟩ | ⟨ov298, I299, J300, e301, h⟩
                · exact cx2 q207_74 hh207 (μ1 := (I299, J300, P, pm_T0, e + 1)) (d174 hw he e301) rfl
                refine cz2 q207_74 (μ1 := (I299, J300, P, pm_T0, e)) (d174 hw he e301) rfl ?_
                refine r_ic c207_77 kI0 ?_
                refine is5 c207_78 rfl ?_
                refine r_ic c207_80 kIm1 ?_
                refine is6 c207_81 rfl ?_
                refine r_ic c207_83 kI0 ?_
                refine is7 c207_84 rfl ?_
                refine r_ic c207_86 kI0 ?_
                refine is8 c207_87 rfl ?_
                exact (d207_L hw he pm_FU).1 h
              · rw [if_neg (Int.not_lt.mpr h297)] at h
                refine r_ic c207_69 kI1 ?_
                refine r_go (t := 74) c207_70 rfl ?_
                rcases pm_xb_sp h with ⟨ot307, I304, J305, e306, rfl⟩ | ⟨ov303, I304, J305, e306, h⟩
                · exact cx2 q207_74 hh207 (μ1 := (I304, J305, P, pm_T0, e + 1)) (d174 hw he e306) rfl
                refine cz2 q207_74 (μ1 := (I304, J305, P, pm_T0, e)) (d174 hw he e306) rfl ?_
                refine r_ic c207_77 kI0 ?_
                refine is5 c207_78 rfl ?_
                refine r_ic c207_80 kIm1 ?_
                refine is6 c207_81 rfl ?_
                refine r_ic c207_83 kI0 ?_
                refine is7 c207_84 rfl ?_
                refine r_ic c207_86 kI0 ?_
                refine is8 c207_87 rfl ?_
                exact (d207_L hw he pm_FU).1 h
      · rw [if_neg (Int.not_lt.mpr h234)] at h
        refine il2 c207_24 ?_
        refine r_bi c207_25 kB99 ?_
        refine r_icgt (t := 34) c207_27 rfl (fun h308 => ?_) (fun h308 => ?_)
        · rw [if_pos h308] at h
          refine r_ic c207_34 kI0 ?_
          rcases pm_xb_sp h with ⟨ot313, I310, J311, e312, rfl⟩ | ⟨ov309, I310, J311, e312, h⟩
          · exact cx2 q207_35 hh207 (μ1 := (I310, J311, P, pm_T0, e + 1)) (d174 hw he e312) rfl
          refine cz2 q207_35 (μ1 := (I310, J311, P, pm_T0, e)) (d174 hw he e312) rfl ?_
          refine al0 c207_38 ?_
          refine il3 c207_39 ?_
          refine r_iflt (t := 53) c207_40 rfl (fun h314 => ?_) (fun h314 => ?_)
          · rw [if_pos h314] at h
            refine r_ic c207_53 kI0 ?_
            rcases pm_xb_sp h with ⟨ot319, I316, J317, e318, rfl⟩ | ⟨ov315, I316, J317, e318, h⟩
            · exact cx2 q207_54 hh207 (μ1 := (I316, J317, P, pm_T0, e + 1)) (d174 hw he e318) rfl
            refine cz2 q207_54 (μ1 := (I316, J317, P, pm_T0, e)) (d174 hw he e318) rfl ?_
            refine al0 c207_57 ?_
            refine il4 c207_58 ?_
            refine r_iflt (t := 73) c207_60 rfl (fun h320 => ?_) (fun h320 => ?_)
            · rw [if_pos h320] at h
              refine r_ic c207_73 kI0 ?_
              rcases pm_xb_sp h with ⟨ot325, I322, J323, e324, rfl⟩ | ⟨ov321, I322, J323, e324, h⟩
              · exact cx2 q207_74 hh207 (μ1 := (I322, J323, P, pm_T0, e + 1)) (d174 hw he e324) rfl
              refine cz2 q207_74 (μ1 := (I322, J323, P, pm_T0, e)) (d174 hw he e324) rfl ?_
              refine r_ic c207_77 kI0 ?_
              refine is5 c207_78 rfl ?_
              refine r_ic c207_80 kIm1 ?_
              refine is6 c207_81 rfl ?_
              refine r_ic c207_83 kI0 ?_
              refine is7 c207_84 rfl ?_
              refine r_ic c207_86 kI0 ?_
              refine is8 c207_87 rfl ?_
              exact (d207_L hw he pm_FU).1 h
            · rw [if_neg (Int.not_lt.mpr h320)] at h
              refine il4 c207_63 ?_
              refine r_ic c207_65 kI2 ?_
              refine r_icgt (t := 73) c207_66 rfl (fun h326 => ?_) (fun h326 => ?_)
              · rw [if_pos h326] at h
                refine r_ic c207_73 kI0 ?_
                rcases pm_xb_sp h with ⟨ot331, I328, J329, e330, rfl⟩ | ⟨ov327, I328, J329, e330, h⟩
                · exact cx2 q207_74 hh207 (μ1 := (I328, J329, P, pm_T0, e + 1)) (d174 hw he e330) rfl
                refine cz2 q207_74 (μ1 := (I328, J329, P, pm_T0, e)) (d174 hw he e330) rfl ?_
                refine r_ic c207_77 kI0 ?_
                refine is5 c207_78 rfl ?_
                refine r_ic c207_80 kIm1 ?_
                refine is6 c207_81 rfl ?_
                refine r_ic c207_83 kI0 ?_
                refine is7 c207_84 rfl ?_
                refine r_ic c207_86 kI0 ?_
                refine is8 c207_87 rfl ?_
                exact (d207_L hw he pm_FU).1 h
              · rw [if_neg (Int.not_lt.mpr h326)] at h
                refine r_ic c207_69 kI1 ?_
                refine r_go (t := 74) c207_70 rfl ?_
                rcases pm_xb_sp h with ⟨ot336, I333, J334, e335, rfl⟩ | ⟨ov332, I333, J334, e335, h⟩
                · exact cx2 q207_74 hh207 (μ1 := (I333, J334, P, pm_T0, e + 1)) (d174 hw he e335) rfl
                refine cz2 q207_74 (μ1 := (I333, J334, P, pm_T0, e)) (d174 hw he e335) rfl ?_
                refine r_ic c207_77 kI0 ?_
                refine is5 c207_78 rfl ?_
                refine r_ic c207_80 kIm1 ?_
                refine is6 c207_81 rfl ?_
                refine r_ic c207_83 kI0 ?_
                refine is7 c207_84 rfl ?_
                refine r_ic c207_86 kI0 ?_
                refine is8 c207_87 rfl ?_
                exact (d207_L hw he pm_FU).1 h
          · rw [if_neg (Int.not_lt.mpr h314)] at h
            refine il3 c207_43 ?_
            refine r_bi c207_44 kB99 ?_
            refine r_icgt (t := 53) c207_46 rfl (fun h337 => ?_) (fun h337 => ?_)
            · rw [if_pos h337] at h
              refine r_ic c207_53 kI0 ?_
              rcases pm_xb_sp h with ⟨ot342, I339, J340, e341, rfl⟩ | ⟨ov338, I339, J340, e341, h⟩
              · exact cx2 q207_54 hh207 (μ1 := (I339, J340, P, pm_T0, e + 1)) (d174 hw he e341) rfl
              refine cz2 q207_54 (μ1 := (I339, J340, P, pm_T0, e)) (d174 hw he e341) rfl ?_
              refine al0 c207_57 ?_
              refine il4 c207_58 ?_
              refine r_iflt (t := 73) c207_60 rfl (fun h343 => ?_) (fun h343 => ?_)
              · rw [if_pos h343] at h
                refine r_ic c207_73 kI0 ?_
                rcases pm_xb_sp h with ⟨ot348, I345, J346, e347, rfl⟩ | ⟨ov344, I345, J346, e347, h⟩
                · exact cx2 q207_74 hh207 (μ1 := (I345, J346, P, pm_T0, e + 1)) (d174 hw he e347) rfl
                refine cz2 q207_74 (μ1 := (I345, J346, P, pm_T0, e)) (d174 hw he e347) rfl ?_
                refine r_ic c207_77 kI0 ?_
                refine is5 c207_78 rfl ?_
                refine r_ic c207_80 kIm1 ?_
                refine is6 c207_81 rfl ?_
                refine r_ic c207_83 kI0 ?_
                refine is7 c207_84 rfl ?_
                refine r_ic c207_86 kI0 ?_
                refine is8 c207_87 rfl ?_
                exact (d207_L hw he pm_FU).1 h
              · rw [if_neg (Int.not_lt.mpr h343)] at h
                refine il4 c207_63 ?_
                refine r_ic c207_65 kI2 ?_
                refine r_icgt (t := 73) c207_66 rfl (fun h349 => ?_) (fun h349 => ?_)
                · rw [if_pos h349] at h
                  refine r_ic c207_73 kI0 ?_
                  rcases pm_xb_sp h with ⟨ot354, I351, J352, e353, rfl⟩ | ⟨ov350, I351, J352, e353, h⟩
                  · exact cx2 q207_74 hh207 (μ1 := (I351, J352, P, pm_T0, e + 1)) (d174 hw he e353) rfl
                  refine cz2 q207_74 (μ1 := (I351, J352, P, pm_T0, e)) (d174 hw he e353) rfl ?_
                  refine r_ic c207_77 kI0 ?_
                  refine is5 c207_78 rfl ?_
                  refine r_ic c207_80 kIm1 ?_
                  refine is6 c207_81 rfl ?_
                  refine r_ic c207_83 kI0 ?_
                  refine is7 c207_84 rfl ?_
                  refine r_ic c207_86 kI0 ?_
                  refine is8 c207_87 rfl ?_
                  exact (d207_L hw he pm_FU).1 h
                · rw [if_neg (Int.not_lt.mpr h349)] at h
                  refine r_ic c207_69 kI1 ?_
                  refine r_go (t := 74) c207_70 rfl ?_
                  rcases pm_xb_sp h with ⟨ot359, I356, J357, e358, rfl⟩ | ⟨ov355, I356, J357, e358, h⟩
                  · exact cx2 q207_74 hh207 (μ1 := (I356, J357, P, pm_T0, e + 1)) (d174 hw he e358) rfl
                  refine cz2 q207_74 (μ1 := (I356, J357, P, pm_T0, e)) (d174 hw he e358) rfl ?_
                  refine r_ic c207_77 kI0 ?_
                  refine is5 c207_78 rfl ?_
                  refine r_ic c207_80 kIm1 ?_
                  refine is6 c207_81 rfl ?_
                  refine r_ic c207_83 kI0 ?_
                  refine is7 c207_84 rfl ?_
                  refine r_ic c207_86 kI0 ?_
                  refine is8 c207_87 rfl ?_
                  exact (d207_L hw he pm_FU).1 h
            · rw [if_neg (Int.not_lt.mpr h337)] at h
              refine r_ic c207_49 kI1 ?_
              refine r_go (t := 54) c207_50 rfl ?_
              rcases pm_xb_sp h with ⟨ot364, I361, J362, e363, rfl⟩ | ⟨ov360, I361, J362, e363, h⟩
              · exact cx2 q207_54 hh207 (μ1 := (I361, J362, P, pm_T0, e + 1)) (d174 hw he e363) rfl
              refine cz2 q207_54 (μ1 := (I361, J362, P, pm_T0, e)) (d174 hw he e363) rfl ?_
              refine al0 c207_57 ?_
              refine il4 c207_58 ?_
              refine r_iflt (t := 73) c207_60 rfl (fun h365 => ?_) (fun h365 => ?_)
              · rw [if_pos h365] at h
                refine r_ic c207_73 kI0 ?_
                rcases pm_xb_sp h with ⟨ot370, I367, J368, e369, rfl⟩ | ⟨ov366, I367, J368, e369, h⟩
                · exact cx2 q207_74 hh207 (μ1 := (I367, J368, P, pm_T0, e + 1)) (d174 hw he e369) rfl
                refine cz2 q207_74 (μ1 := (I367, J368, P, pm_T0, e)) (d174 hw he e369) rfl ?_
                refine r_ic c207_77 kI0 ?_
                refine is5 c207_78 rfl ?_
                refine r_ic c207_80 kIm1 ?_
                refine is6 c207_81 rfl ?_
                refine r_ic c207_83 kI0 ?_
                refine is7 c207_84 rfl ?_
                refine r_ic c207_86 kI0 ?_
                refine is8 c207_87 rfl ?_
                exact (d207_L hw he pm_FU).1 h
              · rw [if_neg (Int.not_lt.mpr h365)] at h
                refine il4 c207_63 ?_
                refine r_ic c207_65 kI2 ?_
                refine r_icgt (t := 73) c207_66 rfl (fun h371 => ?_) (fun h371 => ?_)
                · rw [if_pos h371] at h
                  refine r_ic c207_73 kI0 ?_
                  rcases pm_xb_sp h with ⟨ot376, I373, J374, e375, rfl⟩ | ⟨ov372, I373, J374, e375, h⟩
                  · exact cx2 q207_74 hh207 (μ1 := (I373, J374, P, pm_T0, e + 1)) (d174 hw he e375) rfl
                  refine cz2 q207_74 (μ1 := (I373, J374, P, pm_T0, e)) (d174 hw he e375) rfl ?_
                  refine r_ic c207_77 kI0 ?_
                  refine is5 c207_78 rfl ?_
                  refine r_ic c207_80 kIm1 ?_
                  refine is6 c207_81 rfl ?_
                  refine r_ic c207_83 kI0 ?_
                  refine is7 c207_84 rfl ?_
                  refine r_ic c207_86 kI0 ?_
                  refine is8 c207_87 rfl ?_
                  exact (d207_L hw he pm_FU).1 h
                · rw [if_neg (Int.not_lt.mpr h371)] at h
                  refine r_ic c207_69 kI1 ?_
                  refine r_go (t := 74) c207_70 rfl ?_
                  rcases pm_xb_sp h with ⟨ot381, I378, J379, e380, rfl⟩ | ⟨ov377, I378, J379, e380, h⟩
                  · exact cx2 q207_74 hh207 (μ1 := (I378, J379, P, pm_T0, e + 1)) (d174 hw he e380) rfl
                  refine cz2 q207_74 (μ1 := (I378, J379, P, pm_T0, e)) (d174 hw he e380) rfl ?_
                  refine r_ic c207_77 kI0 ?_
                  refine is5 c207_78 rfl ?_
                  refine r_ic c207_80 kIm1 ?_
                  refine is6 c207_81 rfl ?_
                  refine r_ic c207_83 kI0 ?_
                  refine is7 c207_84 rfl ?_
                  refine r_ic c207_86 kI0 ?_
                  refine is8 c207_87 rfl ?_
                  exact (d207_L hw he pm_FU).1 h
        · rw [if_neg (Int.not_lt.mpr h308)] at h
          refine r_ic c207_30 kI1 ?_
          refine r_go (t := 35) c207_31 rfl ?_
          rcases pm_xb_sp h with ⟨ot386, I383, J384, e385, rfl⟩ | ⟨ov382, I383, J384, e385, h⟩
          · exact cx2 q207_35 hh207 (μ1 := (I383, J384, P, pm_T0, e + 1)) (d174 hw he e385) rfl
          refine cz2 q207_35 (μ1 := (I383, J384, P, pm_T0, e)) (d174 hw he e385) rfl ?_
          refine al0 c207_38 ?_
          refine il3 c207_39 ?_
          refine r_iflt (t := 53) c207_40 rfl (fun h387 => ?_) (fun h387 => ?_)
          · rw [if_pos h387] at h
            refine r_ic c207_53 kI0 ?_
            rcases pm_xb_sp h with ⟨ot392, I389, J390, e391, rfl⟩ | ⟨ov388, I389, J390, e391, h⟩
            · exact cx2 q207_54 hh207 (μ1 := (I389, J390, P, pm_T0, e + 1)) (d174 hw he e391) rfl
            refine cz2 q207_54 (μ1 := (I389, J390, P, pm_T0, e)) (d174 hw he e391) rfl ?_
            refine al0 c207_57 ?_
            refine il4 c207_58 ?_
            refine r_iflt (t := 73) c207_60 rfl (fun h393 => ?_) (fun h393 => ?_)
            · rw [if_pos h393] at h
              refine r_ic c207_73 kI0 ?_
              rcases pm_xb_sp h with ⟨ot398, I395, J396, e397, rfl⟩ | ⟨ov394, I395, J396, e397, h⟩
              · exact cx2 q207_74 hh207 (μ1 := (I395, J396, P, pm_T0, e + 1)) (d174 hw he e397) rfl
              refine cz2 q207_74 (μ1 := (I395, J396, P, pm_T0, e)) (d174 hw he e397) rfl ?_
              refine r_ic c207_77 kI0 ?_
              refine is5 c207_78 rfl ?_
              refine r_ic c207_80 kIm1 ?_
              refine is6 c207_81 rfl ?_
              refine r_ic c207_83 kI0 ?_
              refine is7 c207_84 rfl ?_
              refine r_ic c207_86 kI0 ?_
              refine is8 c207_87 rfl ?_
              exact (d207_L hw he pm_FU).1 h
            · rw [if_neg (Int.not_lt.mpr h393)] at h
              refine il4 c207_63 ?_
              refine r_ic c207_65 kI2 ?_
              refine r_icgt (t := 73) c207_66 rfl (fun h399 => ?_) (fun h399 => ?_)
              · rw [if_pos h399] at h
                refine r_ic c207_73 kI0 ?_
                rcases pm_xb_sp h with ⟨ot404, I401, J402, e403, rfl⟩ | ⟨ov400, I401, J402, e403, h⟩
                · exact cx2 q207_74 hh207 (μ1 := (I401, J402, P, pm_T0, e + 1)) (d174 hw he e403) rfl
                refine cz2 q207_74 (μ1 := (I401, J402, P, pm_T0, e)) (d174 hw he e403) rfl ?_
                refine r_ic c207_77 kI0 ?_
                refine is5 c207_78 rfl ?_
                refine r_ic c207_80 kIm1 ?_
                refine is6 c207_81 rfl ?_
                refine r_ic c207_83 kI0 ?_
                refine is7 c207_84 rfl ?_
                refine r_ic c207_86 kI0 ?_
                refine is8 c207_87 rfl ?_
                exact (d207_L hw he pm_FU).1 h
              · rw [if_neg (Int.not_lt.mpr h399)] at h
                refine r_ic c207_69 kI1 ?_
                refine r_go (t := 74) c207_70 rfl ?_
                rcases pm_xb_sp h with ⟨ot409, I406, J407, e408, rfl⟩ | ⟨ov405, I406, J407, e408, h⟩
                · exact cx2 q207_74 hh207 (μ1 := (I406, J407, P, pm_T0, e + 1)) (d174 hw he e408) rfl
                refine cz2 q207_74 (μ1 := (I406, J407, P, pm_T0, e)) (d174 hw he e408) rfl ?_
                refine r_ic c207_77 kI0 ?_
                refine is5 c207_78 rfl ?_
                refine r_ic c207_80 kIm1 ?_
                refine is6 c207_81 rfl ?_
                refine r_ic c207_83 kI0 ?_
                refine is7 c207_84 rfl ?_
                refine r_ic c207_86 kI0 ?_
                refine is8 c207_87 rfl ?_
                exact (d207_L hw he pm_FU).1 h
          · rw [if_neg (Int.not_lt.mpr h387)] at h
            refine il3 c207_43 ?_
            refine r_bi c207_44 kB99 ?_
            refine r_icgt (t := 53) c207_46 rfl (fun h410 => ?_) (fun h410 => ?_)
            · rw [if_pos h410] at h
              refine r_ic c207_53 kI0 ?_
              rcases pm_xb_sp h with ⟨ot415, I412, J413, e414, rfl⟩ | ⟨ov411, I412, J413, e414, h⟩
              · exact cx2 q207_54 hh207 (μ1 := (I412, J413, P, pm_T0, e + 1)) (d174 hw he e414) rfl
              refine cz2 q207_54 (μ1 := (I412, J413, P, pm_T0, e)) (d174 hw he e414) rfl ?_
              refine al0 c207_57 ?_
              refine il4 c207_58 ?_
              refine r_iflt (t := 73) c207_60 rfl (fun h416 => ?_) (fun h416 => ?_)
              · rw [if_pos h416] at h
                refine r_ic c207_73 kI0 ?_
                rcases pm_xb_sp h with ⟨ot421, I418, J419, e420, rfl⟩ | ⟨ov417, I418, J419, e420, h⟩
                · exact cx2 q207_74 hh207 (μ1 := (I418, J419, P, pm_T0, e + 1)) (d174 hw he e420) rfl
                refine cz2 q207_74 (μ1 := (I418, J419, P, pm_T0, e)) (d174 hw he e420) rfl ?_
                refine r_ic c207_77 kI0 ?_
                refine is5 c207_78 rfl ?_
                refine r_ic c207_80 kIm1 ?_
                refine is6 c207_81 rfl ?_
                refine r_ic c207_83 kI0 ?_
                refine is7 c207_84 rfl ?_
                refine r_ic c207_86 kI0 ?_
                refine is8 c207_87 rfl ?_
                exact (d207_L hw he pm_FU).1 h
              · rw [if_neg (Int.not_lt.mpr h416)] at h
                refine il4 c207_63 ?_
                refine r_ic c207_65 kI2 ?_
                refine r_icgt (t := 73) c207_66 rfl (fun h422 => ?_) (fun h422 => ?_)
                · rw [if_pos h422] at h
                  refine r_ic c207_73 kI0 ?_
                  rcases pm_xb_sp h with ⟨ot427, I424, J425, e426, rfl⟩ | ⟨ov423, I424, J425, e426, h⟩
                  · exact cx2 q207_74 hh207 (μ1 := (I424, J425, P, pm_T0, e + 1)) (d174 hw he e426) rfl
                  refine cz2 q207_74 (μ1 := (I424, J425, P, pm_T0, e)) (d174 hw he e426) rfl ?_
                  refine r_ic c207_77 kI0 ?_
                  refine is5 c207_78 rfl ?_
                  refine r_ic c207_80 kIm1 ?_
                  refine is6 c207_81 rfl ?_
                  refine r_ic c207_83 kI0 ?_
                  refine is7 c207_84 rfl ?_
                  refine r_ic c207_86 kI0 ?_
                  refine is8 c207_87 rfl ?_
                  exact (d207_L hw he pm_FU).1 h
                · rw [if_neg (Int.not_lt.mpr h422)] at h
                  refine r_ic c207_69 kI1 ?_
                  refine r_go (t := 74) c207_70 rfl ?_
                  rcases pm_xb_sp h with ⟨ot432, I429, J430, e431, rfl⟩ | ⟨ov428, I429, J430, e431, h⟩
                  · exact cx2 q207_74 hh207 (μ1 := (I429, J430, P, pm_T0, e + 1)) (d174 hw he e431) rfl
                  refine cz2 q207_74 (μ1 := (I429, J430, P, pm_T0, e)) (d174 hw he e431) rfl ?_
                  refine r_ic c207_77 kI0 ?_
                  refine is5 c207_78 rfl ?_
                  refine r_ic c207_80 kIm1 ?_
                  refine is6 c207_81 rfl ?_
                  refine r_ic c207_83 kI0 ?_
                  refine is7 c207_84 rfl ?_
                  refine r_ic c207_86 kI0 ?_
                  refine is8 c207_87 rfl ?_
                  exact (d207_L hw he pm_FU).1 h
            · rw [if_neg (Int.not_lt.mpr h410)] at h
              refine r_ic c207_49 kI1 ?_
              refine r_go (t := 54) c207_50 rfl ?_
              rcases pm_xb_sp h with ⟨ot437, I434, J435, e436, rfl⟩ | ⟨ov433, I434, J435, e436, h⟩
              · exact cx2 q207_54 hh207 (μ1 := (I434, J435, P, pm_T0, e + 1)) (d174 hw he e436) rfl
              refine cz2 q207_54 (μ1 := (I434, J435, P, pm_T0, e)) (d174 hw he e436) rfl ?_
              refine al0 c207_57 ?_
              refine il4 c207_58 ?_
              refine r_iflt (t := 73) c207_60 rfl (fun h438 => ?_) (fun h438 => ?_)
              · rw [if_pos h438] at h
                refine r_ic c207_73 kI0 ?_
                rcases pm_xb_sp h with ⟨ot443, I440, J441, e442, rfl⟩ | ⟨ov439, I440, J441, e442, h⟩
                · exact cx2 q207_74 hh207 (μ1 := (I440, J441, P, pm_T0, e + 1)) (d174 hw he e442) rfl
                refine cz2 q207_74 (μ1 := (I440, J441, P, pm_T0, e)) (d174 hw he e442) rfl ?_
                refine r_ic c207_77 kI0 ?_
                refine is5 c207_78 rfl ?_
                refine r_ic c207_80 kIm1 ?_
                refine is6 c207_81 rfl ?_
                refine r_ic c207_83 kI0 ?_
                refine is7 c207_84 rfl ?_
                refine r_ic c207_86 kI0 ?_
                refine is8 c207_87 rfl ?_
                exact (d207_L hw he pm_FU).1 h
              · rw [if_neg (Int.not_lt.mpr h438)] at h
                refine il4 c207_63 ?_
                refine r_ic c207_65 kI2 ?_
                refine r_icgt (t := 73) c207_66 rfl (fun h444 => ?_) (fun h444 => ?_)
                · rw [if_pos h444] at h
                  refine r_ic c207_73 kI0 ?_
                  rcases pm_xb_sp h with ⟨ot449, I446, J447, e448, rfl⟩ | ⟨ov445, I446, J447, e448, h⟩
                  · exact cx2 q207_74 hh207 (μ1 := (I446, J447, P, pm_T0, e + 1)) (d174 hw he e448) rfl
                  refine cz2 q207_74 (μ1 := (I446, J447, P, pm_T0, e)) (d174 hw he e448) rfl ?_
                  refine r_ic c207_77 kI0 ?_
                  refine is5 c207_78 rfl ?_
                  refine r_ic c207_80 kIm1 ?_
                  refine is6 c207_81 rfl ?_
                  refine r_ic c207_83 kI0 ?_
                  refine is7 c207_84 rfl ?_
                  refine r_ic c207_86 kI0 ?_
                  refine is8 c207_87 rfl ?_
                  exact (d207_L hw he pm_FU).1 h
                · rw [if_neg (Int.not_lt.mpr h444)] at h
                  refine r_ic c207_69 kI1 ?_
                  refine r_go (t := 74) c207_70 rfl ?_
                  rcases pm_xb_sp h with ⟨ot454, I451, J452, e453, rfl⟩ | ⟨ov450, I451, J452, e453, h⟩
                  · exact cx2 q207_74 hh207 (μ1 := (I451, J452, P, pm_T0, e + 1)) (d174 hw he e453) rfl
                  refine cz2 q207_74 (μ1 := (I451, J452, P, pm_T0, e)) (d174 hw he e453) rfl ?_
                  refine r_ic c207_77 kI0 ?_
                  refine is5 c207_78 rfl ?_
                  refine r_ic c207_80 kIm1 ?_
                  refine is6 c207_81 rfl ?_
                  refine r_ic c207_83 kI0 ?_
                  refine is7 c207_84 rfl ?_
                  refine r_ic c207_86 kI0 ?_
                  refine is8 c207_87 rfl ?_
                  exact (d207_L hw he pm_FU).1 h
    · rw [if_neg (Int.not_lt.mpr h228)] at h
      refine r_ic c207_11 kI1 ?_
      refine r_go (t := 16) c207_12 rfl ?_
      rcases pm_xb_sp h with ⟨ot459, I456, J457, e458, rfl⟩ | ⟨ov455, I456, J457, e458, h⟩
      · exact cx2 q207_16 hh207 (μ1 := (I456, J457, P, pm_T0, e + 1)) (d174 hw he e458) rfl
      refine cz2 q207_16 (μ1 := (I456, J457, P, pm_T0, e)) (d174 hw he e458) rfl ?_
      refine al0 c207_19 ?_
      refine il2 c207_20 ?_
      refine r_iflt (t := 34) c207_21 rfl (fun h460 => ?_) (fun h460 => ?_)
      · rw [if_pos h460] at h
        refine r_ic c207_34 kI0 ?_
        rcases pm_xb_sp h with ⟨ot465, I462, J463, e464, rfl⟩ | ⟨ov461, I462, J463, e464, h⟩
        · exact cx2 q207_35 hh207 (μ1 := (I462, J463, P, pm_T0, e + 1)) (d174 hw he e464) rfl
        refine cz2 q207_35 (μ1 := (I462, J463, P, pm_T0, e)) (d174 hw he e464) rfl ?_
        refine al0 c207_38 ?_
        refine il3 c207_39 ?_
        refine r_iflt (t := 53) c207_40 rfl (fun h466 => ?_) (fun h466 => ?_)
        · rw [if_pos h466] at h
          refine r_ic c207_53 kI0 ?_
          rcases pm_xb_sp h with ⟨ot471, I468, J469, e470, rfl⟩ | ⟨ov467, I468, J469, e470, h⟩
          · exact cx2 q207_54 hh207 (μ1 := (I468, J469, P, pm_T0, e + 1)) (d174 hw he e470) rfl
          refine cz2 q207_54 (μ1 := (I468, J469, P, pm_T0, e)) (d174 hw he e470) rfl ?_
          refine al0 c207_57 ?_
          refine il4 c207_58 ?_
          refine r_iflt (t := 73) c207_60 rfl (fun h472 => ?_) (fun h472 => ?_)
          · rw [if_pos h472] at h
            refine r_ic c207_73 kI0 ?_
            rcases pm_xb_sp h with ⟨ot477, I474, J475, e476, rfl⟩ | ⟨ov473, I474, J475, e476, h⟩
            · exact cx2 q207_74 hh207 (μ1 := (I474, J475, P, pm_T0, e + 1)) (d174 hw he e476) rfl
            refine cz2 q207_74 (μ1 := (I474, J475, P, pm_T0, e)) (d174 hw he e476) rfl ?_
            refine r_ic c207_77 kI0 ?_
            refine is5 c207_78 rfl ?_
            refine r_ic c207_80 kIm1 ?_
            refine is6 c207_81 rfl ?_
            refine r_ic c207_83 kI0 ?_
            refine is7 c207_84 rfl ?_
            refine r_ic c207_86 kI0 ?_
            refine is8 c207_87 rfl ?_
            exact (d207_L hw he pm_FU).1 h
          · rw [if_neg (Int.not_lt.mpr h472)] at h
            refine il4 c207_63 ?_
            refine r_ic c207_65 kI2 ?_
            refine r_icgt (t := 73) c207_66 rfl (fun h478 => ?_) (fun h478 => ?_)
            · rw [if_pos h478] at h
              refine r_ic c207_73 kI0 ?_
              rcases pm_xb_sp h with ⟨ot483, I480, J481, e482, rfl⟩ | ⟨ov479, I480, J481, e482, h⟩
              · exact cx2 q207_74 hh207 (μ1 := (I480, J481, P, pm_T0, e + 1)) (d174 hw he e482) rfl
              refine cz2 q207_74 (μ1 := (I480, J481, P, pm_T0, e)) (d174 hw he e482) rfl ?_
              refine r_ic c207_77 kI0 ?_
              refine is5 c207_78 rfl ?_
              refine r_ic c207_80 kIm1 ?_
              refine is6 c207_81 rfl ?_
              refine r_ic c207_83 kI0 ?_
              refine is7 c207_84 rfl ?_
              refine r_ic c207_86 kI0 ?_
              refine is8 c207_87 rfl ?_
              exact (d207_L hw he pm_FU).1 h
            · rw [if_neg (Int.not_lt.mpr h478)] at h
              refine r_ic c207_69 kI1 ?_
              refine r_go (t := 74) c207_70 rfl ?_
              rcases pm_xb_sp h with ⟨ot488, I485, J486, e487, rfl⟩ | ⟨ov484, I485, J486, e487, h⟩
              · exact cx2 q207_74 hh207 (μ1 := (I485, J486, P, pm_T0, e + 1)) (d174 hw he e487) rfl
              refine cz2 q207_74 (μ1 := (I485, J486, P, pm_T0, e)) (d174 hw he e487) rfl ?_
              refine r_ic c207_77 kI0 ?_
              refine is5 c207_78 rfl ?_
              refine r_ic c207_80 kIm1 ?_
              refine is6 c207_81 rfl ?_
              refine r_ic c207_83 kI0 ?_
              refine is7 c207_84 rfl ?_
              refine r_ic c207_86 kI0 ?_
              refine is8 c207_87 rfl ?_
              exact (d207_L hw he pm_FU).1 h
        · rw [if_neg (Int.not_lt.mpr h466)] at h
          refine il3 c207_43 ?_
          refine r_bi c207_44 kB99 ?_
          refine r_icgt (t := 53) c207_46 rfl (fun h489 => ?_) (fun h489 => ?_)
          · rw [if_pos h489] at h
            refine r_ic c207_53 kI0 ?_
            rcases pm_xb_sp h with ⟨ot494, I491, J492, e493, rfl⟩ | ⟨ov490, I491, J492, e493, h⟩
            · exact cx2 q207_54 hh207 (μ1 := (I491, J492, P, pm_T0, e + 1)) (d174 hw he e493) rfl
            refine cz2 q207_54 (μ1 := (I491, J492, P, pm_T0, e)) (d174 hw he e493) rfl ?_
            refine al0 c207_57 ?_
            refine il4 c207_58 ?_
            refine r_iflt (t := 73) c207_60 rfl (fun h495 => ?_) (fun h495 => ?_)
            · rw [if_pos h495] at h
              refine r_ic c207_73 kI0 ?_
              rcases pm_xb_sp h with ⟨ot500, I497, J498, e499, rfl⟩ | ⟨ov496, I497, J498, e499, h⟩
              · exact cx2 q207_74 hh207 (μ1 := (I497, J498, P, pm_T0, e + 1)) (d174 hw he e499) rfl
              refine cz2 q207_74 (μ1 := (I497, J498, P, pm_T0, e)) (d174 hw he e499) rfl ?_
              refine r_ic c207_77 kI0 ?_
              refine is5 c207_78 rfl ?_
              refine r_ic c207_80 kIm1 ?_
              refine is6 c207_81 rfl ?_
              refine r_ic c207_83 kI0 ?_
              refine is7 c207_84 rfl ?_
              refine r_ic c207_86 kI0 ?_
              refine is8 c207_87 rfl ?_
              exact (d207_L hw he pm_FU).1 h
            · rw [if_neg (Int.not_lt.mpr h495)] at h
              refine il4 c207_63 ?_
              refine r_ic c207_65 kI2 ?_
              refine r_icgt (t := 73) c207_66 rfl (fun h501 => ?_) (fun h501 => ?_)
              · rw [if_pos h501] at h
                refine r_ic c207_73 kI0 ?_
                rcases pm_xb_sp h with ⟨ot506, I503, J504, e505, rfl⟩ | ⟨ov502, I503, J504, e505, h⟩
                · exact cx2 q207_74 hh207 (μ1 := (I503, J504, P, pm_T0, e + 1)) (d174 hw he e505) rfl
                refine cz2 q207_74 (μ1 := (I503, J504, P, pm_T0, e)) (d174 hw he e505) rfl ?_
                refine r_ic c207_77 kI0 ?_
                refine is5 c207_78 rfl ?_
                refine r_ic c207_80 kIm1 ?_
                refine is6 c207_81 rfl ?_
                refine r_ic c207_83 kI0 ?_
                refine is7 c207_84 rfl ?_
                refine r_ic c207_86 kI0 ?_
                refine is8 c207_87 rfl ?_
                exact (d207_L hw he pm_FU).1 h
              · rw [if_neg (Int.not_lt.mpr h501)] at h
                refine r_ic c207_69 kI1 ?_
                refine r_go (t := 74) c207_70 rfl ?_
                rcases pm_xb_sp h with ⟨ot511, I508, J509, e510, rfl⟩ | ⟨ov507, I508, J509, e510, h⟩
                · exact cx2 q207_74 hh207 (μ1 := (I508, J509, P, pm_T0, e + 1)) (d174 hw he e510) rfl
                refine cz2 q207_74 (μ1 := (I508, J509, P, pm_T0, e)) (d174 hw he e510) rfl ?_
                refine r_ic c207_77 kI0 ?_
                refine is5 c207_78 rfl ?_
                refine r_ic c207_80 kIm1 ?_
                refine is6 c207_81 rfl ?_
                refine r_ic c207_83 kI0 ?_
                refine is7 c207_84 rfl ?_
                refine r_ic c207_86 kI0 ?_
                refine is8 c207_87 rfl ?_
                exact (d207_L hw he pm_FU).1 h
          · rw [if_neg (Int.not_lt.mpr h489)] at h
            refine r_ic c207_49 kI1 ?_
            refine r_go (t := 54) c207_50 rfl ?_
            rcases pm_xb_sp h with ⟨ot516, I513, J514, e515, rfl⟩ | ⟨ov512, I513, J514, e515, h⟩
            · exact cx2 q207_54 hh207 (μ1 := (I513, J514, P, pm_T0, e + 1)) (d174 hw he e515) rfl
            refine cz2 q207_54 (μ1 := (I513, J514, P, pm_T0, e)) (d174 hw he e515) rfl ?_
            refine al0 c207_57 ?_
            refine il4 c207_58 ?_
            refine r_iflt (t := 73) c207_60 rfl (fun h517 => ?_) (fun h517 => ?_)
            · rw [if_pos h517] at h
              refine r_ic c207_73 kI0 ?_
              rcases pm_xb_sp h with ⟨ot522, I519, J520, e521, rfl⟩ | ⟨ov518, I519, J520, e521, h⟩
              · exact cx2 q207_74 hh207 (μ1 := (I519, J520, P, pm_T0, e + 1)) (d174 hw he e521) rfl
              refine cz2 q207_74 (μ1 := (I519, J520, P, pm_T0, e)) (d174 hw he e521) rfl ?_
              refine r_ic c207_77 kI0 ?_
              refine is5 c207_78 rfl ?_
              refine r_ic c207_80 kIm1 ?_
              refine is6 c207_81 rfl ?_
              refine r_ic c207_83 kI0 ?_
              refine is7 c207_84 rfl ?_
              refine r_ic c207_86 kI0 ?_
              refine is8 c207_87 rfl ?_
              exact (d207_L hw he pm_FU).1 h
            · rw [if_neg (Int.not_lt.mpr h517)] at h
              refine il4 c207_63 ?_
              refine r_ic c207_65 kI2 ?_
              refine r_icgt (t := 73) c207_66 rfl (fun h523 => ?_) (fun h523 => ?_)
              · rw [if_pos h523] at h
                refine r_ic c207_73 kI0 ?_
                rcases pm_xb_sp h with ⟨ot528, I525, J526, e527, rfl⟩ | ⟨ov524, I525, J526, e527, h⟩
                · exact cx2 q207_74 hh207 (μ1 := (I525, J526, P, pm_T0, e + 1)) (d174 hw he e527) rfl
                refine cz2 q207_74 (μ1 := (I525, J526, P, pm_T0, e)) (d174 hw he e527) rfl ?_
                refine r_ic c207_77 kI0 ?_
                refine is5 c207_78 rfl ?_
                refine r_ic c207_80 kIm1 ?_
                refine is6 c207_81 rfl ?_
                refine r_ic c207_83 kI0 ?_
                refine is7 c207_84 rfl ?_
                refine r_ic c207_86 kI0 ?_
                refine is8 c207_87 rfl ?_
                exact (d207_L hw he pm_FU).1 h
              · rw [if_neg (Int.not_lt.mpr h523)] at h
                refine r_ic c207_69 kI1 ?_
                refine r_go (t := 74) c207_70 rfl ?_
                rcases pm_xb_sp h with ⟨ot533, I530, J531, e532, rfl⟩ | ⟨ov529, I530, J531, e532, h⟩
                · exact cx2 q207_74 hh207 (μ1 := (I530, J531, P, pm_T0, e + 1)) (d174 hw he e532) rfl
                refine cz2 q207_74 (μ1 := (I530, J531, P, pm_T0, e)) (d174 hw he e532) rfl ?_
                refine r_ic c207_77 kI0 ?_
                refine is5 c207_78 rfl ?_
                refine r_ic c207_80 kIm1 ?_
                refine is6 c207_81 rfl ?_
                refine r_ic c207_83 kI0 ?_
                refine is7 c207_84 rfl ?_
                refine r_ic c207_86 kI0 ?_
                refine is8 c207_87 rfl ?_
                exact (d207_L hw he pm_FU).1 h
      · rw [if_neg (Int.not_lt.mpr h460)] at h
        refine il2 c207_24 ?_
        refine r_bi c207_25 kB99 ?_
        refine r_icgt (t := 34) c207_27 rfl (fun h534 => ?_) (fun h534 => ?_)
        · rw [if_pos h534] at h
          refine r_ic c207_34 kI0 ?_
          rcases pm_xb_sp h with ⟨ot539, I536, J537, e538, rfl⟩ | ⟨ov535, I536, J537, e538, h⟩
          · exact cx2 q207_35 hh207 (μ1 := (I536, J537, P, pm_T0, e + 1)) (d174 hw he e538) rfl
          refine cz2 q207_35 (μ1 := (I536, J537, P, pm_T0, e)) (d174 hw he e538) rfl ?_
          refine al0 c207_38 ?_
          refine il3 c207_39 ?_
          refine r_iflt (t := 53) c207_40 rfl (fun h540 => ?_) (fun h540 => ?_)
          · rw [if_pos h540] at h
            refine r_ic c207_53 kI0 ?_
            rcases pm_xb_sp h with ⟨ot545, I542, J543, e544, rfl⟩ | ⟨ov541, I542, J543, e544, h⟩
            · exact cx2 q207_54 hh207 (μ1 := (I542, J543, P, pm_T0, e + 1)) (d174 hw he e544) rfl
            refine cz2 q207_54 (μ1 := (I542, J543, P, pm_T0, e)) (d174 hw he e544) rfl ?_
            refine al0 c207_57 ?_
            refine il4 c207_58 ?_
            refine r_iflt (t := 73) c207_60 rfl (fun h546 => ?_) (fun h546 => ?_)
            · rw [if_pos h546] at h
              refine r_ic c207_73 kI0 ?_
              rcases pm_xb_sp h with ⟨ot551, I548, J549, e550, rfl⟩ | ⟨ov547, I548, J549, e550, h⟩
              · exact cx2 q207_74 hh207 (μ1 := (I548, J549, P, pm_T0, e + 1)) (d174 hw he e550) rfl
              refine cz2 q207_74 (μ1 := (I548, J549, P, pm_T0, e)) (d174 hw he e550) rfl ?_
              refine r_ic c207_77 kI0 ?_
              refine is5 c207_78 rfl ?_
              refine r_ic c207_80 kIm1 ?_
              refine is6 c207_81 rfl ?_
              refine r_ic c207_83 kI0 ?_
              refine is7 c207_84 rfl ?_
              refine r_ic c207_86 kI0 ?_
              refine is8 c207_87 rfl ?_
              exact (d207_L hw he pm_FU).1 h
            · rw [if_neg (Int.not_lt.mpr h546)] at h
              refine il4 c207_63 ?_
              refine r_ic c207_65 kI2 ?_
              refine r_icgt (t := 73) c207_66 rfl (fun h552 => ?_) (fun h552 => ?_)
              · rw [if_pos h552] at h
                refine r_ic c207_73 kI0 ?_
                rcases pm_xb_sp h with ⟨ot557, I554, J555, e556, rfl⟩ | ⟨ov553, I554, J555, e556, h⟩
                · exact cx2 q207_74 hh207 (μ1 := (I554, J555, P, pm_T0, e + 1)) (d174 hw he e556) rfl
                refine cz2 q207_74 (μ1 := (I554, J555, P, pm_T0, e)) (d174 hw he e556) rfl ?_
                refine r_ic c207_77 kI0 ?_
                refine is5 c207_78 rfl ?_
                refine r_ic c207_80 kIm1 ?_
                refine is6 c207_81 rfl ?_
                refine r_ic c207_83 kI0 ?_
                refine is7 c207_84 rfl ?_
                refine r_ic c207_86 kI0 ?_
                refine is8 c207_87 rfl ?_
                exact (d207_L hw he pm_FU).1 h
              · rw [if_neg (Int.not_lt.mpr h552)] at h
                refine r_ic c207_69 kI1 ?_
                refine r_go (t := 74) c207_70 rfl ?_
                rcases pm_xb_sp h with ⟨ot562, I559, J560, e561, rfl⟩ | ⟨ov558, I559, J560, e561, h⟩
                · exact cx2 q207_74 hh207 (μ1 := (I559, J560, P, pm_T0, e + 1)) (d174 hw he e561) rfl
                refine cz2 q207_74 (μ1 := (I559, J560, P, pm_T0, e)) (d174 hw he e561) rfl ?_
                refine r_ic c207_77 kI0 ?_
                refine is5 c207_78 rfl ?_
                refine r_ic c207_80 kIm1 ?_
                refine is6 c207_81 rfl ?_
                refine r_ic c207_83 kI0 ?_
                refine is7 c207_84 rfl ?_
                refine r_ic c207_86 kI0 ?_
                refine is8 c207_87 rfl ?_
                exact (d207_L hw he pm_FU).1 h
          · rw [if_neg (Int.not_lt.mpr h540)] at h
            refine il3 c207_43 ?_
            refine r_bi c207_44 kB99 ?_
            refine r_icgt (t := 53) c207_46 rfl (fun h563 => ?_) (fun h563 => ?_)
            · rw [if_pos h563] at h
              refine r_ic c207_53 kI0 ?_
              rcases pm_xb_sp h with ⟨ot568, I565, J566, e567, rfl⟩ | ⟨ov564, I565, J566, e567, h⟩
              · exact cx2 q207_54 hh207 (μ1 := (I565, J566, P, pm_T0, e + 1)) (d174 hw he e567) rfl
              refine cz2 q207_54 (μ1 := (I565, J566, P, pm_T0, e)) (d174 hw he e567) rfl ?_
              refine al0 c207_57 ?_
              refine il4 c207_58 ?_
              refine r_iflt (t := 73) c207_60 rfl (fun h569 => ?_) (fun h569 => ?_)
              · rw [if_pos h569] at h
                refine r_ic c207_73 kI0 ?_
                rcases pm_xb_sp h with ⟨ot574, I571, J572, e573, rfl⟩ | ⟨ov570, I571, J572, e573, h⟩
                · exact cx2 q207_74 hh207 (μ1 := (I571, J572, P, pm_T0, e + 1)) (d174 hw he e573) rfl
                refine cz2 q207_74 (μ1 := (I571, J572, P, pm_T0, e)) (d174 hw he e573) rfl ?_
                refine r_ic c207_77 kI0 ?_
                refine is5 c207_78 rfl ?_
                refine r_ic c207_80 kIm1 ?_
                refine is6 c207_81 rfl ?_
                refine r_ic c207_83 kI0 ?_
                refine is7 c207_84 rfl ?_
                refine r_ic c207_86 kI0 ?_
                refine is8 c207_87 rfl ?_
                exact (d207_L hw he pm_FU).1 h
              · rw [if_neg (Int.not_lt.mpr h569)] at h
                refine il4 c207_63 ?_
                refine r_ic c207_65 kI2 ?_
                refine r_icgt (t := 73) c207_66 rfl (fun h575 => ?_) (fun h575 => ?_)
                · rw [if_pos h575] at h
                  refine r_ic c207_73 kI0 ?_
                  rcases pm_xb_sp h with ⟨ot580, I577, J578, e579, rfl⟩ | ⟨ov576, I577, J578, e579, h⟩
                  · exact cx2 q207_74 hh207 (μ1 := (I577, J578, P, pm_T0, e + 1)) (d174 hw he e579) rfl
                  refine cz2 q207_74 (μ1 := (I577, J578, P, pm_T0, e)) (d174 hw he e579) rfl ?_
                  refine r_ic c207_77 kI0 ?_
                  refine is5 c207_78 rfl ?_
                  refine r_ic c207_80 kIm1 ?_
                  refine is6 c207_81 rfl ?_
                  refine r_ic c207_83 kI0 ?_
                  refine is7 c207_84 rfl ?_
                  refine r_ic c207_86 kI0 ?_
                  refine is8 c207_87 rfl ?_
                  exact (d207_L hw he pm_FU).1 h
                · rw [if_neg (Int.not_lt.mpr h575)] at h
                  refine r_ic c207_69 kI1 ?_
                  refine r_go (t := 74) c207_70 rfl ?_
                  rcases pm_xb_sp h with ⟨ot585, I582, J583, e584, rfl⟩ | ⟨ov581, I582, J583, e584, h⟩
                  · exact cx2 q207_74 hh207 (μ1 := (I582, J583, P, pm_T0, e + 1)) (d174 hw he e584) rfl
                  refine cz2 q207_74 (μ1 := (I582, J583, P, pm_T0, e)) (d174 hw he e584) rfl ?_
                  refine r_ic c207_77 kI0 ?_
                  refine is5 c207_78 rfl ?_
                  refine r_ic c207_80 kIm1 ?_
                  refine is6 c207_81 rfl ?_
                  refine r_ic c207_83 kI0 ?_
                  refine is7 c207_84 rfl ?_
                  refine r_ic c207_86 kI0 ?_
                  refine is8 c207_87 rfl ?_
                  exact (d207_L hw he pm_FU).1 h
            · rw [if_neg (Int.not_lt.mpr h563)] at h
              refine r_ic c207_49 kI1 ?_
              refine r_go (t := 54) c207_50 rfl ?_
              rcases pm_xb_sp h with ⟨ot590, I587, J588, e589, rfl⟩ | ⟨ov586, I587, J588, e589, h⟩
              · exact cx2 q207_54 hh207 (μ1 := (I587, J588, P, pm_T0, e + 1)) (d174 hw he e589) rfl
              refine cz2 q207_54 (μ1 := (I587, J588, P, pm_T0, e)) (d174 hw he e589) rfl ?_
              refine al0 c207_57 ?_
              refine il4 c207_58 ?_
              refine r_iflt (t := 73) c207_60 rfl (fun h591 => ?_) (fun h591 => ?_)
              · rw [if_pos h591] at h
                refine r_ic c207_73 kI0 ?_
                rcases pm_xb_sp h with ⟨ot596, I593, J594, e595, rfl⟩ | ⟨ov592, I593, J594, e595, h⟩
                · exact cx2 q207_74 hh207 (μ1 := (I593, J594, P, pm_T0, e + 1)) (d174 hw he e595) rfl
                refine cz2 q207_74 (μ1 := (I593, J594, P, pm_T0, e)) (d174 hw he e595) rfl ?_
                refine r_ic c207_77 kI0 ?_
                refine is5 c207_78 rfl ?_
                refine r_ic c207_80 kIm1 ?_
                refine is6 c207_81 rfl ?_
                refine r_ic c207_83 kI0 ?_
                refine is7 c207_84 rfl ?_
                refine r_ic c207_86 kI0 ?_
                refine is8 c207_87 rfl ?_
                exact (d207_L hw he pm_FU).1 h
              · rw [if_neg (Int.not_lt.mpr h591)] at h
                refine il4 c207_63 ?_
                refine r_ic c207_65 kI2 ?_
                refine r_icgt (t := 73) c207_66 rfl (fun h597 => ?_) (fun h597 => ?_)
                · rw [if_pos h597] at h
                  refine r_ic c207_73 kI0 ?_
                  rcases pm_xb_sp h with ⟨ot602, I599, J600, e601, rfl⟩ | ⟨ov598, I599, J600, e601, h⟩
                  · exact cx2 q207_74 hh207 (μ1 := (I599, J600, P, pm_T0, e + 1)) (d174 hw he e601) rfl
                  refine cz2 q207_74 (μ1 := (I599, J600, P, pm_T0, e)) (d174 hw he e601) rfl ?_
                  refine r_ic c207_77 kI0 ?_
                  refine is5 c207_78 rfl ?_
                  refine r_ic c207_80 kIm1 ?_
                  refine is6 c207_81 rfl ?_
                  refine r_ic c207_83 kI0 ?_
                  refine is7 c207_84 rfl ?_
                  refine r_ic c207_86 kI0 ?_
                  refine is8 c207_87 rfl ?_
                  exact (d207_L hw he pm_FU).1 h
                · rw [if_neg (Int.not_lt.mpr h597)] at h
                  refine r_ic c207_69 kI1 ?_
                  refine r_go (t := 74) c207_70 rfl ?_
                  rcases pm_xb_sp h with ⟨ot607, I604, J605, e606, rfl⟩ | ⟨ov603, I604, J605, e606, h⟩
                  · exact cx2 q207_74 hh207 (μ1 := (I604, J605, P, pm_T0, e + 1)) (d174 hw he e606) rfl
                  refine cz2 q207_74 (μ1 := (I604, J605, P, pm_T0, e)) (d174 hw he e606) rfl ?_
                  refine r_ic c207_77 kI0 ?_
                  refine is5 c207_78 rfl ?_
                  refine r_ic c207_80 kIm1 ?_
                  refine is6 c207_81 rfl ?_
                  refine r_ic c207_83 kI0 ?_
                  refine is7 c207_84 rfl ?_
                  refine r_ic c207_86 kI0 ?_
                  refine is8 c207_87 rfl ?_
                  exact (d207_L hw he pm_FU).1 h
        · rw [if_neg (Int.not_lt.mpr h534)] at h
          refine r_ic c207_30 kI1 ?_
          refine r_go (t := 35) c207_31 rfl ?_
          rcases pm_xb_sp h with ⟨ot612, I609, J610, e611, rfl⟩ | ⟨ov608, I609, J610, e611, h⟩
          · exact cx2 q207_35 hh207 (μ1 := (I609, J610, P, pm_T0, e + 1)) (d174 hw he e611) rfl
          refine cz2 q207_35 (μ1 := (I609, J610, P, pm_T0, e)) (d174 hw he e611) rfl ?_
          refine al0 c207_38 ?_
          refine il3 c207_39 ?_
          refine r_iflt (t := 53) c207_40 rfl (fun h613 => ?_) (fun h613 => ?_)
          · rw [if_pos h613] at h
            refine r_ic c207_53 kI0 ?_
            rcases pm_xb_sp h with ⟨ot618, I615, J616, e617, rfl⟩ | ⟨ov614, I615, J616, e617, h⟩
            · exact cx2 q207_54 hh207 (μ1 := (I615, J616, P, pm_T0, e + 1)) (d174 hw he e617) rfl
            refine cz2 q207_54 (μ1 := (I615, J616, P, pm_T0, e)) (d174 hw he e617) rfl ?_
            refine al0 c207_57 ?_
            refine il4 c207_58 ?_
            refine r_iflt (t := 73) c207_60 rfl (fun h619 => ?_) (fun h619 => ?_)
            · rw [if_pos h619] at h
              refine r_ic c207_73 kI0 ?_
              rcases pm_xb_sp h with ⟨ot624, I621, J622, e623, rfl⟩ | ⟨ov620, I621, J622, e623, h⟩
              · exact cx2 q207_74 hh207 (μ1 := (I621, J622, P, pm_T0, e + 1)) (d174 hw he e623) rfl
              refine cz2 q207_74 (μ1 := (I621, J622, P, pm_T0, e)) (d174 hw he e623) rfl ?_
              refine r_ic c207_77 kI0 ?_
              refine is5 c207_78 rfl ?_
              refine r_ic c207_80 kIm1 ?_
              refine is6 c207_81 rfl ?_
              refine r_ic c207_83 kI0 ?_
              refine is7 c207_84 rfl ?_
              refine r_ic c207_86 kI0 ?_
              refine is8 c207_87 rfl ?_
              exact (d207_L hw he pm_FU).1 h
            · rw [if_neg (Int.not_lt.mpr h619)] at h
              refine il4 c207_63 ?_
              refine r_ic c207_65 kI2 ?_
              refine r_icgt (t := 73) c207_66 rfl (fun h625 => ?_) (fun h625 => ?_)
              · rw [if_pos h625] at h
                refine r_ic c207_73 kI0 ?_
                rcases pm_xb_sp h with ⟨ot630, I627, J628, e629, rfl⟩ | ⟨ov626, I627, J628, e629, h⟩
                · exact cx2 q207_74 hh207 (μ1 := (I627, J628, P, pm_T0, e + 1)) (d174 hw he e629) rfl
                refine cz2 q207_74 (μ1 := (I627, J628, P, pm_T0, e)) (d174 hw he e629) rfl ?_
                refine r_ic c207_77 kI0 ?_
                refine is5 c207_78 rfl ?_
                refine r_ic c207_80 kIm1 ?_
                refine is6 c207_81 rfl ?_
                refine r_ic c207_83 kI0 ?_
                refine is7 c207_84 rfl ?_
                refine r_ic c207_86 kI0 ?_
                refine is8 c207_87 rfl ?_
                exact (d207_L hw he pm_FU).1 h
              · rw [if_neg (Int.not_lt.mpr h625)] at h
                refine r_ic c207_69 kI1 ?_
                refine r_go (t := 74) c207_70 rfl ?_
                rcases pm_xb_sp h with ⟨ot635, I632, J633, e634, rfl⟩ | ⟨ov631, I632, J633, e634, h⟩
                · exact cx2 q207_74 hh207 (μ1 := (I632, J633, P, pm_T0, e + 1)) (d174 hw he e634) rfl
                refine cz2 q207_74 (μ1 := (I632, J633, P, pm_T0, e)) (d174 hw he e634) rfl ?_
                refine r_ic c207_77 kI0 ?_
                refine is5 c207_78 rfl ?_
                refine r_ic c207_80 kIm1 ?_
                refine is6 c207_81 rfl ?_
                refine r_ic c207_83 kI0 ?_
                refine is7 c207_84 rfl ?_
                refine r_ic c207_86 kI0 ?_
                refine is8 c207_87 rfl ?_
                exact (d207_L hw he pm_FU).1 h
          · rw [if_neg (Int.not_lt.mpr h613)] at h
            refine il3 c207_43 ?_
            refine r_bi c207_44 kB99 ?_
            refine r_icgt (t := 53) c207_46 rfl (fun h636 => ?_) (fun h636 => ?_)
            · rw [if_pos h636] at h
              refine r_ic c207_53 kI0 ?_
              rcases pm_xb_sp h with ⟨ot641, I638, J639, e640, rfl⟩ | ⟨ov637, I638, J639, e640, h⟩
              · exact cx2 q207_54 hh207 (μ1 := (I638, J639, P, pm_T0, e + 1)) (d174 hw he e640) rfl
              refine cz2 q207_54 (μ1 := (I638, J639, P, pm_T0, e)) (d174 hw he e640) rfl ?_
              refine al0 c207_57 ?_
              refine il4 c207_58 ?_
              refine r_iflt (t := 73) c207_60 rfl (fun h642 => ?_) (fun h642 => ?_)
              · rw [if_pos h642] at h
                refine r_ic c207_73 kI0 ?_
                rcases pm_xb_sp h with ⟨ot647, I644, J645, e646, rfl⟩ | ⟨ov643, I644, J645, e646, h⟩
                · exact cx2 q207_74 hh207 (μ1 := (I644, J645, P, pm_T0, e + 1)) (d174 hw he e646) rfl
                refine cz2 q207_74 (μ1 := (I644, J645, P, pm_T0, e)) (d174 hw he e646) rfl ?_
                refine r_ic c207_77 kI0 ?_
                refine is5 c207_78 rfl ?_
                refine r_ic c207_80 kIm1 ?_
                refine is6 c207_81 rfl ?_
                refine r_ic c207_83 kI0 ?_
                refine is7 c207_84 rfl ?_
                refine r_ic c207_86 kI0 ?_
                refine is8 c207_87 rfl ?_
                exact (d207_L hw he pm_FU).1 h
              · rw [if_neg (Int.not_lt.mpr h642)] at h
                refine il4 c207_63 ?_
                refine r_ic c207_65 kI2 ?_
                refine r_icgt (t := 73) c207_66 rfl (fun h648 => ?_) (fun h648 => ?_)
                · rw [if_pos h648] at h
                  refine r_ic c207_73 kI0 ?_
                  rcases pm_xb_sp h with ⟨ot653, I650, J651, e652, rfl⟩ | ⟨ov649, I650, J651, e652, h⟩
                  · exact cx2 q207_74 hh207 (μ1 := (I650, J651, P, pm_T0, e + 1)) (d174 hw he e652) rfl
                  refine cz2 q207_74 (μ1 := (I650, J651, P, pm_T0, e)) (d174 hw he e652) rfl ?_
                  refine r_ic c207_77 kI0 ?_
                  refine is5 c207_78 rfl ?_
                  refine r_ic c207_80 kIm1 ?_
                  refine is6 c207_81 rfl ?_
                  refine r_ic c207_83 kI0 ?_
                  refine is7 c207_84 rfl ?_
                  refine r_ic c207_86 kI0 ?_
                  refine is8 c207_87 rfl ?_
                  exact (d207_L hw he pm_FU).1 h
                · rw [if_neg (Int.not_lt.mpr h648)] at h
                  refine r_ic c207_69 kI1 ?_
                  refine r_go (t := 74) c207_70 rfl ?_
                  rcases pm_xb_sp h with ⟨ot658, I655, J656, e657, rfl⟩ | ⟨ov654, I655, J656, e657, h⟩
                  · exact cx2 q207_74 hh207 (μ1 := (I655, J656, P, pm_T0, e + 1)) (d174 hw he e657) rfl
                  refine cz2 q207_74 (μ1 := (I655, J656, P, pm_T0, e)) (d174 hw he e657) rfl ?_
                  refine r_ic c207_77 kI0 ?_
                  refine is5 c207_78 rfl ?_
                  refine r_ic c207_80 kIm1 ?_
                  refine is6 c207_81 rfl ?_
                  refine r_ic c207_83 kI0 ?_
                  refine is7 c207_84 rfl ?_
                  refine r_ic c207_86 kI0 ?_
                  refine is8 c207_87 rfl ?_
                  exact (d207_L hw he pm_FU).1 h
            · rw [if_neg (Int.not_lt.mpr h636)] at h
              refine r_ic c207_49 kI1 ?_
              refine r_go (t := 54) c207_50 rfl ?_
              rcases pm_xb_sp h with ⟨ot663, I660, J661, e662, rfl⟩ | ⟨ov659, I660, J661, e662, h⟩
              · exact cx2 q207_54 hh207 (μ1 := (I660, J661, P, pm_T0, e + 1)) (d174 hw he e662) rfl
              refine cz2 q207_54 (μ1 := (I660, J661, P, pm_T0, e)) (d174 hw he e662) rfl ?_
              refine al0 c207_57 ?_
              refine il4 c207_58 ?_
              refine r_iflt (t := 73) c207_60 rfl (fun h664 => ?_) (fun h664 => ?_)
              · rw [if_pos h664] at h
                refine r_ic c207_73 kI0 ?_
                rcases pm_xb_sp h with ⟨ot669, I666, J667, e668, rfl⟩ | ⟨ov665, I666, J667, e668, h⟩
                · exact cx2 q207_74 hh207 (μ1 := (I666, J667, P, pm_T0, e + 1)) (d174 hw he e668) rfl
                refine cz2 q207_74 (μ1 := (I666, J667, P, pm_T0, e)) (d174 hw he e668) rfl ?_
                refine r_ic c207_77 kI0 ?_
                refine is5 c207_78 rfl ?_
                refine r_ic c207_80 kIm1 ?_
                refine is6 c207_81 rfl ?_
                refine r_ic c207_83 kI0 ?_
                refine is7 c207_84 rfl ?_
                refine r_ic c207_86 kI0 ?_
                refine is8 c207_87 rfl ?_
                exact (d207_L hw he pm_FU).1 h
              · rw [if_neg (Int.not_lt.mpr h664)] at h
                refine il4 c207_63 ?_
                refine r_ic c207_65 kI2 ?_
                refine r_icgt (t := 73) c207_66 rfl (fun h670 => ?_) (fun h670 => ?_)
                · rw [if_pos h670] at h
                  refine r_ic c207_73 kI0 ?_
                  rcases pm_xb_sp h with ⟨ot675, I672, J673, e674, rfl⟩ | ⟨ov671, I672, J673, e674, h⟩
                  · exact cx2 q207_74 hh207 (μ1 := (I672, J673, P, pm_T0, e + 1)) (d174 hw he e674) rfl
                  refine cz2 q207_74 (μ1 := (I672, J673, P, pm_T0, e)) (d174 hw he e674) rfl ?_
                  refine r_ic c207_77 kI0 ?_
                  refine is5 c207_78 rfl ?_
                  refine r_ic c207_80 kIm1 ?_
                  refine is6 c207_81 rfl ?_
                  refine r_ic c207_83 kI0 ?_
                  refine is7 c207_84 rfl ?_
                  refine r_ic c207_86 kI0 ?_
                  refine is8 c207_87 rfl ?_
                  exact (d207_L hw he pm_FU).1 h
                · rw [if_neg (Int.not_lt.mpr h670)] at h
                  refine r_ic c207_69 kI1 ?_
                  refine r_go (t := 74) c207_70 rfl ?_
                  rcases pm_xb_sp h with ⟨ot680, I677, J678, e679, rfl⟩ | ⟨ov676, I677, J678, e679, h⟩
                  · exact cx2 q207_74 hh207 (μ1 := (I677, J678, P, pm_T0, e + 1)) (d174 hw he e679) rfl
                  refine cz2 q207_74 (μ1 := (I677, J678, P, pm_T0, e)) (d174 hw he e679) rfl ?_
                  refine r_ic c207_77 kI0 ?_
                  refine is5 c207_78 rfl ?_
                  refine r_ic c207_80 kIm1 ?_
                  refine is6 c207_81 rfl ?_
                  refine r_ic c207_83 kI0 ?_
                  refine is7 c207_84 rfl ?_
                  refine r_ic c207_86 kI0 ?_
                  refine is8 c207_87 rfl ?_
                  exact (d207_L hw he pm_FU).1 h
def f210 (x1 : Int32) (x2 : Int32) (x3 : Int32) (I : Nat → Nat → Int32) (J : Nat → Nat → Int64) : Option ((Int32 ⊕ Nat) × (Nat → Nat → Int32) × (Nat → Nat → Int64)) := (if x1.toInt < 0 then pm_xb (f174 0 I J) (fun ov2 I3 J4 => (if x2.toInt < 0 then pm_xb (f174 0 I3 J4) (fun ov8 I9 J10 => (if x3.toInt < 0 then pm_xb (f174 0 I9 J10) (fun ov14 I15 J16 => some (.inl (v208 x1 x2 x3 I15), I15, J16)) else (if (99 : Int32).toInt < x3.toInt then pm_xb (f174 0 I9 J10) (fun ov20 I21 J22 => some (.inl (v208 x1 x2 x3 I21), I21, J22)) else pm_xb (f174 1 I9 J10) (fun ov25 I26 J27 => some (.inl (v208 x1 x2 x3 I26), I26, J27))))) else (if (99 : Int32).toInt < x2.toInt then pm_xb (f174 0 I3 J4) (fun ov31 I32 J33 => (if x3.toInt < 0 then pm_xb (f174 0 I32 J33) (fun ov37 I38 J39 => some (.inl (v208 x1 x2 x3 I38), I38, J39)) else (if (99 : Int32).toInt < x3.toInt then pm_xb (f174 0 I32 J33) (fun ov43 I44 J45 => some (.inl (v208 x1 x2 x3 I44), I44, J45)) else pm_xb (f174 1 I32 J33) (fun ov48 I49 J50 => some (.inl (v208 x1 x2 x3 I49), I49, J50))))) else pm_xb (f174 1 I3 J4) (fun ov53 I54 J55 => (if x3.toInt < 0 then pm_xb (f174 0 I54 J55) (fun ov59 I60 J61 => some (.inl (v208 x1 x2 x3 I60), I60, J61)) else (if (99 : Int32).toInt < x3.toInt then pm_xb (f174 0 I54 J55) (fun ov65 I66 J67 => some (.inl (v208 x1 x2 x3 I66), I66, J67)) else pm_xb (f174 1 I54 J55) (fun ov70 I71 J72 => some (.inl (v208 x1 x2 x3 I71), I71, J72)))))))) else (if (99 : Int32).toInt < x1.toInt then pm_xb (f174 0 I J) (fun ov76 I77 J78 => (if x2.toInt < 0 then pm_xb (f174 0 I77 J78) (fun ov82 I83 J84 => (if x3.toInt < 0 then pm_xb (f174 0 I83 J84) (fun ov88 I89 J90 => some (.inl (v208 x1 x2 x3 I89), I89, J90)) else (if (99 : Int32).toInt < x3.toInt then pm_xb (f174 0 I83 J84) (fun ov94 I95 J96 => some (.inl (v208 x1 x2 x3 I95), I95, J96)) else pm_xb (f174 1 I83 J84) (fun ov99 I100 J101 => some (.inl (v208 x1 x2 x3 I100), I100, J101))))) else (if (99 : Int32).toInt < x2.toInt then pm_xb (f174 0 I77 J78) (fun ov105 I106 J107 => (if x3.toInt < 0 then pm_xb (f174 0 I106 J107) (fun ov111 I112 J113 => some (.inl (v208 x1 x2 x3 I112), I112, J113)) else (if (99 : Int32).toInt < x3.toInt then pm_xb (f174 0 I106 J107) (fun ov117 I118 J119 => some (.inl (v208 x1 x2 x3 I118), I118, J119)) else pm_xb (f174 1 I106 J107) (fun ov122 I123 J124 => some (.inl (v208 x1 x2 x3 I123), I123, J124))))) else pm_xb (f174 1 I77 J78) (fun ov127 I128 J129 => (if x3.toInt < 0 then pm_xb (f174 0 I128 J129) (fun ov133 I134 J135 => some (.inl (v208 x1 x2 x3 I134), I134, J135)) else (if (99 : Int32).toInt < x3.toInt then pm_xb (f174 0 I128 J129) (fun ov139 I140 J141 => some (.inl (v208 x1 x2 x3 I140), I140, J141)) else pm_xb (f174 1 I128 J129) (fun ov144 I145 J146 => some (.inl (v208 x1 x2 x3 I145), I145, J146)))))))) else pm_xb (f174 1 I J) (fun ov149 I150 J151 => (if x2.toInt < 0 then pm_xb (f174 0 I150 J151) (fun ov155 I156 J157 => (if x3.toInt < 0 then pm_xb (f174 0 I156 J157) (fun ov161 I162 J163 => some (.inl (v208 x1 x2 x3 I162), I162, J163)) else (if (99 : Int32).toInt < x3.toInt then pm_xb (f174 0 I156 J157) (fun ov167 I168 J169 => some (.inl (v208 x1 x2 x3 I168), I168, J169)) else pm_xb (f174 1 I156 J157) (fun ov172 I173 J174 => some (.inl (v208 x1 x2 x3 I173), I173, J174))))) else (if (99 : Int32).toInt < x2.toInt then pm_xb (f174 0 I150 J151) (fun ov178 I179 J180 => (if x3.toInt < 0 then pm_xb (f174 0 I179 J180) (fun ov184 I185 J186 => some (.inl (v208 x1 x2 x3 I185), I185, J186)) else (if (99 : Int32).toInt < x3.toInt then pm_xb (f174 0 I179 J180) (fun ov190 I191 J192 => some (.inl (v208 x1 x2 x3 I191), I191, J192)) else pm_xb (f174 1 I179 J180) (fun ov195 I196 J197 => some (.inl (v208 x1 x2 x3 I196), I196, J197))))) else pm_xb (f174 1 I150 J151) (fun ov200 I201 J202 => (if x3.toInt < 0 then pm_xb (f174 0 I201 J202) (fun ov206 I207 J208 => some (.inl (v208 x1 x2 x3 I207), I207, J208)) else (if (99 : Int32).toInt < x3.toInt then pm_xb (f174 0 I201 J202) (fun ov212 I213 J214 => some (.inl (v208 x1 x2 x3 I213), I213, J214)) else pm_xb (f174 1 I201 J202) (fun ov217 I218 J219 => some (.inl (v208 x1 x2 x3 I218), I218, J219))))))))))
theorem d210 {X : (Nat → Int32) × Nat} {d : Nat} {I : Nat → Nat → Int32} {J : Nat → Nat → Int64} {P : Nat → Nat → Value} {e r k r2 k2 : Nat} {x1 : Int32} {x2 : Int32} {x3 : Int32} {q : (Int32 ⊕ Nat) × (Nat → Nat → Int32) × (Nat → Nat → Int64)} (hw : pm_W P r k r2 k2) (he : e < 100000)  (h : f210 x1 x2 x3 I J = some q) : pm_Fn X (d + 1) 210 1 [.ref 0, .int x1, .int x2, .int x3] (I, J, P, pm_T0, e) (pm_sI q.1) (q.2.1, q.2.2, P, pm_T0, pm_sE q.1 e) := by
  obtain ⟨hp, hw1, hw2, hw3, hw4, hw5, hw6, hw7, hw8, hw9, hw10, hw11⟩ := id hw
  have hwa := hw5.1
  have hwb := hw6.1
  have hwc := hw7.1
  have hwd := hw8.1
  unfold f210 at h
  refine fn_v rc210 (c := 11) (nf := 14) (by first | rfl | assumption) ml210 rfl rfl rfl rfl ?_
  refine al0 c210_0 ?_
  refine il1 c210_1 ?_
  refine r_iflt (t := 15) c210_2 rfl (fun h1 => ?_) (fun h1 => ?_)
  · rw [if_pos h1] at h
    refine r_ic c210_15 kI0 ?_
    rcases pm_xb_sp h with ⟨ot6, I3, J4, e5, rfl⟩ | ⟨ov2, I3, J4, e5, h⟩
    · exact cx2 q210_16 hh210 (μ1 := (I3, J4, P, pm_T0, e + 1)) (d174 hw he e5) rfl
    refine cz2 q210_16 (μ1 := (I3, J4, P, pm_T0, e)) (d174 hw he e5) rfl ?_
    refine al0 c210_19 ?_
    refine il2 c210_20 ?_
    refine r_iflt (t := 34) c210_21 rfl (fun h7 => ?_) (fun h7 => ?_)
    · rw [if_pos h7] at h
      refine r_ic c210_34 kI0 ?_
      rcases pm_xb_sp h with ⟨ot12, I9, J10, e11, rfl⟩ | ⟨ov8, I9, J10, e11, h⟩
      · exact cx2 q210_35 hh210 (μ1 := (I9, J10, P, pm_T0, e + 1)) (d174 hw he e11) rfl
      refine cz2 q210_35 (μ1 := (I9, J10, P, pm_T0, e)) (d174 hw he e11) rfl ?_
      refine al0 c210_38 ?_
      refine il3 c210_39 ?_
      refine r_iflt (t := 53) c210_40 rfl (fun h13 => ?_) (fun h13 => ?_)
      · rw [if_pos h13] at h
        refine r_ic c210_53 kI0 ?_
        rcases pm_xb_sp h with ⟨ot18, I15, J16, e17, rfl⟩ | ⟨ov14, I15, J16, e17, h⟩
        · exact cx2 q210_54 hh210 (μ1 := (I15, J16, P, pm_T0, e + 1)) (d174 hw he e17) rfl
        refine cz2 q210_54 (μ1 := (I15, J16, P, pm_T0, e)) (d174 hw he e17) rfl ?_
        refine il1 c210_57 ?_
        refine il2 c210_58 ?_
        refine il3 c210_59 ?_
        refine cv3 q210_60 (d208 hw rfl) rfl ?_
        cases h
        exact r_ri c210_63 rt210 rfl rfl
      · rw [if_neg (Int.not_lt.mpr h13)] at h
        refine il3 c210_43 ?_
        refine r_bi c210_44 kB99 ?_
        refine r_icgt (t := 53) c210_46 rfl (fun h19 => ?_) (fun h19 => ?_)
        · rw [if_pos h19] at h
          refine r_ic c210_53 kI0 ?_
          rcases pm_xb_sp h with ⟨ot24, I21, J22, e23, rfl⟩ | ⟨ov20, I21, J22, e23, h⟩
          · exact cx2 q210_54 hh210 (μ1 := (I21, J22, P, pm_T0, e + 1)) (d174 hw he e23) rfl
          refine cz2 q210_54 (μ1 := (I21, J22, P, pm_T0, e)) (d174 hw he e23) rfl ?_
          refine il1 c210_57 ?_
          refine il2 c210_58 ?_
          refine il3 c210_59 ?_
          refine cv3 q210_60 (d208 hw rfl) rfl ?_
          cases h
          exact r_ri c210_63 rt210 rfl rfl
        · rw [if_neg (Int.not_lt.mpr h19)] at h
          refine r_ic c210_49 kI1 ?_
          refine r_go (t := 54) c210_50 rfl ?_
          rcases pm_xb_sp h with ⟨ot29, I26, J27, e28, rfl⟩ | ⟨ov25, I26, J27, e28, h⟩
          · exact cx2 q210_54 hh210 (μ1 := (I26, J27, P, pm_T0, e + 1)) (d174 hw he e28) rfl
          refine cz2 q210_54 (μ1 := (I26, J27, P, pm_T0, e)) (d174 hw he e28) rfl ?_
          refine il1 c210_57 ?_
          refine il2 c210_58 ?_
          refine il3 c210_59 ?_
          refine cv3 q210_60 (d208 hw rfl) rfl ?_
          cases h
          exact r_ri c210_63 rt210 rfl rfl
    · rw [if_neg (Int.not_lt.mpr h7)] at h
      refine il2 c210_24 ?_
      refine r_bi c210_25 kB99 ?_
      refine r_icgt (t := 34) c210_27 rfl (fun h30 => ?_) (fun h30 => ?_)
      · rw [if_pos h30] at h
        refine r_ic c210_34 kI0 ?_
        rcases pm_xb_sp h with ⟨ot35, I32, J33, e34, rfl⟩ | ⟨ov31, I32, J33, e34, h⟩
        · exact cx2 q210_35 hh210 (μ1 := (I32, J33, P, pm_T0, e + 1)) (d174 hw he e34) rfl
        refine cz2 q210_35 (μ1 := (I32, J33, P, pm_T0, e)) (d174 hw he e34) rfl ?_
        refine al0 c210_38 ?_
        refine il3 c210_39 ?_
        refine r_iflt (t := 53) c210_40 rfl (fun h36 => ?_) (fun h36 => ?_)
        · rw [if_pos h36] at h
          refine r_ic c210_53 kI0 ?_
          rcases pm_xb_sp h with ⟨ot41, I38, J39, e40, rfl⟩ | ⟨ov37, I38, J39, e40, h⟩
          · exact cx2 q210_54 hh210 (μ1 := (I38, J39, P, pm_T0, e + 1)) (d174 hw he e40) rfl
          refine cz2 q210_54 (μ1 := (I38, J39, P, pm_T0, e)) (d174 hw he e40) rfl ?_
          refine il1 c210_57 ?_
          refine il2 c210_58 ?_
          refine il3 c210_59 ?_
          refine cv3 q210_60 (d208 hw rfl) rfl ?_
          cases h
          exact r_ri c210_63 rt210 rfl rfl
        · rw [if_neg (Int.not_lt.mpr h36)] at h
          refine il3 c210_43 ?_
          refine r_bi c210_44 kB99 ?_
          refine r_icgt (t := 53) c210_46 rfl (fun h42 => ?_) (fun h42 => ?_)
          · rw [if_pos h42] at h
            refine r_ic c210_53 kI0 ?_
            rcases pm_xb_sp h with ⟨ot47, I44, J45, e46, rfl⟩ | ⟨ov43, I44, J45, e46, h⟩
            · exact cx2 q210_54 hh210 (μ1 := (I44, J45, P, pm_T0, e + 1)) (d174 hw he e46) rfl
            refine cz2 q210_54 (μ1 := (I44, J45, P, pm_T0, e)) (d174 hw he e46) rfl ?_
            refine il1 c210_57 ?_
            refine il2 c210_58 ?_
            refine il3 c210_59 ?_
            refine cv3 q210_60 (d208 hw rfl) rfl ?_
            cases h
            exact r_ri c210_63 rt210 rfl rfl
          · rw [if_neg (Int.not_lt.mpr h42)] at h
            refine r_ic c210_49 kI1 ?_
            refine r_go (t := 54) c210_50 rfl ?_
            rcases pm_xb_sp h with ⟨ot52, I49, J50, e51, rfl⟩ | ⟨ov48, I49, J50, e51, h⟩
            · exact cx2 q210_54 hh210 (μ1 := (I49, J50, P, pm_T0, e + 1)) (d174 hw he e51) rfl
            refine cz2 q210_54 (μ1 := (I49, J50, P, pm_T0, e)) (d174 hw he e51) rfl ?_
            refine il1 c210_57 ?_
            refine il2 c210_58 ?_
            refine il3 c210_59 ?_
            refine cv3 q210_60 (d208 hw rfl) rfl ?_
            cases h
            exact r_ri c210_63 rt210 rfl rfl
      · rw [if_neg (Int.not_lt.mpr h30)] at h
        refine r_ic c210_30 kI1 ?_
        refine r_go (t := 35) c210_31 rfl ?_
        rcases pm_xb_sp h with ⟨ot57, I54, J55, e56, rfl⟩ | ⟨ov53, I54, J55, e56, h⟩
        · exact cx2 q210_35 hh210 (μ1 := (I54, J55, P, pm_T0, e + 1)) (d174 hw he e56) rfl
        refine cz2 q210_35 (μ1 := (I54, J55, P, pm_T0, e)) (d174 hw he e56) rfl ?_
        refine al0 c210_38 ?_
        refine il3 c210_39 ?_
        refine r_iflt (t := 53) c210_40 rfl (fun h58 => ?_) (fun h58 => ?_)
        · rw [if_pos h58] at h
          refine r_ic c210_53 kI0 ?_
          rcases pm_xb_sp h with ⟨ot63, I60, J61, e62, rfl⟩ | ⟨ov59, I60, J61, e62, h⟩
          · exact cx2 q210_54 hh210 (μ1 := (I60, J61, P, pm_T0, e + 1)) (d174 hw he e62) rfl
          refine cz2 q210_54 (μ1 := (I60, J61, P, pm_T0, e)) (d174 hw he e62) rfl ?_
          refine il1 c210_57 ?_
          refine il2 c210_58 ?_
          refine il3 c210_59 ?_
          refine cv3 q210_60 (d208 hw rfl) rfl ?_
          cases h
          exact r_ri c210_63 rt210 rfl rfl
        · rw [if_neg (Int.not_lt.mpr h58)] at h
          refine il3 c210_43 ?_
          refine r_bi c210_44 kB99 ?_
          refine r_icgt (t := 53) c210_46 rfl (fun h64 => ?_) (fun h64 => ?_)
          · rw [if_pos h64] at h
            refine r_ic c210_53 kI0 ?_
            rcases pm_xb_sp h with ⟨ot69, I66, J67, e68, rfl⟩ | ⟨ov65, I66, J67, e68, h⟩
            · exact cx2 q210_54 hh210 (μ1 := (I66, J67, P, pm_T0, e + 1)) (d174 hw he e68) rfl
            refine cz2 q210_54 (μ1 := (I66, J67, P, pm_T0, e)) (d174 hw he e68) rfl ?_
            refine il1 c210_57 ?_
            refine il2 c210_58 ?_
            refine il3 c210_59 ?_
            refine cv3 q210_60 (d208 hw rfl) rfl ?_
            cases h
            exact r_ri c210_63 rt210 rfl rfl
          · rw [if_neg (Int.not_lt.mpr h64)] at h
            refine r_ic c210_49 kI1 ?_
            refine r_go (t := 54) c210_50 rfl ?_
            rcases pm_xb_sp h with ⟨ot74, I71, J72, e73, rfl⟩ | ⟨ov70, I71, J72, e73, h⟩
            · exact cx2 q210_54 hh210 (μ1 := (I71, J72, P, pm_T0, e + 1)) (d174 hw he e73) rfl
            refine cz2 q210_54 (μ1 := (I71, J72, P, pm_T0, e)) (d174 hw he e73) rfl ?_
            refine il1 c210_57 ?_
            refine il2 c210_58 ?_
            refine il3 c210_59 ?_
            refine cv3 q210_60 (d208 hw rfl) rfl ?_
            cases h
            exact r_ri c210_63 rt210 rfl rfl
  · rw [if_neg (Int.not_lt.mpr h1)] at h
    refine il1 c210_5 ?_
    refine r_bi c210_6 kB99 ?_
    refine r_icgt (t := 15) c210_8 rfl (fun h75 => ?_) (fun h75 => ?_)
    · rw [if_pos h75] at h
      refine r_ic c210_15 kI0 ?_
      rcases pm_xb_sp h with ⟨ot80, I77, J78, e79, rfl⟩ | ⟨ov76, I77, J78, e79, h⟩
      · exact cx2 q210_16 hh210 (μ1 := (I77, J78, P, pm_T0, e + 1)) (d174 hw he e79) rfl
      refine cz2 q210_16 (μ1 := (I77, J78, P, pm_T0, e)) (d174 hw he e79) rfl ?_
      refine al0 c210_19 ?_
      refine il2 c210_20 ?_
      refine r_iflt (t := 34) c210_21 rfl (fun h81 => ?_) (fun h81 => ?_)
      · rw [if_pos h81] at h
        refine r_ic c210_34 kI0 ?_
        rcases pm_xb_sp h with ⟨ot86, I83, J84, e85, rfl⟩ | ⟨ov82, I83, J84, e85, h⟩
        · exact cx2 q210_35 hh210 (μ1 := (I83, J84, P, pm_T0, e + 1)) (d174 hw he e85) rfl
        refine cz2 q210_35 (μ1 := (I83, J84, P, pm_T0, e)) (d174 hw he e85) rfl ?_
        refine al0 c210_38 ?_
        refine il3 c210_39 ?_
        refine r_iflt (t := 53) c210_40 rfl (fun h87 => ?_) (fun h87 => ?_)
        · rw [if_pos h87] at h
          refine r_ic c210_53 kI0 ?_
          rcases pm_xb_sp h with ⟨ot92, I89, J90, e91, rfl⟩ | ⟨ov88, I89, J90, e91, h⟩
          · exact cx2 q210_54 hh210 (μ1 := (I89, J90, P, pm_T0, e + 1)) (d174 hw he e91) rfl
          refine cz2 q210_54 (μ1 := (I89, J90, P, pm_T0, e)) (d174 hw he e91) rfl ?_
          refine il1 c210_57 ?_
          refine il2 c210_58 ?_
          refine il3 c210_59 ?_
          refine cv3 q210_60 (d208 hw rfl) rfl ?_
          cases h
          exact r_ri c210_63 rt210 rfl rfl
        · rw [if_neg (Int.not_lt.mpr h87)] at h
          refine il3 c210_43 ?_
          refine r_bi c210_44 kB99 ?_
          refine r_icgt (t := 53) c210_46 rfl (fun h93 => ?_) (fun h93 => ?_)
          · rw [if_pos h93] at h
            refine r_ic c210_53 kI0 ?_
            rcases pm_xb_sp h with ⟨ot98, I95, J96, e97, rfl⟩ | ⟨ov94, I95, J96, e97, h⟩
            · exact cx2 q210_54 hh210 (μ1 := (I95, J96, P, pm_T0, e + 1)) (d174 hw he e97) rfl
            refine cz2 q210_54 (μ1 := (I95, J96, P, pm_T0, e)) (d174 hw he e97) rfl ?_
            refine il1 c210_57 ?_
            refine il2 c210_58 ?_
            refine il3 c210_59 ?_
            refine cv3 q210_60 (d208 hw rfl) rfl ?_
            cases h
            exact r_ri c210_63 rt210 rfl rfl
          · rw [if_neg (Int.not_lt.mpr h93)] at h
            refine r_ic c210_49 kI1 ?_
            refine r_go (t := 54) c210_50 rfl ?_
            rcases pm_xb_sp h with ⟨ot103, I100, J101, e102, rfl⟩ | ⟨ov99, I100, J101, e102, h⟩
            · exact cx2 q210_54 hh210 (μ1 := (I100, J101, P, pm_T0, e + 1)) (d174 hw he e102) rfl
            refine cz2 q210_54 (μ1 := (I100, J101, P, pm_T0, e)) (d174 hw he e102) rfl ?_
            refine il1 c210_57 ?_
            refine il2 c210_58 ?_
            refine il3 c210_59 ?_
            refine cv3 q210_60 (d208 hw rfl) rfl ?_
            cases h
            exact r_ri c210_63 rt210 rfl rfl
      · rw [if_neg (Int.not_lt.mpr h81)] at h
        refine il2 c210_24 ?_
        refine r_bi c210_25 kB99 ?_
        refine r_icgt (t := 34) c210_27 rfl (fun h104 => ?_) (fun h104 => ?_)
        · rw [if_pos h104] at h
          refine r_ic c210_34 kI0 ?_
          rcases pm_xb_sp h with ⟨ot109, I106, J107, e108, rfl⟩ | ⟨ov105, I106, J107, e108, h⟩
          · exact cx2 q210_35 hh210 (μ1 := (I106, J107, P, pm_T0, e + 1)) (d174 hw he e108) rfl
          refine cz2 q210_35 (μ1 := (I106, J107, P, pm_T0, e)) (d174 hw he e108) rfl ?_
          refine al0 c210_38 ?_
          refine il3 c210_39 ?_
          refine r_iflt (t := 53) c210_40 rfl (fun h110 => ?_) (fun h110 => ?_)
          · rw [if_pos h110] at h
            refine r_ic c210_53 kI0 ?_
            rcases pm_xb_sp h with ⟨ot115, I112, J113, e114, rfl⟩ | ⟨ov111, I112, J113, e114, h⟩
            · exact cx2 q210_54 hh210 (μ1 := (I112, J113, P, pm_T0, e + 1)) (d174 hw he e114) rfl
            refine cz2 q210_54 (μ1 := (I112, J113, P, pm_T0, e)) (d174 hw he e114) rfl ?_
            refine il1 c210_57 ?_
            refine il2 c210_58 ?_
            refine il3 c210_59 ?_
            refine cv3 q210_60 (d208 hw rfl) rfl ?_
            cases h
            exact r_ri c210_63 rt210 rfl rfl
          · rw [if_neg (Int.not_lt.mpr h110)] at h
            refine il3 c210_43 ?_
            refine r_bi c210_44 kB99 ?_
            refine r_icgt (t := 53) c210_46 rfl (fun h116 => ?_) (fun h116 => ?_)
            · rw [if_pos h116] at h
              refine r_ic c210_53 kI0 ?_
              rcases pm_xb_sp h with ⟨ot121, I118, J119, e120, rfl⟩ | ⟨ov117, I118, J119, e120, h⟩
              · exact cx2 q210_54 hh210 (μ1 := (I118, J119, P, pm_T0, e + 1)) (d174 hw he e120) rfl
              refine cz2 q210_54 (μ1 := (I118, J119, P, pm_T0, e)) (d174 hw he e120) rfl ?_
              refine il1 c210_57 ?_
              refine il2 c210_58 ?_
              refine il3 c210_59 ?_
              refine cv3 q210_60 (d208 hw rfl) rfl ?_
              cases h
              exact r_ri c210_63 rt210 rfl rfl
            · rw [if_neg (Int.not_lt.mpr h116)] at h
              refine r_ic c210_49 kI1 ?_
              refine r_go (t := 54) c210_50 rfl ?_
              rcases pm_xb_sp h with ⟨ot126, I123, J124, e125, rfl⟩ | ⟨ov122, I123, J124, e125, h⟩
              · exact cx2 q210_54 hh210 (μ1 := (I123, J124, P, pm_T0, e + 1)) (d174 hw he e125) rfl
              refine cz2 q210_54 (μ1 := (I123, J124, P, pm_T0, e)) (d174 hw he e125) rfl ?_
              refine il1 c210_57 ?_
              refine il2 c210_58 ?_
              refine il3 c210_59 ?_
              refine cv3 q210_60 (d208 hw rfl) rfl ?_
              cases h
              exact r_ri c210_63 rt210 rfl rfl
        · rw [if_neg (Int.not_lt.mpr h104)] at h
          refine r_ic c210_30 kI1 ?_
          refine r_go (t := 35) c210_31 rfl ?_
          rcases pm_xb_sp h with ⟨ot131, I128, J129, e130, rfl⟩ | ⟨ov127, I128, J129, e130, h⟩
          · exact cx2 q210_35 hh210 (μ1 := (I128, J129, P, pm_T0, e + 1)) (d174 hw he e130) rfl
          refine cz2 q210_35 (μ1 := (I128, J129, P, pm_T0, e)) (d174 hw he e130) rfl ?_
          refine al0 c210_38 ?_
          refine il3 c210_39 ?_
          refine r_iflt (t := 53) c210_40 rfl (fun h132 => ?_) (fun h132 => ?_)
          · rw [if_pos h132] at h
            refine r_ic c210_53 kI0 ?_
            rcases pm_xb_sp h with ⟨ot137, I134, J135, e136, rfl⟩ | ⟨ov133, I134, J135, e136, h⟩
            · exact cx2 q210_54 hh210 (μ1 := (I134, J135, P, pm_T0, e + 1)) (d174 hw he e136) rfl
            refine cz2 q210_54 (μ1 := (I134, J135, P, pm_T0, e)) (d174 hw he e136) rfl ?_
            refine il1 c210_57 ?_
            refine il2 c210_58 ?_
            refine il3 c210_59 ?_
            refine cv3 q210_60 (d208 hw rfl) rfl ?_
            cases h
            exact r_ri c210_63 rt210 rfl rfl
          · rw [if_neg (Int.not_lt.mpr h132)] at h
            refine il3 c210_43 ?_
            refine r_bi c210_44 kB99 ?_
            refine r_icgt (t := 53) c210_46 rfl (fun h138 => ?_) (fun h138 => ?_)
            · rw [if_pos h138] at h
              refine r_ic c210_53 kI0 ?_
              rcases pm_xb_sp h with ⟨ot143, I140, J141, e142, rfl⟩ | ⟨ov139, I140, J141, e142, h⟩
              · exact cx2 q210_54 hh210 (μ1 := (I140, J141, P, pm_T0, e + 1)) (d174 hw he e142) rfl
              refine cz2 q210_54 (μ1 := (I140, J141, P, pm_T0, e)) (d174 hw he e142) rfl ?_
              refine il1 c210_57 ?_
              refine il2 c210_58 ?_
              refine il3 c210_59 ?_
              refine cv3 q210_60 (d208 hw rfl) rfl ?_
              cases h
              exact r_ri c210_63 rt210 rfl rfl
            · rw [if_neg (Int.not_lt.mpr h138)] at h
              refine r_ic c210_49 kI1 ?_
              refine r_go (t := 54) c210_50 rfl ?_
              rcases pm_xb_sp h with ⟨ot148, I145, J146, e147, rfl⟩ | ⟨ov144, I145, J146, e147, h⟩
              · exact cx2 q210_54 hh210 (μ1 := (I145, J146, P, pm_T0, e + 1)) (d174 hw he e147) rfl
              refine cz2 q210_54 (μ1 := (I145, J146, P, pm_T0, e)) (d174 hw he e147) rfl ?_
              refine il1 c210_57 ?_
              refine il2 c210_58 ?_
              refine il3 c210_59 ?_
              refine cv3 q210_60 (d208 hw rfl) rfl ?_
              cases h
              exact r_ri c210_63 rt210 rfl rfl
    · rw [if_neg (Int.not_lt.mpr h75)] at h
      refine r_ic c210_11 kI1 ?_
      refine r_go (t := 16) c210_12 rfl ?_
      rcases pm_xb_sp h with ⟨ot153, I150, J151, e152, rfl⟩ | ⟨ov149, I150, J151, e152, h⟩
      · exact cx2 q210_16 hh210 (μ1 := (I150, J151, P, pm_T0, e + 1)) (d174 hw he e152) rfl
      refine cz2 q210_16 (μ1 := (I150, J151, P, pm_T0, e)) (d174 hw he e152) rfl ?_
      refine al0 c210_19 ?_
      refine il2 c210_20 ?_
      refine r_iflt (t := 34) c210_21 rfl (fun h154 => ?_) (fun h154 => ?_)
      · rw [if_pos h154] at h
        refine r_ic c210_34 kI0 ?_
        rcases pm_xb_sp h with ⟨ot159, I156, J157, e158, rfl⟩ | ⟨ov155, I156, J157, e158, h⟩
        · exact cx2 q210_35 hh210 (μ1 := (I156, J157, P, pm_T0, e + 1)) (d174 hw he e158) rfl
        refine cz2 q210_35 (μ1 := (I156, J157, P, pm_T0, e)) (d174 hw he e158) rfl ?_
        refine al0 c210_38 ?_
        refine il3 c210_39 ?_
        refine r_iflt (t := 53) c210_40 rfl (fun h160 => ?_) (fun h160 => ?_)
        · rw [if_pos h160] at h
          refine r_ic c210_53 kI0 ?_
          rcases pm_xb_sp h with ⟨ot165, I162, J163, e164, rfl⟩ | ⟨ov161, I162, J163, e164, h⟩
          · exact cx2 q210_54 hh210 (μ1 := (I162, J163, P, pm_T0, e + 1)) (d174 hw he e164) rfl
          refine cz2 q210_54 (μ1 := (I162, J163, P, pm_T0, e)) (d174 hw he e164) rfl ?_
          refine il1 c210_57 ?_
          refine il2 c210_58 ?_
          refine il3 c210_59 ?_
          refine cv3 q210_60 (d208 hw rfl) rfl ?_
          cases h
          exact r_ri c210_63 rt210 rfl rfl
        · rw [if_neg (Int.not_lt.mpr h160)] at h
          refine il3 c210_43 ?_
          refine r_bi c210_44 kB99 ?_
          refine r_icgt (t := 53) c210_46 rfl (fun h166 => ?_) (fun h166 => ?_)
          · rw [if_pos h166] at h
            refine r_ic c210_53 kI0 ?_
            rcases pm_xb_sp h with ⟨ot171, I168, J169, e170, rfl⟩ | ⟨ov167, I168, J169, e170, h⟩
            · exact cx2 q210_54 hh210 (μ1 := (I168, J169, P, pm_T0, e + 1)) (d174 hw he e170) rfl
            refine cz2 q210_54 (μ1 := (I168, J169, P, pm_T0, e)) (d174 hw he e170) rfl ?_
            refine il1 c210_57 ?_
            refine il2 c210_58 ?_
            refine il3 c210_59 ?_
            refine cv3 q210_60 (d208 hw rfl) rfl ?_
            cases h
            exact r_ri c210_63 rt210 rfl rfl
          · rw [if_neg (Int.not_lt.mpr h166)] at h
            refine r_ic c210_49 kI1 ?_
            refine r_go (t := 54) c210_50 rfl ?_
            rcases pm_xb_sp h with ⟨ot176, I173, J174, e175, rfl⟩ | ⟨ov172, I173, J174, e175, h⟩
            · exact cx2 q210_54 hh210 (μ1 := (I173, J174, P, pm_T0, e + 1)) (d174 hw he e175) rfl
            refine cz2 q210_54 (μ1 := (I173, J174, P, pm_T0, e)) (d174 hw he e175) rfl ?_
            refine il1 c210_57 ?_
            refine il2 c210_58 ?_
            refine il3 c210_59 ?_
            refine cv3 q210_60 (d208 hw rfl) rfl ?_
            cases h
            exact r_ri c210_63 rt210 rfl rfl
      · rw [if_neg (Int.not_lt.mpr h154)] at h
        refine il2 c210_24 ?_
        refine r_bi c210_25 kB99 ?_
        refine r_icgt (t := 34) c210_27 rfl (fun h177 => ?_) (fun h177 => ?_)
        · rw [if_pos h177] at h
          refine r_ic c210_34 kI0 ?_
          rcases pm_xb_sp h with ⟨ot182, I179, J180, e181, rfl⟩ | ⟨ov178, I179, J180, e181, h⟩
          · exact cx2 q210_35 hh210 (μ1 := (I179, J180, P, pm_T0, e + 1)) (d174 hw he e181) rfl
          refine cz2 q210_35 (μ1 := (I179, J180, P, pm_T0, e)) (d174 hw he e181) rfl ?_
          refine al0 c210_38 ?_
          refine il3 c210_39 ?_
          refine r_iflt (t := 53) c210_40 rfl (fun h183 => ?_) (fun h183 => ?_)
          · rw [if_pos h183] at h
            refine r_ic c210_53 kI0 ?_
            rcases pm_xb_sp h with ⟨ot188, I185, J186, e187, rfl⟩ | ⟨ov184, I185, J186, e187, h⟩
            · exact cx2 q210_54 hh210 (μ1 := (I185, J186, P, pm_T0, e + 1)) (d174 hw he e187) rfl
            refine cz2 q210_54 (μ1 := (I185, J186, P, pm_T0, e)) (d174 hw he e187) rfl ?_
            refine il1 c210_57 ?_
            refine il2 c210_58 ?_
            refine il3 c210_59 ?_
            refine cv3 q210_60 (d208 hw rfl) rfl ?_
            cases h
            exact r_ri c210_63 rt210 rfl rfl
          · rw [if_neg (Int.not_lt.mpr h183)] at h
            refine il3 c210_43 ?_
            refine r_bi c210_44 kB99 ?_
            refine r_icgt (t := 53) c210_46 rfl (fun h189 => ?_) (fun h189 => ?_)
            · rw [if_pos h189] at h
              refine r_ic c210_53 kI0 ?_
              rcases pm_xb_sp h with ⟨ot194, I191, J192, e193, rfl⟩ | ⟨ov190, I191, J192, e193, h⟩
              · exact cx2 q210_54 hh210 (μ1 := (I191, J192, P, pm_T0, e + 1)) (d174 hw he e193) rfl
              refine cz2 q210_54 (μ1 := (I191, J192, P, pm_T0, e)) (d174 hw he e193) rfl ?_
              refine il1 c210_57 ?_
              refine il2 c210_58 ?_
              refine il3 c210_59 ?_
              refine cv3 q210_60 (d208 hw rfl) rfl ?_
              cases h
              exact r_ri c210_63 rt210 rfl rfl
            · rw [if_neg (Int.not_lt.mpr h189)] at h
              refine r_ic c210_49 kI1 ?_
              refine r_go (t := 54) c210_50 rfl ?_
              rcases pm_xb_sp h with ⟨ot199, I196, J197, e198, rfl⟩ | ⟨ov195, I196, J197, e198, h⟩
              · exact cx2 q210_54 hh210 (μ1 := (I196, J197, P, pm_T0, e + 1)) (d174 hw he e198) rfl
              refine cz2 q210_54 (μ1 := (I196, J197, P, pm_T0, e)) (d174 hw he e198) rfl ?_
              refine il1 c210_57 ?_
              refine il2 c210_58 ?_
              refine il3 c210_59 ?_
              refine cv3 q210_60 (d208 hw rfl) rfl ?_
              cases h
              exact r_ri c210_63 rt210 rfl rfl
        · rw [if_neg (Int.not_lt.mpr h177)] at h
          refine r_ic c210_30 kI1 ?_
          refine r_go (t := 35) c210_31 rfl ?_
          rcases pm_xb_sp h with ⟨ot204, I201, J202, e203, rfl⟩ | ⟨ov200, I201, J202, e203, h⟩
          · exact cx2 q210_35 hh210 (μ1 := (I201, J202, P, pm_T0, e + 1)) (d174 hw he e203) rfl
          refine cz2 q210_35 (μ1 := (I201, J202, P, pm_T0, e)) (d174 hw he e203) rfl ?_
          refine al0 c210_38 ?_
          refine il3 c210_39 ?_
          refine r_iflt (t := 53) c210_40 rfl (fun h205 => ?_) (fun h205 => ?_)
          · rw [if_pos h205] at h
            refine r_ic c210_53 kI0 ?_
            rcases pm_xb_sp h with ⟨ot210, I207, J208, e209, rfl⟩ | ⟨ov206, I207, J208, e209, h⟩
            · exact cx2 q210_54 hh210 (μ1 := (I207, J208, P, pm_T0, e + 1)) (d174 hw he e209) rfl
            refine cz2 q210_54 (μ1 := (I207, J208, P, pm_T0, e)) (d174 hw he e209) rfl ?_
            refine il1 c210_57 ?_
            refine il2 c210_58 ?_
            refine il3 c210_59 ?_
            refine cv3 q210_60 (d208 hw rfl) rfl ?_
            cases h
            exact r_ri c210_63 rt210 rfl rfl
          · rw [if_neg (Int.not_lt.mpr h205)] at h
            refine il3 c210_43 ?_
            refine r_bi c210_44 kB99 ?_
            refine r_icgt (t := 53) c210_46 rfl (fun h211 => ?_) (fun h211 => ?_)
            · rw [if_pos h211] at h
              refine r_ic c210_53 kI0 ?_
              rcases pm_xb_sp h with ⟨ot216, I213, J214, e215, rfl⟩ | ⟨ov212, I213, J214, e215, h⟩
              · exact cx2 q210_54 hh210 (μ1 := (I213, J214, P, pm_T0, e + 1)) (d174 hw he e215) rfl
              refine cz2 q210_54 (μ1 := (I213, J214, P, pm_T0, e)) (d174 hw he e215) rfl ?_
              refine il1 c210_57 ?_
              refine il2 c210_58 ?_
              refine il3 c210_59 ?_
              refine cv3 q210_60 (d208 hw rfl) rfl ?_
              cases h
              exact r_ri c210_63 rt210 rfl rfl
            · rw [if_neg (Int.not_lt.mpr h211)] at h
              refine r_ic c210_49 kI1 ?_
              refine r_go (t := 54) c210_50 rfl ?_
              rcases pm_xb_sp h with ⟨ot221, I218, J219, e220, rfl⟩ | ⟨ov217, I218, J219, e220, h⟩
              · exact cx2 q210_54 hh210 (μ1 := (I218, J219, P, pm_T0, e + 1)) (d174 hw he e220) rfl
              refine cz2 q210_54 (μ1 := (I218, J219, P, pm_T0, e)) (d174 hw he e220) rfl ?_
              refine il1 c210_57 ?_
              refine il2 c210_58 ?_
              refine il3 c210_59 ?_
              refine cv3 q210_60 (d208 hw rfl) rfl ?_
              cases h
              exact r_ri c210_63 rt210 rfl rfl
def v212 (x0 : Int32) (x1 : Int32) (x2 : Int32) (I : Nat → Nat → Int32) : Bool := (if x0.toInt < 0 then false else (if (16 : Int32).toInt < x0.toInt then false else (if x1.toInt < 0 then false else (if (40 : Int32).toInt < x1.toInt then false else (if x2.toInt < (1 : Int32).toInt then false else (if (99 : Int32).toInt < x2.toInt then false else true))))))
theorem d212 {X : (Nat → Int32) × Nat} {d : Nat} {I : Nat → Nat → Int32} {J : Nat → Nat → Int64} {P : Nat → Nat → Value} {e r k r2 k2 : Nat} {x0 : Int32} {x1 : Int32} {x2 : Int32} {q : Bool} (hw : pm_W P r k r2 k2)  (h : v212 x0 x1 x2 I = q) : pm_Fn X (d) 212 0 [.int x0, .int x1, .int x2] (I, J, P, pm_T0, e) (.inl (some (.int (pm_bi q)))) (I, J, P, pm_T0, e) := by
  obtain ⟨hp, hw1, hw2, hw3, hw4, hw5, hw6, hw7, hw8, hw9, hw10, hw11⟩ := id hw
  have hwa := hw5.1
  have hwb := hw6.1
  have hwc := hw7.1
  have hwd := hw8.1
  unfold v212 at h
  refine fn_s ml212 rfl rfl rfl ?_
  refine il0 c212_0 ?_
  refine r_iflt (t := 35) c212_1 rfl (fun h1 => ?_) (fun h1 => ?_)
  · rw [if_pos h1] at h
    refine r_ic c212_35 kI0 ?_
    cases h
    exact r_rz c212_36 rt212 (by decide) rfl rfl
  · rw [if_neg (Int.not_lt.mpr h1)] at h
    refine il0 c212_4 ?_
    refine r_bi c212_5 kB16 ?_
    refine r_icgt (t := 35) c212_7 rfl (fun h2 => ?_) (fun h2 => ?_)
    · rw [if_pos h2] at h
      refine r_ic c212_35 kI0 ?_
      cases h
      exact r_rz c212_36 rt212 (by decide) rfl rfl
    · rw [if_neg (Int.not_lt.mpr h2)] at h
      refine il1 c212_10 ?_
      refine r_iflt (t := 35) c212_11 rfl (fun h3 => ?_) (fun h3 => ?_)
      · rw [if_pos h3] at h
        refine r_ic c212_35 kI0 ?_
        cases h
        exact r_rz c212_36 rt212 (by decide) rfl rfl
      · rw [if_neg (Int.not_lt.mpr h3)] at h
        refine il1 c212_14 ?_
        refine r_bi c212_15 kB40 ?_
        refine r_icgt (t := 35) c212_17 rfl (fun h4 => ?_) (fun h4 => ?_)
        · rw [if_pos h4] at h
          refine r_ic c212_35 kI0 ?_
          cases h
          exact r_rz c212_36 rt212 (by decide) rfl rfl
        · rw [if_neg (Int.not_lt.mpr h4)] at h
          refine il2 c212_20 ?_
          refine r_ic c212_21 kI1 ?_
          refine r_iclt (t := 35) c212_22 rfl (fun h5 => ?_) (fun h5 => ?_)
          · rw [if_pos h5] at h
            refine r_ic c212_35 kI0 ?_
            cases h
            exact r_rz c212_36 rt212 (by decide) rfl rfl
          · rw [if_neg (Int.not_lt.mpr h5)] at h
            refine il2 c212_25 ?_
            refine r_bi c212_26 kB99 ?_
            refine r_icgt (t := 35) c212_28 rfl (fun h6 => ?_) (fun h6 => ?_)
            · rw [if_pos h6] at h
              refine r_ic c212_35 kI0 ?_
              cases h
              exact r_rz c212_36 rt212 (by decide) rfl rfl
            · rw [if_neg (Int.not_lt.mpr h6)] at h
              refine r_ic c212_31 kI1 ?_
              refine r_go (t := 36) c212_32 rfl ?_
              cases h
              exact r_rz c212_36 rt212 (by decide) rfl rfl
def f211 (r : Nat) (x1 : Int32) (x2 : Int32) (x3 : Int32) (x4 : Int32) (x5 : Int32) (I : Nat → Nat → Int32) (J : Nat → Nat → Int64) : Option ((Int32 ⊕ Nat) × (Nat → Nat → Int32) × (Nat → Nat → Int64)) := pm_xb (f174 (pm_bi (v212 x2 x3 x4 I)) I J) (fun ov1 I2 J3 => (if x5.toInt < 0 then pm_xb (f174 0 I2 J3) (fun ov7 I8 J9 => (if x5 = 3 then (f54 r x4 I8 J9).bind (fun (ov19, I20, J21) => some (.inl ov19, I20, J21)) else (f154 r x1 x2 x3 x4 I8 J9).bind (fun (ov13, I14, J15) => (if x5 = 0 then some (.inl (I14 112 0), I14, J15) else if x5 = 1 then some (.inl (I14 112 1), I14, J15) else some (.inl (I14 112 2), I14, J15))))) else (if (3 : Int32).toInt < x5.toInt then pm_xb (f174 0 I2 J3) (fun ov24 I25 J26 => (if x5 = 3 then (f54 r x4 I25 J26).bind (fun (ov36, I37, J38) => some (.inl ov36, I37, J38)) else (f154 r x1 x2 x3 x4 I25 J26).bind (fun (ov30, I31, J32) => (if x5 = 0 then some (.inl (I31 112 0), I31, J32) else if x5 = 1 then some (.inl (I31 112 1), I31, J32) else some (.inl (I31 112 2), I31, J32))))) else pm_xb (f174 1 I2 J3) (fun ov40 I41 J42 => (if x5 = 3 then (f54 r x4 I41 J42).bind (fun (ov52, I53, J54) => some (.inl ov52, I53, J54)) else (f154 r x1 x2 x3 x4 I41 J42).bind (fun (ov46, I47, J48) => (if x5 = 0 then some (.inl (I47 112 0), I47, J48) else if x5 = 1 then some (.inl (I47 112 1), I47, J48) else some (.inl (I47 112 2), I47, J48))))))))
theorem d211 {X : (Nat → Int32) × Nat} {d : Nat} {I : Nat → Nat → Int32} {J : Nat → Nat → Int64} {P : Nat → Nat → Value} {e r k r2 k2 : Nat} {x1 : Int32} {x2 : Int32} {x3 : Int32} {x4 : Int32} {x5 : Int32} {q : (Int32 ⊕ Nat) × (Nat → Nat → Int32) × (Nat → Nat → Int64)} (hw : pm_W P r k r2 k2) (he : e < 100000)  (h : f211 r x1 x2 x3 x4 x5 I J = some q) : pm_Fn X (d + 5) 211 1 [.ref 0, .int x1, .int x2, .int x3, .int x4, .int x5] (I, J, P, pm_T0, e) (pm_sI q.1) (q.2.1, q.2.2, P, pm_T0, pm_sE q.1 e) := by
  obtain ⟨hp, hw1, hw2, hw3, hw4, hw5, hw6, hw7, hw8, hw9, hw10, hw11⟩ := id hw
  have hwa := hw5.1
  have hwb := hw6.1
  have hwc := hw7.1
  have hwd := hw8.1
  unfold f211 at h
  refine fn_v rc211 (c := 11) (nf := 14) (by first | rfl | assumption) ml211 rfl rfl rfl rfl ?_
  refine al0 c211_0 ?_
  refine il2 c211_1 ?_
  refine il3 c211_2 ?_
  refine il4 c211_3 ?_
  refine cv3 q211_5 (d212 hw rfl) rfl ?_
  rcases pm_xb_sp h with ⟨ot5, I2, J3, e4, rfl⟩ | ⟨ov1, I2, J3, e4, h⟩
  · exact cx2 q211_8 hh211 (μ1 := (I2, J3, P, pm_T0, e + 1)) (d174 hw he e4) rfl
  refine cz2 q211_8 (μ1 := (I2, J3, P, pm_T0, e)) (d174 hw he e4) rfl ?_
  refine al0 c211_11 ?_
  refine il5 c211_12 ?_
  refine r_iflt (t := 27) c211_14 rfl (fun h6 => ?_) (fun h6 => ?_)
  · rw [if_pos h6] at h
    refine r_ic c211_27 kI0 ?_
    rcases pm_xb_sp h with ⟨ot11, I8, J9, e10, rfl⟩ | ⟨ov7, I8, J9, e10, h⟩
    · exact cx2 q211_28 hh211 (μ1 := (I8, J9, P, pm_T0, e + 1)) (d174 hw he e10) rfl
    refine cz2 q211_28 (μ1 := (I8, J9, P, pm_T0, e)) (d174 hw he e10) rfl ?_
    refine il5 c211_31 ?_
    refine r_ic c211_33 kI3 ?_
    refine r_icne (t := 47) c211_34 rfl (fun h12 => ?_) (fun h12 => ?_)
    · rw [if_neg h12] at h
      refine al0 c211_47 ?_
      refine r_gr g211_48 rfl rfl (hp _ _ _ rfl) ?_
      refine al0 c211_51 ?_
      refine r_gr g211_52 rfl rfl (hp _ _ _ rfl) ?_
      refine il1 c211_55 ?_
      refine il2 c211_56 ?_
      refine il3 c211_57 ?_
      refine il4 c211_58 ?_
      obtain ⟨⟨ov13, I14, J15⟩, e16, h⟩ := pm_bd_sp h
      dsimp only at h
      refine cz6 q211_60 (μ1 := (I14, J15, P, pm_T0, e)) (d154 hw e16) rfl ?_
      refine il5 c211_63 ?_
      by_cases h17 : x5 = 0
      · rw [if_pos h17] at h
        refine r_lk (t := 92) (o := 27) c211_65 (by decide) (by rw [h17]; decide) rfl ?_
        refine al0 c211_92 ?_
        refine r_gr g211_93 rfl rfl (hp _ _ _ rfl) ?_
        refine cv1 q211_96 (s155 (by first | rfl | assumption)) rfl ?_
        cases h
        exact r_ri c211_99 rt211 rfl rfl
      · rw [if_neg h17] at h
        by_cases h18 : x5 = 1
        · rw [if_pos h18] at h
          refine r_lk (t := 100) (o := 35) c211_65 (by decide) (by rw [h18]; decide) rfl ?_
          refine al0 c211_100 ?_
          refine r_gr g211_101 rfl rfl (hp _ _ _ rfl) ?_
          refine cv1 q211_104 (s156 (by first | rfl | assumption)) rfl ?_
          cases h
          exact r_ri c211_107 rt211 rfl rfl
        · rw [if_neg h18] at h
          refine r_lk (t := 108) (o := 43) c211_65 (by decide) (pm_lkd x5 [0, 1] (by decide) (by intro v hv; simp only [List.mem_cons, List.not_mem_nil, or_false] at hv; rcases hv with rfl | rfl <;> assumption)) rfl ?_
          refine al0 c211_108 ?_
          refine r_gr g211_109 rfl rfl (hp _ _ _ rfl) ?_
          refine cv1 q211_112 (s157 (by first | rfl | assumption)) rfl ?_
          cases h
          exact r_ri c211_115 rt211 rfl rfl
    · rw [if_pos h12] at h
      refine al0 c211_37 ?_
      refine r_gr g211_38 rfl rfl (hp _ _ _ rfl) ?_
      refine il4 c211_41 ?_
      obtain ⟨⟨ov19, I20, J21⟩, e22, h⟩ := pm_bd_sp h
      dsimp only at h
      refine cv2 q211_43 (v := .int ov19) (μ1 := (I20, J21, P, pm_T0, e)) (d54 hw e22) rfl ?_
      cases h
      exact r_ri c211_46 rt211 rfl rfl
  · rw [if_neg (Int.not_lt.mpr h6)] at h
    refine il5 c211_17 ?_
    refine r_ic c211_19 kI3 ?_
    refine r_icgt (t := 27) c211_20 rfl (fun h23 => ?_) (fun h23 => ?_)
    · rw [if_pos h23] at h
      refine r_ic c211_27 kI0 ?_
      rcases pm_xb_sp h with ⟨ot28, I25, J26, e27, rfl⟩ | ⟨ov24, I25, J26, e27, h⟩
      · exact cx2 q211_28 hh211 (μ1 := (I25, J26, P, pm_T0, e + 1)) (d174 hw he e27) rfl
      refine cz2 q211_28 (μ1 := (I25, J26, P, pm_T0, e)) (d174 hw he e27) rfl ?_
      refine il5 c211_31 ?_
      refine r_ic c211_33 kI3 ?_
      refine r_icne (t := 47) c211_34 rfl (fun h29 => ?_) (fun h29 => ?_)
      · rw [if_neg h29] at h
        refine al0 c211_47 ?_
        refine r_gr g211_48 rfl rfl (hp _ _ _ rfl) ?_
        refine al0 c211_51 ?_
        refine r_gr g211_52 rfl rfl (hp _ _ _ rfl) ?_
        refine il1 c211_55 ?_
        refine il2 c211_56 ?_
        refine il3 c211_57 ?_
        refine il4 c211_58 ?_
        obtain ⟨⟨ov30, I31, J32⟩, e33, h⟩ := pm_bd_sp h
        dsimp only at h
        refine cz6 q211_60 (μ1 := (I31, J32, P, pm_T0, e)) (d154 hw e33) rfl ?_
        refine il5 c211_63 ?_
        by_cases h34 : x5 = 0
        · rw [if_pos h34] at h
          refine r_lk (t := 92) (o := 27) c211_65 (by decide) (by rw [h34]; decide) rfl ?_
          refine al0 c211_92 ?_
          refine r_gr g211_93 rfl rfl (hp _ _ _ rfl) ?_
          refine cv1 q211_96 (s155 (by first | rfl | assumption)) rfl ?_
          cases h
          exact r_ri c211_99 rt211 rfl rfl
        · rw [if_neg h34] at h
          by_cases h35 : x5 = 1
          · rw [if_pos h35] at h
            refine r_lk (t := 100) (o := 35) c211_65 (by decide) (by rw [h35]; decide) rfl ?_
            refine al0 c211_100 ?_
            refine r_gr g211_101 rfl rfl (hp _ _ _ rfl) ?_
            refine cv1 q211_104 (s156 (by first | rfl | assumption)) rfl ?_
            cases h
            exact r_ri c211_107 rt211 rfl rfl
          · rw [if_neg h35] at h
            refine r_lk (t := 108) (o := 43) c211_65 (by decide) (pm_lkd x5 [0, 1] (by decide) (by intro v hv; simp only [List.mem_cons, List.not_mem_nil, or_false] at hv; rcases hv with rfl | rfl <;> assumption)) rfl ?_
            refine al0 c211_108 ?_
            refine r_gr g211_109 rfl rfl (hp _ _ _ rfl) ?_
            refine cv1 q211_112 (s157 (by first | rfl | assumption)) rfl ?_
            cases h
            exact r_ri c211_115 rt211 rfl rfl
      · rw [if_pos h29] at h
        refine al0 c211_37 ?_
        refine r_gr g211_38 rfl rfl (hp _ _ _ rfl) ?_
        refine il4 c211_41 ?_
        obtain ⟨⟨ov36, I37, J38⟩, e39, h⟩ := pm_bd_sp h
        dsimp only at h
        refine cv2 q211_43 (v := .int ov36) (μ1 := (I37, J38, P, pm_T0, e)) (d54 hw e39) rfl ?_
        cases h
        exact r_ri c211_46 rt211 rfl rfl
    · rw [if_neg (Int.not_lt.mpr h23)] at h
      refine r_ic c211_23 kI1 ?_
      refine r_go (t := 28) c211_24 rfl ?_
      rcases pm_xb_sp h with ⟨ot44, I41, J42, e43, rfl⟩ | ⟨ov40, I41, J42, e43, h⟩
      · exact cx2 q211_28 hh211 (μ1 := (I41, J42, P, pm_T0, e + 1)) (d174 hw he e43) rfl
      refine cz2 q211_28 (μ1 := (I41, J42, P, pm_T0, e)) (d174 hw he e43) rfl ?_
      refine il5 c211_31 ?_
      refine r_ic c211_33 kI3 ?_
      refine r_icne (t := 47) c211_34 rfl (fun h45 => ?_) (fun h45 => ?_)
      · rw [if_neg h45] at h
        refine al0 c211_47 ?_
        refine r_gr g211_48 rfl rfl (hp _ _ _ rfl) ?_
        refine al0 c211_51 ?_
        refine r_gr g211_52 rfl rfl (hp _ _ _ rfl) ?_
        refine il1 c211_55 ?_
        refine il2 c211_56 ?_
        refine il3 c211_57 ?_
        refine il4 c211_58 ?_
        obtain ⟨⟨ov46, I47, J48⟩, e49, h⟩ := pm_bd_sp h
        dsimp only at h
        refine cz6 q211_60 (μ1 := (I47, J48, P, pm_T0, e)) (d154 hw e49) rfl ?_
        refine il5 c211_63 ?_
        by_cases h50 : x5 = 0
        · rw [if_pos h50] at h
          refine r_lk (t := 92) (o := 27) c211_65 (by decide) (by rw [h50]; decide) rfl ?_
          refine al0 c211_92 ?_
          refine r_gr g211_93 rfl rfl (hp _ _ _ rfl) ?_
          refine cv1 q211_96 (s155 (by first | rfl | assumption)) rfl ?_
          cases h
          exact r_ri c211_99 rt211 rfl rfl
        · rw [if_neg h50] at h
          by_cases h51 : x5 = 1
          · rw [if_pos h51] at h
            refine r_lk (t := 100) (o := 35) c211_65 (by decide) (by rw [h51]; decide) rfl ?_
            refine al0 c211_100 ?_
            refine r_gr g211_101 rfl rfl (hp _ _ _ rfl) ?_
            refine cv1 q211_104 (s156 (by first | rfl | assumption)) rfl ?_
            cases h
            exact r_ri c211_107 rt211 rfl rfl
          · rw [if_neg h51] at h
            refine r_lk (t := 108) (o := 43) c211_65 (by decide) (pm_lkd x5 [0, 1] (by decide) (by intro v hv; simp only [List.mem_cons, List.not_mem_nil, or_false] at hv; rcases hv with rfl | rfl <;> assumption)) rfl ?_
            refine al0 c211_108 ?_
            refine r_gr g211_109 rfl rfl (hp _ _ _ rfl) ?_
            refine cv1 q211_112 (s157 (by first | rfl | assumption)) rfl ?_
            cases h
            exact r_ri c211_115 rt211 rfl rfl
      · rw [if_pos h45] at h
        refine al0 c211_37 ?_
        refine r_gr g211_38 rfl rfl (hp _ _ _ rfl) ?_
        refine il4 c211_41 ?_
        obtain ⟨⟨ov52, I53, J54⟩, e55, h⟩ := pm_bd_sp h
        dsimp only at h
        refine cv2 q211_43 (v := .int ov52) (μ1 := (I53, J54, P, pm_T0, e)) (d54 hw e55) rfl ?_
        cases h
        exact r_ri c211_46 rt211 rfl rfl
def f213_64 (r : Nat)  : Nat → Int32 → Int32 → Int32 → Int32 → Int32 → Int32 → Int32 → Int32 → Int32 → Int32 → (Nat → Nat → Int32) → (Nat → Nat → Int64) → Option ((Int32 ⊕ Nat) × (Nat → Nat → Int32) × (Nat → Nat → Int64))
  | 0, _, _, _, _, _, _, _, _, _, _, _, _ => none
  | fu + 1, y1, y2, y3, y4, y5, y6, y7, y8, y9, y10, I, J => (if y10.toInt < y2.toInt then (f154 r (y1 + y10) y3 y4 y5 I J).bind (fun (ov4, I5, J6) => (if y10 = 0 then (if (I5 112 0) = 0 then f213_64 r fu y1 y2 y3 y4 y5 y6 (I5 112 0) (pm_max y8 (I5 112 0)) (y9 + 1) (y10 + 1) I5 J6 else f213_64 r fu y1 y2 y3 y4 y5 y6 (I5 112 0) (pm_max y8 (I5 112 0)) y9 (y10 + 1) I5 J6) else (if (I5 112 0) = 0 then f213_64 r fu y1 y2 y3 y4 y5 y6 (pm_min y7 (I5 112 0)) (pm_max y8 (I5 112 0)) (y9 + 1) (y10 + 1) I5 J6 else f213_64 r fu y1 y2 y3 y4 y5 y6 (pm_min y7 (I5 112 0)) (pm_max y8 (I5 112 0)) y9 (y10 + 1) I5 J6))) else (if y6 = 0 then some (.inl y7, I, J) else if y6 = 1 then some (.inl y8, I, J) else some (.inl y9, I, J)))
def f213 (r : Nat) (x1 : Int32) (x2 : Int32) (x3 : Int32) (x4 : Int32) (x5 : Int32) (x6 : Int32) (I : Nat → Nat → Int32) (J : Nat → Nat → Int64) : Option ((Int32 ⊕ Nat) × (Nat → Nat → Int32) × (Nat → Nat → Int64)) := (if x2.toInt < (1 : Int32).toInt then pm_xb (f174 0 I J) (fun ov2 I3 J4 => pm_xb (f174 (pm_bi (v212 x3 x4 x5 I3)) I3 J4) (fun ov7 I8 J9 => (if x6.toInt < 0 then pm_xb (f174 0 I8 J9) (fun ov13 I14 J15 => f213_64 r pm_FU x1 x2 x3 x4 x5 x6 0 0 0 0 I14 J15) else (if (2 : Int32).toInt < x6.toInt then pm_xb (f174 0 I8 J9) (fun ov19 I20 J21 => f213_64 r pm_FU x1 x2 x3 x4 x5 x6 0 0 0 0 I20 J21) else pm_xb (f174 1 I8 J9) (fun ov24 I25 J26 => f213_64 r pm_FU x1 x2 x3 x4 x5 x6 0 0 0 0 I25 J26))))) else (if (20 : Int32).toInt < x2.toInt then pm_xb (f174 0 I J) (fun ov30 I31 J32 => pm_xb (f174 (pm_bi (v212 x3 x4 x5 I31)) I31 J32) (fun ov35 I36 J37 => (if x6.toInt < 0 then pm_xb (f174 0 I36 J37) (fun ov41 I42 J43 => f213_64 r pm_FU x1 x2 x3 x4 x5 x6 0 0 0 0 I42 J43) else (if (2 : Int32).toInt < x6.toInt then pm_xb (f174 0 I36 J37) (fun ov47 I48 J49 => f213_64 r pm_FU x1 x2 x3 x4 x5 x6 0 0 0 0 I48 J49) else pm_xb (f174 1 I36 J37) (fun ov52 I53 J54 => f213_64 r pm_FU x1 x2 x3 x4 x5 x6 0 0 0 0 I53 J54))))) else pm_xb (f174 1 I J) (fun ov57 I58 J59 => pm_xb (f174 (pm_bi (v212 x3 x4 x5 I58)) I58 J59) (fun ov62 I63 J64 => (if x6.toInt < 0 then pm_xb (f174 0 I63 J64) (fun ov68 I69 J70 => f213_64 r pm_FU x1 x2 x3 x4 x5 x6 0 0 0 0 I69 J70) else (if (2 : Int32).toInt < x6.toInt then pm_xb (f174 0 I63 J64) (fun ov74 I75 J76 => f213_64 r pm_FU x1 x2 x3 x4 x5 x6 0 0 0 0 I75 J76) else pm_xb (f174 1 I63 J64) (fun ov79 I80 J81 => f213_64 r pm_FU x1 x2 x3 x4 x5 x6 0 0 0 0 I80 J81)))))))
theorem d213_64 {X : (Nat → Int32) × Nat} {d : Nat} {P : Nat → Nat → Value} {e r k r2 k2 : Nat}  (hw : pm_W P r k r2 k2) (he : e < 100000)  : ∀ (fu : Nat) {y1 y2 y3 y4 y5 y6 y7 y8 y9 y10 : Int32} {I : Nat → Nat → Int32} {J : Nat → Nat → Int64} {q : (Int32 ⊕ Nat) × (Nat → Nat → Int32) × (Nat → Nat → Int64)} (h : f213_64 r fu y1 y2 y3 y4 y5 y6 y7 y8 y9 y10 I J = some q), pm_Fx X (d + 5) 213 64 [.ref 0, .int y1, .int y2, .int y3, .int y4, .int y5, .int y6, .int y7, .int y8, .int y9, .int y10] [] (I, J, P, pm_T0, e) (pm_sI q.1) (q.2.1, q.2.2, P, pm_T0, pm_sE q.1 e) := by
  obtain ⟨hp, hw1, hw2, hw3, hw4, hw5, hw6, hw7, hw8, hw9, hw10, hw11⟩ := id hw
  have hwa := hw5.1
  have hwb := hw6.1
  have hwc := hw7.1
  have hwd := hw8.1
  intro fu
  induction fu with
  | zero => intro y1 y2 y3 y4 y5 y6 y7 y8 y9 y10 I J q h; cases h
  | succ fu ih =>
    intro y1 y2 y3 y4 y5 y6 y7 y8 y9 y10 I J q h
    rw [f213_64] at h
    refine il10 c213_64 ?_
    refine il2 c213_66 ?_
    refine r_icge (t := 152) c213_67 rfl (fun h1 => ?_) (fun h1 => ?_)
    · rw [if_neg (Int.not_lt.mpr h1)] at h
      refine il6 c213_152 ?_
      by_cases h2 : y6 = 0
      · rw [if_pos h2] at h
        refine r_lk (t := 180) (o := 26) c213_154 (by decide) (by rw [h2]; decide) rfl ?_
        refine il7 c213_180 ?_
        cases h
        exact r_ri c213_182 rt213 rfl rfl
      · rw [if_neg h2] at h
        by_cases h3 : y6 = 1
        · rw [if_pos h3] at h
          refine r_lk (t := 183) (o := 29) c213_154 (by decide) (by rw [h3]; decide) rfl ?_
          refine il8 c213_183 ?_
          cases h
          exact r_ri c213_185 rt213 rfl rfl
        · rw [if_neg h3] at h
          refine r_lk (t := 186) (o := 32) c213_154 (by decide) (pm_lkd y6 [0, 1] (by decide) (by intro v hv; simp only [List.mem_cons, List.not_mem_nil, or_false] at hv; rcases hv with rfl | rfl <;> assumption)) rfl ?_
          refine il9 c213_186 ?_
          cases h
          exact r_ri c213_188 rt213 rfl rfl
    · rw [if_pos h1] at h
      refine al0 c213_70 ?_
      refine r_gr g213_71 rfl rfl (hp _ _ _ rfl) ?_
      refine al0 c213_74 ?_
      refine r_gr g213_75 rfl rfl (hp _ _ _ rfl) ?_
      refine il1 c213_78 ?_
      refine il10 c213_79 ?_
      refine r_iadd c213_81 ?_
      refine il3 c213_82 ?_
      refine il4 c213_83 ?_
      refine il5 c213_85 ?_
      obtain ⟨⟨ov4, I5, J6⟩, e7, h⟩ := pm_bd_sp h
      dsimp only at h
      refine cz6 q213_87 (μ1 := (I5, J6, P, pm_T0, e)) (d154 hw e7) rfl ?_
      refine il10 c213_90 ?_
      refine r_ifne (t := 105) c213_92 rfl (fun h8 => ?_) (fun h8 => ?_)
      · rw [if_neg h8] at h
        refine il7 c213_105 ?_
        refine al0 c213_107 ?_
        refine r_gr g213_108 rfl rfl (hp _ _ _ rfl) ?_
        refine cv1 q213_111 (s155 (by first | rfl | assumption)) rfl ?_
        refine cv2 q213_114 s363 rfl ?_
        refine is7 c213_117 rfl ?_
        refine il8 c213_119 ?_
        refine al0 c213_121 ?_
        refine r_gr g213_122 rfl rfl (hp _ _ _ rfl) ?_
        refine cv1 q213_125 (s155 (by first | rfl | assumption)) rfl ?_
        refine cv2 q213_128 s362 rfl ?_
        refine is8 c213_131 rfl ?_
        refine al0 c213_133 ?_
        refine r_gr g213_134 rfl rfl (hp _ _ _ rfl) ?_
        refine cv1 q213_137 (s155 (by first | rfl | assumption)) rfl ?_
        refine r_ifne (t := 146) c213_140 rfl (fun h9 => ?_) (fun h9 => ?_)
        · rw [if_neg h9] at h
          refine ii10 c213_146 kI1 rfl ?_
          refine r_go (t := 64) c213_149 rfl ?_
          exact ih h
        · rw [if_pos h9] at h
          refine ii9 c213_143 kI1 rfl ?_
          refine ii10 c213_146 kI1 rfl ?_
          refine r_go (t := 64) c213_149 rfl ?_
          exact ih h
      · rw [if_pos h8] at h
        refine al0 c213_95 ?_
        refine r_gr g213_96 rfl rfl (hp _ _ _ rfl) ?_
        refine cv1 q213_99 (s155 (by first | rfl | assumption)) rfl ?_
        refine r_go (t := 117) c213_102 rfl ?_
        refine is7 c213_117 rfl ?_
        refine il8 c213_119 ?_
        refine al0 c213_121 ?_
        refine r_gr g213_122 rfl rfl (hp _ _ _ rfl) ?_
        refine cv1 q213_125 (s155 (by first | rfl | assumption)) rfl ?_
        refine cv2 q213_128 s362 rfl ?_
        refine is8 c213_131 rfl ?_
        refine al0 c213_133 ?_
        refine r_gr g213_134 rfl rfl (hp _ _ _ rfl) ?_
        refine cv1 q213_137 (s155 (by first | rfl | assumption)) rfl ?_
        refine r_ifne (t := 146) c213_140 rfl (fun h10 => ?_) (fun h10 => ?_)
        · rw [if_neg h10] at h
          refine ii10 c213_146 kI1 rfl ?_
          refine r_go (t := 64) c213_149 rfl ?_
          exact ih h
        · rw [if_pos h10] at h
          refine ii9 c213_143 kI1 rfl ?_
          refine ii10 c213_146 kI1 rfl ?_
          refine r_go (t := 64) c213_149 rfl ?_
          exact ih h
theorem d213 {X : (Nat → Int32) × Nat} {d : Nat} {I : Nat → Nat → Int32} {J : Nat → Nat → Int64} {P : Nat → Nat → Value} {e r k r2 k2 : Nat} {x1 : Int32} {x2 : Int32} {x3 : Int32} {x4 : Int32} {x5 : Int32} {x6 : Int32} {q : (Int32 ⊕ Nat) × (Nat → Nat → Int32) × (Nat → Nat → Int64)} (hw : pm_W P r k r2 k2) (he : e < 100000)  (h : f213 r x1 x2 x3 x4 x5 x6 I J = some q) : pm_Fn X (d + 5) 213 1 [.ref 0, .int x1, .int x2, .int x3, .int x4, .int x5, .int x6] (I, J, P, pm_T0, e) (pm_sI q.1) (q.2.1, q.2.2, P, pm_T0, pm_sE q.1 e) := by
  obtain ⟨hp, hw1, hw2, hw3, hw4, hw5, hw6, hw7, hw8, hw9, hw10, hw11⟩ := id hw
  have hwa := hw5.1
  have hwb := hw6.1
  have hwc := hw7.1
  have hwd := hw8.1
  unfold f213 at h
  refine fn_v rc213 (c := 11) (nf := 14) (by first | rfl | assumption) ml213 rfl rfl rfl rfl ?_
  refine al0 c213_0 ?_
  refine il2 c213_1 ?_
  refine r_ic c213_2 kI1 ?_
  refine r_iclt (t := 16) c213_3 rfl (fun h1 => ?_) (fun h1 => ?_)
  · rw [if_pos h1] at h
    refine r_ic c213_16 kI0 ?_
    rcases pm_xb_sp h with ⟨ot6, I3, J4, e5, rfl⟩ | ⟨ov2, I3, J4, e5, h⟩
    · exact cx2 q213_17 hh213 (μ1 := (I3, J4, P, pm_T0, e + 1)) (d174 hw he e5) rfl
    refine cz2 q213_17 (μ1 := (I3, J4, P, pm_T0, e)) (d174 hw he e5) rfl ?_
    refine al0 c213_20 ?_
    refine il3 c213_21 ?_
    refine il4 c213_22 ?_
    refine il5 c213_24 ?_
    refine cv3 q213_26 (d212 hw rfl) rfl ?_
    rcases pm_xb_sp h with ⟨ot11, I8, J9, e10, rfl⟩ | ⟨ov7, I8, J9, e10, h⟩
    · exact cx2 q213_29 hh213 (μ1 := (I8, J9, P, pm_T0, e + 1)) (d174 hw he e10) rfl
    refine cz2 q213_29 (μ1 := (I8, J9, P, pm_T0, e)) (d174 hw he e10) rfl ?_
    refine al0 c213_32 ?_
    refine il6 c213_33 ?_
    refine r_iflt (t := 48) c213_35 rfl (fun h12 => ?_) (fun h12 => ?_)
    · rw [if_pos h12] at h
      refine r_ic c213_48 kI0 ?_
      rcases pm_xb_sp h with ⟨ot17, I14, J15, e16, rfl⟩ | ⟨ov13, I14, J15, e16, h⟩
      · exact cx2 q213_49 hh213 (μ1 := (I14, J15, P, pm_T0, e + 1)) (d174 hw he e16) rfl
      refine cz2 q213_49 (μ1 := (I14, J15, P, pm_T0, e)) (d174 hw he e16) rfl ?_
      refine r_ic c213_52 kI0 ?_
      refine is7 c213_53 rfl ?_
      refine r_ic c213_55 kI0 ?_
      refine is8 c213_56 rfl ?_
      refine r_ic c213_58 kI0 ?_
      refine is9 c213_59 rfl ?_
      refine r_ic c213_61 kI0 ?_
      refine is10 c213_62 rfl ?_
      exact d213_64 hw he pm_FU h
    · rw [if_neg (Int.not_lt.mpr h12)] at h
      refine il6 c213_38 ?_
      refine r_ic c213_40 kI2 ?_
      refine r_icgt (t := 48) c213_41 rfl (fun h18 => ?_) (fun h18 => ?_)
      · rw [if_pos h18] at h
        refine r_ic c213_48 kI0 ?_
        rcases pm_xb_sp h with ⟨ot23, I20, J21, e22, rfl⟩ | ⟨ov19, I20, J21, e22, h⟩
        · exact cx2 q213_49 hh213 (μ1 := (I20, J21, P, pm_T0, e + 1)) (d174 hw he e22) rfl
        refine cz2 q213_49 (μ1 := (I20, J21, P, pm_T0, e)) (d174 hw he e22) rfl ?_
        refine r_ic c213_52 kI0 ?_
        refine is7 c213_53 rfl ?_
        refine r_ic c213_55 kI0 ?_
        refine is8 c213_56 rfl ?_
        refine r_ic c213_58 kI0 ?_
        refine is9 c213_59 rfl ?_
        refine r_ic c213_61 kI0 ?_
        refine is10 c213_62 rfl ?_
        exact d213_64 hw he pm_FU h
      · rw [if_neg (Int.not_lt.mpr h18)] at h
        refine r_ic c213_44 kI1 ?_
        refine r_go (t := 49) c213_45 rfl ?_
        rcases pm_xb_sp h with ⟨ot28, I25, J26, e27, rfl⟩ | ⟨ov24, I25, J26, e27, h⟩
        · exact cx2 q213_49 hh213 (μ1 := (I25, J26, P, pm_T0, e + 1)) (d174 hw he e27) rfl
        refine cz2 q213_49 (μ1 := (I25, J26, P, pm_T0, e)) (d174 hw he e27) rfl ?_
        refine r_ic c213_52 kI0 ?_
        refine is7 c213_53 rfl ?_
        refine r_ic c213_55 kI0 ?_
        refine is8 c213_56 rfl ?_
        refine r_ic c213_58 kI0 ?_
        refine is9 c213_59 rfl ?_
        refine r_ic c213_61 kI0 ?_
        refine is10 c213_62 rfl ?_
        exact d213_64 hw he pm_FU h
  · rw [if_neg (Int.not_lt.mpr h1)] at h
    refine il2 c213_6 ?_
    refine r_bi c213_7 kB20 ?_
    refine r_icgt (t := 16) c213_9 rfl (fun h29 => ?_) (fun h29 => ?_)
    · rw [if_pos h29] at h
      refine r_ic c213_16 kI0 ?_
      rcases pm_xb_sp h with ⟨ot34, I31, J32, e33, rfl⟩ | ⟨ov30, I31, J32, e33, h⟩
      · exact cx2 q213_17 hh213 (μ1 := (I31, J32, P, pm_T0, e + 1)) (d174 hw he e33) rfl
      refine cz2 q213_17 (μ1 := (I31, J32, P, pm_T0, e)) (d174 hw he e33) rfl ?_
      refine al0 c213_20 ?_
      refine il3 c213_21 ?_
      refine il4 c213_22 ?_
      refine il5 c213_24 ?_
      refine cv3 q213_26 (d212 hw rfl) rfl ?_
      rcases pm_xb_sp h with ⟨ot39, I36, J37, e38, rfl⟩ | ⟨ov35, I36, J37, e38, h⟩
      · exact cx2 q213_29 hh213 (μ1 := (I36, J37, P, pm_T0, e + 1)) (d174 hw he e38) rfl
      refine cz2 q213_29 (μ1 := (I36, J37, P, pm_T0, e)) (d174 hw he e38) rfl ?_
      refine al0 c213_32 ?_
      refine il6 c213_33 ?_
      refine r_iflt (t := 48) c213_35 rfl (fun h40 => ?_) (fun h40 => ?_)
      · rw [if_pos h40] at h
        refine r_ic c213_48 kI0 ?_
        rcases pm_xb_sp h with ⟨ot45, I42, J43, e44, rfl⟩ | ⟨ov41, I42, J43, e44, h⟩
        · exact cx2 q213_49 hh213 (μ1 := (I42, J43, P, pm_T0, e + 1)) (d174 hw he e44) rfl
        refine cz2 q213_49 (μ1 := (I42, J43, P, pm_T0, e)) (d174 hw he e44) rfl ?_
        refine r_ic c213_52 kI0 ?_
        refine is7 c213_53 rfl ?_
        refine r_ic c213_55 kI0 ?_
        refine is8 c213_56 rfl ?_
        refine r_ic c213_58 kI0 ?_
        refine is9 c213_59 rfl ?_
        refine r_ic c213_61 kI0 ?_
        refine is10 c213_62 rfl ?_
        exact d213_64 hw he pm_FU h
      · rw [if_neg (Int.not_lt.mpr h40)] at h
        refine il6 c213_38 ?_
        refine r_ic c213_40 kI2 ?_
        refine r_icgt (t := 48) c213_41 rfl (fun h46 => ?_) (fun h46 => ?_)
        · rw [if_pos h46] at h
          refine r_ic c213_48 kI0 ?_
          rcases pm_xb_sp h with ⟨ot51, I48, J49, e50, rfl⟩ | ⟨ov47, I48, J49, e50, h⟩
          · exact cx2 q213_49 hh213 (μ1 := (I48, J49, P, pm_T0, e + 1)) (d174 hw he e50) rfl
          refine cz2 q213_49 (μ1 := (I48, J49, P, pm_T0, e)) (d174 hw he e50) rfl ?_
          refine r_ic c213_52 kI0 ?_
          refine is7 c213_53 rfl ?_
          refine r_ic c213_55 kI0 ?_
          refine is8 c213_56 rfl ?_
          refine r_ic c213_58 kI0 ?_
          refine is9 c213_59 rfl ?_
          refine r_ic c213_61 kI0 ?_
          refine is10 c213_62 rfl ?_
          exact d213_64 hw he pm_FU h
        · rw [if_neg (Int.not_lt.mpr h46)] at h
          refine r_ic c213_44 kI1 ?_
          refine r_go (t := 49) c213_45 rfl ?_
          rcases pm_xb_sp h with ⟨ot56, I53, J54, e55, rfl⟩ | ⟨ov52, I53, J54, e55, h⟩
          · exact cx2 q213_49 hh213 (μ1 := (I53, J54, P, pm_T0, e + 1)) (d174 hw he e55) rfl
          refine cz2 q213_49 (μ1 := (I53, J54, P, pm_T0, e)) (d174 hw he e55) rfl ?_
          refine r_ic c213_52 kI0 ?_
          refine is7 c213_53 rfl ?_
          refine r_ic c213_55 kI0 ?_
          refine is8 c213_56 rfl ?_
          refine r_ic c213_58 kI0 ?_
          refine is9 c213_59 rfl ?_
          refine r_ic c213_61 kI0 ?_
          refine is10 c213_62 rfl ?_
          exact d213_64 hw he pm_FU h
    · rw [if_neg (Int.not_lt.mpr h29)] at h
      refine r_ic c213_12 kI1 ?_
      refine r_go (t := 17) c213_13 rfl ?_
      rcases pm_xb_sp h with ⟨ot61, I58, J59, e60, rfl⟩ | ⟨ov57, I58, J59, e60, h⟩
      · exact cx2 q213_17 hh213 (μ1 := (I58, J59, P, pm_T0, e + 1)) (d174 hw he e60) rfl
      refine cz2 q213_17 (μ1 := (I58, J59, P, pm_T0, e)) (d174 hw he e60) rfl ?_
      refine al0 c213_20 ?_
      refine il3 c213_21 ?_
      refine il4 c213_22 ?_
      refine il5 c213_24 ?_
      refine cv3 q213_26 (d212 hw rfl) rfl ?_
      rcases pm_xb_sp h with ⟨ot66, I63, J64, e65, rfl⟩ | ⟨ov62, I63, J64, e65, h⟩
      · exact cx2 q213_29 hh213 (μ1 := (I63, J64, P, pm_T0, e + 1)) (d174 hw he e65) rfl
      refine cz2 q213_29 (μ1 := (I63, J64, P, pm_T0, e)) (d174 hw he e65) rfl ?_
      refine al0 c213_32 ?_
      refine il6 c213_33 ?_
      refine r_iflt (t := 48) c213_35 rfl (fun h67 => ?_) (fun h67 => ?_)
      · rw [if_pos h67] at h
        refine r_ic c213_48 kI0 ?_
        rcases pm_xb_sp h with ⟨ot72, I69, J70, e71, rfl⟩ | ⟨ov68, I69, J70, e71, h⟩
        · exact cx2 q213_49 hh213 (μ1 := (I69, J70, P, pm_T0, e + 1)) (d174 hw he e71) rfl
        refine cz2 q213_49 (μ1 := (I69, J70, P, pm_T0, e)) (d174 hw he e71) rfl ?_
        refine r_ic c213_52 kI0 ?_
        refine is7 c213_53 rfl ?_
        refine r_ic c213_55 kI0 ?_
        refine is8 c213_56 rfl ?_
        refine r_ic c213_58 kI0 ?_
        refine is9 c213_59 rfl ?_
        refine r_ic c213_61 kI0 ?_
        refine is10 c213_62 rfl ?_
        exact d213_64 hw he pm_FU h
      · rw [if_neg (Int.not_lt.mpr h67)] at h
        refine il6 c213_38 ?_
        refine r_ic c213_40 kI2 ?_
        refine r_icgt (t := 48) c213_41 rfl (fun h73 => ?_) (fun h73 => ?_)
        · rw [if_pos h73] at h
          refine r_ic c213_48 kI0 ?_
          rcases pm_xb_sp h with ⟨ot78, I75, J76, e77, rfl⟩ | ⟨ov74, I75, J76, e77, h⟩
          · exact cx2 q213_49 hh213 (μ1 := (I75, J76, P, pm_T0, e + 1)) (d174 hw he e77) rfl
          refine cz2 q213_49 (μ1 := (I75, J76, P, pm_T0, e)) (d174 hw he e77) rfl ?_
          refine r_ic c213_52 kI0 ?_
          refine is7 c213_53 rfl ?_
          refine r_ic c213_55 kI0 ?_
          refine is8 c213_56 rfl ?_
          refine r_ic c213_58 kI0 ?_
          refine is9 c213_59 rfl ?_
          refine r_ic c213_61 kI0 ?_
          refine is10 c213_62 rfl ?_
          exact d213_64 hw he pm_FU h
        · rw [if_neg (Int.not_lt.mpr h73)] at h
          refine r_ic c213_44 kI1 ?_
          refine r_go (t := 49) c213_45 rfl ?_
          rcases pm_xb_sp h with ⟨ot83, I80, J81, e82, rfl⟩ | ⟨ov79, I80, J81, e82, h⟩
          · exact cx2 q213_49 hh213 (μ1 := (I80, J81, P, pm_T0, e + 1)) (d174 hw he e82) rfl
          refine cz2 q213_49 (μ1 := (I80, J81, P, pm_T0, e)) (d174 hw he e82) rfl ?_
          refine r_ic c213_52 kI0 ?_
          refine is7 c213_53 rfl ?_
          refine r_ic c213_55 kI0 ?_
          refine is8 c213_56 rfl ?_
          refine r_ic c213_58 kI0 ?_
          refine is9 c213_59 rfl ?_
          refine r_ic c213_61 kI0 ?_
          refine is10 c213_62 rfl ?_
          exact d213_64 hw he pm_FU h

/-! every method may be called; the classes are as the tables say (printed by program) -/
theorem zin_of {w : Cond} (k : Nat) (h : lw_tbl[k]? = some w) (g : goodWord w = true) : w ∈ zTb := List.mem_filter.mpr ⟨List.mem_of_getElem? h, g⟩
theorem ziw_of {w : Cond} (k : Nat) (h : lw_tbl[k]? = some w) (g : zWk w = true) : w ∈ zWs := List.mem_filter.mpr ⟨List.mem_of_getElem? h, g⟩
set_option maxRecDepth 100000 in
theorem zmk_S_new : zMk zm_S_new := ⟨zin_of 599 rfl rfl, zin_of 20 rfl rfl, by decide +kernel, by decide +kernel, by decide +kernel⟩
set_option maxRecDepth 100000 in
theorem zmk_S_aim : zMk zm_S_aim := ⟨zin_of 1365 rfl rfl, zin_of 20 rfl rfl, by decide +kernel, by decide +kernel, by decide +kernel⟩
set_option maxRecDepth 100000 in
theorem zmk_S_begin : zMk zm_S_begin := ⟨zin_of 1082 rfl rfl, zin_of 20 rfl rfl, by decide +kernel, by decide +kernel, by decide +kernel⟩
set_option maxRecDepth 100000 in
theorem zmk_S_blow : zMk zm_S_blow := ⟨zin_of 1424 rfl rfl, zin_of 20 rfl rfl, by decide +kernel, by decide +kernel, by decide +kernel⟩
set_option maxRecDepth 100000 in
theorem zmk_S_charge : zMk zm_S_charge := ⟨zin_of 1412 rfl rfl, zin_of 20 rfl rfl, by decide +kernel, by decide +kernel, by decide +kernel⟩
set_option maxRecDepth 100000 in
theorem zmk_S_companyFact : zMk zm_S_companyFact := ⟨zin_of 548 rfl rfl, zin_of 20 rfl rfl, by decide +kernel, by decide +kernel, by decide +kernel⟩
set_option maxRecDepth 100000 in
theorem zmk_S_digest : zMk zm_S_digest := ⟨zin_of 498 rfl rfl, zin_of 20 rfl rfl, by decide +kernel, by decide +kernel, by decide +kernel⟩
set_option maxRecDepth 100000 in
theorem zmk_S_gunFact : zMk zm_S_gunFact := ⟨zin_of 537 rfl rfl, zin_of 20 rfl rfl, by decide +kernel, by decide +kernel, by decide +kernel⟩
set_option maxRecDepth 100000 in
theorem zmk_S_haul : zMk zm_S_haul := ⟨zin_of 1375 rfl rfl, zin_of 20 rfl rfl, by decide +kernel, by decide +kernel, by decide +kernel⟩
set_option maxRecDepth 100000 in
theorem zmk_S_isNoGunWork : zMk zm_S_isNoGunWork := ⟨zin_of 1379 rfl rfl, zin_of 20 rfl rfl, by decide +kernel, by decide +kernel, by decide +kernel⟩
set_option maxRecDepth 100000 in
theorem zmk_S_isSide : zMk zm_S_isSide := ⟨zin_of 446 rfl rfl, zin_of 20 rfl rfl, by decide +kernel, by decide +kernel, by decide +kernel⟩
set_option maxRecDepth 100000 in
theorem zmk_S_isSound : zMk zm_S_isSound := ⟨zin_of 1486 rfl rfl, zin_of 20 rfl rfl, by decide +kernel, by decide +kernel, by decide +kernel⟩
set_option maxRecDepth 100000 in
theorem zmk_S_lay : zMk zm_S_lay := ⟨zin_of 1012 rfl rfl, zin_of 20 rfl rfl, by decide +kernel, by decide +kernel, by decide +kernel⟩
set_option maxRecDepth 100000 in
theorem zmk_S_letter : zMk zm_S_letter := ⟨zin_of 1456 rfl rfl, zin_of 20 rfl rfl, by decide +kernel, by decide +kernel, by decide +kernel⟩
set_option maxRecDepth 100000 in
theorem zmk_S_mine : zMk zm_S_mine := ⟨zin_of 1395 rfl rfl, zin_of 20 rfl rfl, by decide +kernel, by decide +kernel, by decide +kernel⟩
set_option maxRecDepth 100000 in
theorem zmk_S_mineFact : zMk zm_S_mineFact := ⟨zin_of 556 rfl rfl, zin_of 20 rfl rfl, by decide +kernel, by decide +kernel, by decide +kernel⟩
set_option maxRecDepth 100000 in
theorem zmk_S_muster : zMk zm_S_muster := ⟨zin_of 1062 rfl rfl, zin_of 20 rfl rfl, by decide +kernel, by decide +kernel, by decide +kernel⟩
set_option maxRecDepth 100000 in
theorem zmk_S_nextDrawn : zMk zm_S_nextDrawn := ⟨zin_of 1041 rfl rfl, zin_of 20 rfl rfl, by decide +kernel, by decide +kernel, by decide +kernel⟩
set_option maxRecDepth 100000 in
theorem zmk_S_ofCompany : zMk zm_S_ofCompany := ⟨zin_of 1330 rfl rfl, zin_of 20 rfl rfl, by decide +kernel, by decide +kernel, by decide +kernel⟩
set_option maxRecDepth 100000 in
theorem zmk_S_ofGun : zMk zm_S_ofGun := ⟨zin_of 1371 rfl rfl, zin_of 20 rfl rfl, by decide +kernel, by decide +kernel, by decide +kernel⟩
set_option maxRecDepth 100000 in
theorem zmk_S_ofMine : zMk zm_S_ofMine := ⟨zin_of 1482 rfl rfl, zin_of 20 rfl rfl, by decide +kernel, by decide +kernel, by decide +kernel⟩
set_option maxRecDepth 100000 in
theorem zmk_S_ofSide : zMk zm_S_ofSide := ⟨zin_of 443 rfl rfl, zin_of 20 rfl rfl, by decide +kernel, by decide +kernel, by decide +kernel⟩
set_option maxRecDepth 100000 in
theorem zmk_S_ofSiege : zMk zm_S_ofSiege := ⟨zin_of 464 rfl rfl, zin_of 20 rfl rfl, by decide +kernel, by decide +kernel, by decide +kernel⟩
set_option maxRecDepth 100000 in
theorem zmk_S_ofSquare : zMk zm_S_ofSquare := ⟨zin_of 1465 rfl rfl, zin_of 20 rfl rfl, by decide +kernel, by decide +kernel, by decide +kernel⟩
set_option maxRecDepth 100000 in
theorem zmk_S_order : zMk zm_S_order := ⟨zin_of 1341 rfl rfl, zin_of 20 rfl rfl, by decide +kernel, by decide +kernel, by decide +kernel⟩
set_option maxRecDepth 100000 in
theorem zmk_S_pass : zMk zm_S_pass := ⟨zin_of 51 rfl rfl, zin_of 20 rfl rfl, by decide +kernel, by decide +kernel, by decide +kernel⟩
set_option maxRecDepth 100000 in
theorem zmk_S_right : zMk zm_S_right := ⟨zin_of 1389 rfl rfl, zin_of 20 rfl rfl, by decide +kernel, by decide +kernel, by decide +kernel⟩
set_option maxRecDepth 100000 in
theorem zmk_S_sees : zMk zm_S_sees := ⟨zin_of 1476 rfl rfl, zin_of 20 rfl rfl, by decide +kernel, by decide +kernel, by decide +kernel⟩
set_option maxRecDepth 100000 in
theorem zmk_S_sideFact : zMk zm_S_sideFact := ⟨zin_of 452 rfl rfl, zin_of 20 rfl rfl, by decide +kernel, by decide +kernel, by decide +kernel⟩
set_option maxRecDepth 100000 in
theorem zmk_S_siegeFact : zMk zm_S_siegeFact := ⟨zin_of 469 rfl rfl, zin_of 20 rfl rfl, by decide +kernel, by decide +kernel, by decide +kernel⟩
set_option maxRecDepth 100000 in
theorem zmk_S_squareFact : zMk zm_S_squareFact := ⟨zin_of 506 rfl rfl, zin_of 20 rfl rfl, by decide +kernel, by decide +kernel, by decide +kernel⟩
set_option maxRecDepth 100000 in
theorem zmk_S_target : zMk zm_S_target := ⟨zin_of 1349 rfl rfl, zin_of 20 rfl rfl, by decide +kernel, by decide +kernel, by decide +kernel⟩
set_option maxRecDepth 100000 in
theorem zmk_Company_new : zMk zm_Company_new := ⟨zin_of 829 rfl rfl, zin_of 26 rfl rfl, by decide +kernel, by decide +kernel, by decide +kernel⟩
set_option maxRecDepth 100000 in
theorem zmk_Company_isAt : zMk zm_Company_isAt := ⟨zin_of 232 rfl rfl, zin_of 26 rfl rfl, by decide +kernel, by decide +kernel, by decide +kernel⟩
set_option maxRecDepth 100000 in
theorem zmk_Company_isOnGuard : zMk zm_Company_isOnGuard := ⟨zin_of 333 rfl rfl, zin_of 26 rfl rfl, by decide +kernel, by decide +kernel, by decide +kernel⟩
set_option maxRecDepth 100000 in
theorem zmk_Company_isPlaced : zMk zm_Company_isPlaced := ⟨zin_of 544 rfl rfl, zin_of 26 rfl rfl, by decide +kernel, by decide +kernel, by decide +kernel⟩
set_option maxRecDepth 100000 in
theorem zmk_Company_place : zMk zm_Company_place := ⟨zin_of 1026 rfl rfl, zin_of 26 rfl rfl, by decide +kernel, by decide +kernel, by decide +kernel⟩
set_option maxRecDepth 100000 in
theorem zmk_Company_restNow : zMk zm_Company_restNow := ⟨zin_of 285 rfl rfl, zin_of 26 rfl rfl, by decide +kernel, by decide +kernel, by decide +kernel⟩
set_option maxRecDepth 100000 in
theorem zmk_Duties_act : zMk zm_Duties_act := ⟨zin_of 258 rfl rfl, zin_of 46 rfl rfl, by decide +kernel, by decide +kernel, by decide +kernel⟩
set_option maxRecDepth 100000 in
theorem zmk_Duties_assault : zMk zm_Duties_assault := ⟨zin_of 314 rfl rfl, zin_of 46 rfl rfl, by decide +kernel, by decide +kernel, by decide +kernel⟩
set_option maxRecDepth 100000 in
theorem zmk_Duties_attackOf : zMk zm_Duties_attackOf := ⟨zin_of 320 rfl rfl, zin_of 46 rfl rfl, by decide +kernel, by decide +kernel, by decide +kernel⟩
set_option maxRecDepth 100000 in
theorem zmk_Duties_barWays : zMk zm_Duties_barWays := ⟨zin_of 298 rfl rfl, zin_of 46 rfl rfl, by decide +kernel, by decide +kernel, by decide +kernel⟩
set_option maxRecDepth 100000 in
theorem zmk_Duties_canAssault : zMk zm_Duties_canAssault := ⟨zin_of 317 rfl rfl, zin_of 46 rfl rfl, by decide +kernel, by decide +kernel, by decide +kernel⟩
set_option maxRecDepth 100000 in
theorem zmk_Duties_canDig : zMk zm_Duties_canDig := ⟨zin_of 265 rfl rfl, zin_of 46 rfl rfl, by decide +kernel, by decide +kernel, by decide +kernel⟩
set_option maxRecDepth 100000 in
theorem zmk_Duties_defenceOf : zMk zm_Duties_defenceOf := ⟨zin_of 328 rfl rfl, zin_of 46 rfl rfl, by decide +kernel, by decide +kernel, by decide +kernel⟩
set_option maxRecDepth 100000 in
theorem zmk_Duties_dig : zMk zm_Duties_dig := ⟨zin_of 261 rfl rfl, zin_of 46 rfl rfl, by decide +kernel, by decide +kernel, by decide +kernel⟩
set_option maxRecDepth 100000 in
theorem zmk_Duties_goOn : zMk zm_Duties_goOn := ⟨zin_of 292 rfl rfl, zin_of 46 rfl rfl, by decide +kernel, by decide +kernel, by decide +kernel⟩
set_option maxRecDepth 100000 in
theorem zmk_Duties_makeGabions : zMk zm_Duties_makeGabions := ⟨zin_of 288 rfl rfl, zin_of 46 rfl rfl, by decide +kernel, by decide +kernel, by decide +kernel⟩
set_option maxRecDepth 100000 in
theorem zmk_Duties_measureWays : zMk zm_Duties_measureWays := ⟨zin_of 305 rfl rfl, zin_of 46 rfl rfl, by decide +kernel, by decide +kernel, by decide +kernel⟩
set_option maxRecDepth 100000 in
theorem zmk_Duties_mend : zMk zm_Duties_mend := ⟨zin_of 358 rfl rfl, zin_of 46 rfl rfl, by decide +kernel, by decide +kernel, by decide +kernel⟩
set_option maxRecDepth 100000 in
theorem zmk_Duties_payForDefeat : zMk zm_Duties_payForDefeat := ⟨zin_of 340 rfl rfl, zin_of 46 rfl rfl, by decide +kernel, by decide +kernel, by decide +kernel⟩
set_option maxRecDepth 100000 in
theorem zmk_Duties_putToFlight : zMk zm_Duties_putToFlight := ⟨zin_of 347 rfl rfl, zin_of 46 rfl rfl, by decide +kernel, by decide +kernel, by decide +kernel⟩
set_option maxRecDepth 100000 in
theorem zmk_Duties_quarterOf : zMk zm_Duties_quarterOf := ⟨zin_of 344 rfl rfl, zin_of 46 rfl rfl, by decide +kernel, by decide +kernel, by decide +kernel⟩
set_option maxRecDepth 100000 in
theorem zmk_Duties_refugeFrom : zMk zm_Duties_refugeFrom := ⟨zin_of 350 rfl rfl, zin_of 46 rfl rfl, by decide +kernel, by decide +kernel, by decide +kernel⟩
set_option maxRecDepth 100000 in
theorem zmk_Duties_stepTo : zMk zm_Duties_stepTo := ⟨zin_of 295 rfl rfl, zin_of 46 rfl rfl, by decide +kernel, by decide +kernel, by decide +kernel⟩
set_option maxRecDepth 100000 in
theorem zmk_Duties_toilNeeded : zMk zm_Duties_toilNeeded := ⟨zin_of 274 rfl rfl, zin_of 46 rfl rfl, by decide +kernel, by decide +kernel, by decide +kernel⟩
set_option maxRecDepth 100000 in
theorem zmk_Ground_new : zMk zm_Ground_new := ⟨zin_of 609 rfl rfl, zin_of 22 rfl rfl, by decide +kernel, by decide +kernel, by decide +kernel⟩
set_option maxRecDepth 100000 in
theorem zmk_Ground_alongLine : zMk zm_Ground_alongLine := ⟨zin_of 188 rfl rfl, zin_of 22 rfl rfl, by decide +kernel, by decide +kernel, by decide +kernel⟩
set_option maxRecDepth 100000 in
theorem zmk_Ground_belongsTo : zMk zm_Ground_belongsTo := ⟨zin_of 302 rfl rfl, zin_of 22 rfl rfl, by decide +kernel, by decide +kernel, by decide +kernel⟩
set_option maxRecDepth 100000 in
theorem zmk_Ground_bodyOf : zMk zm_Ground_bodyOf := ⟨zin_of 525 rfl rfl, zin_of 22 rfl rfl, by decide +kernel, by decide +kernel, by decide +kernel⟩
set_option maxRecDepth 100000 in
theorem zmk_Ground_bodyOverTop : zMk zm_Ground_bodyOverTop := ⟨zin_of 185 rfl rfl, zin_of 22 rfl rfl, by decide +kernel, by decide +kernel, by decide +kernel⟩
set_option maxRecDepth 100000 in
theorem zmk_Ground_countOf : zMk zm_Ground_countOf := ⟨zin_of 418 rfl rfl, zin_of 22 rfl rfl, by decide +kernel, by decide +kernel, by decide +kernel⟩
set_option maxRecDepth 100000 in
theorem zmk_Ground_digDitch : zMk zm_Ground_digDitch := ⟨zin_of 1053 rfl rfl, zin_of 22 rfl rfl, by decide +kernel, by decide +kernel, by decide +kernel⟩
set_option maxRecDepth 100000 in
theorem zmk_Ground_far : zMk zm_Ground_far := ⟨zin_of 195 rfl rfl, zin_of 22 rfl rfl, by decide +kernel, by decide +kernel, by decide +kernel⟩
set_option maxRecDepth 100000 in
theorem zmk_Ground_firmOf : zMk zm_Ground_firmOf := ⟨zin_of 516 rfl rfl, zin_of 22 rfl rfl, by decide +kernel, by decide +kernel, by decide +kernel⟩
set_option maxRecDepth 100000 in
theorem zmk_Ground_heightOf : zMk zm_Ground_heightOf := ⟨zin_of 510 rfl rfl, zin_of 22 rfl rfl, by decide +kernel, by decide +kernel, by decide +kernel⟩
set_option maxRecDepth 100000 in
theorem zmk_Ground_isNear : zMk zm_Ground_isNear := ⟨zin_of 492 rfl rfl, zin_of 22 rfl rfl, by decide +kernel, by decide +kernel, by decide +kernel⟩
set_option maxRecDepth 100000 in
theorem zmk_Ground_isOn : zMk zm_Ground_isOn := ⟨zin_of 170 rfl rfl, zin_of 22 rfl rfl, by decide +kernel, by decide +kernel, by decide +kernel⟩
set_option maxRecDepth 100000 in
theorem zmk_Ground_isRaked : zMk zm_Ground_isRaked := ⟨zin_of 226 rfl rfl, zin_of 22 rfl rfl, by decide +kernel, by decide +kernel, by decide +kernel⟩
set_option maxRecDepth 100000 in
theorem zmk_Ground_isSeen : zMk zm_Ground_isSeen := ⟨zin_of 166 rfl rfl, zin_of 22 rfl rfl, by decide +kernel, by decide +kernel, by decide +kernel⟩
set_option maxRecDepth 100000 in
theorem zmk_Ground_layOut : zMk zm_Ground_layOut := ⟨zin_of 1038 rfl rfl, zin_of 22 rfl rfl, by decide +kernel, by decide +kernel, by decide +kernel⟩
set_option maxRecDepth 100000 in
theorem zmk_Ground_next : zMk zm_Ground_next := ⟨zin_of 309 rfl rfl, zin_of 22 rfl rfl, by decide +kernel, by decide +kernel, by decide +kernel⟩
set_option maxRecDepth 100000 in
theorem zmk_Ground_openGate : zMk zm_Ground_openGate := ⟨zin_of 1058 rfl rfl, zin_of 22 rfl rfl, by decide +kernel, by decide +kernel, by decide +kernel⟩
set_option maxRecDepth 100000 in
theorem zmk_Ground_raiseFort : zMk zm_Ground_raiseFort := ⟨zin_of 1049 rfl rfl, zin_of 22 rfl rfl, by decide +kernel, by decide +kernel, by decide +kernel⟩
set_option maxRecDepth 100000 in
theorem zmk_Ground_shape : zMk zm_Ground_shape := ⟨zin_of 362 rfl rfl, zin_of 22 rfl rfl, by decide +kernel, by decide +kernel, by decide +kernel⟩
set_option maxRecDepth 100000 in
theorem zmk_Ground_soilBy : zMk zm_Ground_soilBy := ⟨zin_of 1044 rfl rfl, zin_of 22 rfl rfl, by decide +kernel, by decide +kernel, by decide +kernel⟩
set_option maxRecDepth 100000 in
theorem zmk_Ground_soilOf : zMk zm_Ground_soilOf := ⟨zin_of 383 rfl rfl, zin_of 22 rfl rfl, by decide +kernel, by decide +kernel, by decide +kernel⟩
set_option maxRecDepth 100000 in
theorem zmk_Ground_toilOf : zMk zm_Ground_toilOf := ⟨zin_of 520 rfl rfl, zin_of 22 rfl rfl, by decide +kernel, by decide +kernel, by decide +kernel⟩
set_option maxRecDepth 100000 in
theorem zmk_Ground_topOf : zMk zm_Ground_topOf := ⟨zin_of 180 rfl rfl, zin_of 22 rfl rfl, by decide +kernel, by decide +kernel, by decide +kernel⟩
set_option maxRecDepth 100000 in
theorem zmk_Ground_touches : zMk zm_Ground_touches := ⟨zin_of 270 rfl rfl, zin_of 22 rfl rfl, by decide +kernel, by decide +kernel, by decide +kernel⟩
set_option maxRecDepth 100000 in
theorem zmk_Ground_touchesWork : zMk zm_Ground_touchesWork := ⟨zin_of 487 rfl rfl, zin_of 22 rfl rfl, by decide +kernel, by decide +kernel, by decide +kernel⟩
set_option maxRecDepth 100000 in
theorem zmk_Ground_workOf : zMk zm_Ground_workOf := ⟨zin_of 222 rfl rfl, zin_of 22 rfl rfl, by decide +kernel, by decide +kernel, by decide +kernel⟩
set_option maxRecDepth 100000 in
theorem zmk_Gun_new : zMk zm_Gun_new := ⟨zin_of 786 rfl rfl, zin_of 25 rfl rfl, by decide +kernel, by decide +kernel, by decide +kernel⟩
set_option maxRecDepth 100000 in
theorem zmk_Gun_isPlaced : zMk zm_Gun_isPlaced := ⟨zin_of 151 rfl rfl, zin_of 25 rfl rfl, by decide +kernel, by decide +kernel, by decide +kernel⟩
set_option maxRecDepth 100000 in
theorem zmk_Gun_isReadyOf : zMk zm_Gun_isReadyOf := ⟨zin_of 281 rfl rfl, zin_of 25 rfl rfl, by decide +kernel, by decide +kernel, by decide +kernel⟩
set_option maxRecDepth 100000 in
theorem zmk_Gun_place : zMk zm_Gun_place := ⟨zin_of 1022 rfl rfl, zin_of 25 rfl rfl, by decide +kernel, by decide +kernel, by decide +kernel⟩
set_option maxRecDepth 100000 in
theorem zmk_Gunnery_bestTarget : zMk zm_Gunnery_bestTarget := ⟨zin_of 1357 rfl rfl, zin_of 44 rfl rfl, by decide +kernel, by decide +kernel, by decide +kernel⟩
set_option maxRecDepth 100000 in
theorem zmk_Gunnery_canReach : zMk zm_Gunnery_canReach := ⟨zin_of 154 rfl rfl, zin_of 44 rfl rfl, by decide +kernel, by decide +kernel, by decide +kernel⟩
set_option maxRecDepth 100000 in
theorem zmk_Gunnery_fire : zMk zm_Gunnery_fire := ⟨zin_of 144 rfl rfl, zin_of 44 rfl rfl, by decide +kernel, by decide +kernel, by decide +kernel⟩
set_option maxRecDepth 100000 in
theorem zmk_Gunnery_gunsSeeing : zMk zm_Gunnery_gunsSeeing := ⟨zin_of 277 rfl rfl, zin_of 44 rfl rfl, by decide +kernel, by decide +kernel, by decide +kernel⟩
set_option maxRecDepth 100000 in
theorem zmk_Gunnery_lossBy : zMk zm_Gunnery_lossBy := ⟨zin_of 218 rfl rfl, zin_of 44 rfl rfl, by decide +kernel, by decide +kernel, by decide +kernel⟩
set_option maxRecDepth 100000 in
theorem zmk_Gunnery_pointsOf : zMk zm_Gunnery_pointsOf := ⟨zin_of 1360 rfl rfl, zin_of 44 rfl rfl, by decide +kernel, by decide +kernel, by decide +kernel⟩
set_option maxRecDepth 100000 in
theorem zmk_Gunnery_shotsOf : zMk zm_Gunnery_shotsOf := ⟨zin_of 147 rfl rfl, zin_of 44 rfl rfl, by decide +kernel, by decide +kernel, by decide +kernel⟩
set_option maxRecDepth 100000 in
theorem zmk_Gunnery_strike : zMk zm_Gunnery_strike := ⟨zin_of 206 rfl rfl, zin_of 44 rfl rfl, by decide +kernel, by decide +kernel, by decide +kernel⟩
set_option maxRecDepth 100000 in
theorem zmk_Midnight_bringSupply : zMk zm_Midnight_bringSupply := ⟨zin_of 414 rfl rfl, zin_of 47 rfl rfl, by decide +kernel, by decide +kernel, by decide +kernel⟩
set_option maxRecDepth 100000 in
theorem zmk_Midnight_come : zMk zm_Midnight_come := ⟨zin_of 394 rfl rfl, zin_of 47 rfl rfl, by decide +kernel, by decide +kernel, by decide +kernel⟩
set_option maxRecDepth 100000 in
theorem zmk_Midnight_comeNearer : zMk zm_Midnight_comeNearer := ⟨zin_of 438 rfl rfl, zin_of 47 rfl rfl, by decide +kernel, by decide +kernel, by decide +kernel⟩
set_option maxRecDepth 100000 in
theorem zmk_Midnight_desert : zMk zm_Midnight_desert := ⟨zin_of 410 rfl rfl, zin_of 47 rfl rfl, by decide +kernel, by decide +kernel, by decide +kernel⟩
set_option maxRecDepth 100000 in
theorem zmk_Midnight_eat : zMk zm_Midnight_eat := ⟨zin_of 397 rfl rfl, zin_of 47 rfl rfl, by decide +kernel, by decide +kernel, by decide +kernel⟩
set_option maxRecDepth 100000 in
theorem zmk_Midnight_fallSick : zMk zm_Midnight_fallSick := ⟨zin_of 406 rfl rfl, zin_of 47 rfl rfl, by decide +kernel, by decide +kernel, by decide +kernel⟩
set_option maxRecDepth 100000 in
theorem zmk_Midnight_guardsOf : zMk zm_Midnight_guardsOf := ⟨zin_of 421 rfl rfl, zin_of 47 rfl rfl, by decide +kernel, by decide +kernel, by decide +kernel⟩
set_option maxRecDepth 100000 in
theorem zmk_Mine_new : zMk zm_Mine_new := ⟨zin_of 876 rfl rfl, zin_of 27 rfl rfl, by decide +kernel, by decide +kernel, by decide +kernel⟩
set_option maxRecDepth 100000 in
theorem zmk_Mine_goOn : zMk zm_Mine_goOn := ⟨zin_of 387 rfl rfl, zin_of 27 rfl rfl, by decide +kernel, by decide +kernel, by decide +kernel⟩
set_option maxRecDepth 100000 in
theorem zmk_Mine_head : zMk zm_Mine_head := ⟨zin_of 378 rfl rfl, zin_of 27 rfl rfl, by decide +kernel, by decide +kernel, by decide +kernel⟩
set_option maxRecDepth 100000 in
theorem zmk_Mine_isBegun : zMk zm_Mine_isBegun := ⟨zin_of 369 rfl rfl, zin_of 27 rfl rfl, by decide +kernel, by decide +kernel, by decide +kernel⟩
set_option maxRecDepth 100000 in
theorem zmk_Mine_isWhole : zMk zm_Mine_isWhole := ⟨zin_of 566 rfl rfl, zin_of 27 rfl rfl, by decide +kernel, by decide +kernel, by decide +kernel⟩
set_option maxRecDepth 100000 in
theorem zmk_Mine_mouth : zMk zm_Mine_mouth := ⟨zin_of 373 rfl rfl, zin_of 27 rfl rfl, by decide +kernel, by decide +kernel, by decide +kernel⟩
set_option maxRecDepth 100000 in
theorem zmk_Mine_place : zMk zm_Mine_place := ⟨zin_of 1408 rfl rfl, zin_of 27 rfl rfl, by decide +kernel, by decide +kernel, by decide +kernel⟩
set_option maxRecDepth 100000 in
theorem zmk_Mining_advance : zMk zm_Mining_advance := ⟨zin_of 365 rfl rfl, zin_of 45 rfl rfl, by decide +kernel, by decide +kernel, by decide +kernel⟩
set_option maxRecDepth 100000 in
theorem zmk_Mining_blowUp : zMk zm_Mining_blowUp := ⟨zin_of 1428 rfl rfl, zin_of 45 rfl rfl, by decide +kernel, by decide +kernel, by decide +kernel⟩
set_option maxRecDepth 100000 in
theorem zmk_Mining_comesNear : zMk zm_Mining_comesNear := ⟨zin_of 1439 rfl rfl, zin_of 45 rfl rfl, by decide +kernel, by decide +kernel, by decide +kernel⟩
set_option maxRecDepth 100000 in
theorem zmk_Mining_crushOthers : zMk zm_Mining_crushOthers := ⟨zin_of 1436 rfl rfl, zin_of 45 rfl rfl, by decide +kernel, by decide +kernel, by decide +kernel⟩
set_option maxRecDepth 100000 in
theorem zmk_Mining_isHeard : zMk zm_Mining_isHeard := ⟨zin_of 561 rfl rfl, zin_of 45 rfl rfl, by decide +kernel, by decide +kernel, by decide +kernel⟩
set_option maxRecDepth 100000 in
theorem zmk_Mining_isMouth : zMk zm_Mining_isMouth := ⟨zin_of 1399 rfl rfl, zin_of 45 rfl rfl, by decide +kernel, by decide +kernel, by decide +kernel⟩
set_option maxRecDepth 100000 in
theorem zmk_Mining_reachOf : zMk zm_Mining_reachOf := ⟨zin_of 1431 rfl rfl, zin_of 45 rfl rfl, by decide +kernel, by decide +kernel, by decide +kernel⟩
set_option maxRecDepth 100000 in
theorem zmk_Mining_shake : zMk zm_Mining_shake := ⟨zin_of 1443 rfl rfl, zin_of 45 rfl rfl, by decide +kernel, by decide +kernel, by decide +kernel⟩
set_option maxRecDepth 100000 in
theorem zmk_Mining_sink : zMk zm_Mining_sink := ⟨zin_of 1450 rfl rfl, zin_of 45 rfl rfl, by decide +kernel, by decide +kernel, by decide +kernel⟩
set_option maxRecDepth 100000 in
theorem zmk_Post_new : zMk zm_Post_new := ⟨zin_of 752 rfl rfl, zin_of 24 rfl rfl, by decide +kernel, by decide +kernel, by decide +kernel⟩
set_option maxRecDepth 100000 in
theorem zmk_Post_comeThrough : zMk zm_Post_comeThrough := ⟨zin_of 431 rfl rfl, zin_of 24 rfl rfl, by decide +kernel, by decide +kernel, by decide +kernel⟩
set_option maxRecDepth 100000 in
theorem zmk_Post_loseDay : zMk zm_Post_loseDay := ⟨zin_of 435 rfl rfl, zin_of 24 rfl rfl, by decide +kernel, by decide +kernel, by decide +kernel⟩
set_option maxRecDepth 100000 in
theorem zmk_Post_swim : zMk zm_Post_swim := ⟨zin_of 426 rfl rfl, zin_of 24 rfl rfl, by decide +kernel, by decide +kernel, by decide +kernel⟩
set_option maxRecDepth 100000 in
theorem zmk_Side_new : zMk zm_Side_new := ⟨zin_of 690 rfl rfl, zin_of 23 rfl rfl, by decide +kernel, by decide +kernel, by decide +kernel⟩
set_option maxRecDepth 100000 in
theorem zmk_Side_changeMorale : zMk zm_Side_changeMorale := ⟨zin_of 215 rfl rfl, zin_of 23 rfl rfl, by decide +kernel, by decide +kernel, by decide +kernel⟩
set_option maxRecDepth 100000 in
theorem zmk_Side_spend : zMk zm_Side_spend := ⟨zin_of 203 rfl rfl, zin_of 23 rfl rfl, by decide +kernel, by decide +kernel, by decide +kernel⟩
set_option maxRecDepth 100000 in
theorem zmk_Side_tell : zMk zm_Side_tell := ⟨zin_of 1030 rfl rfl, zin_of 23 rfl rfl, by decide +kernel, by decide +kernel, by decide +kernel⟩
set_option maxRecDepth 100000 in
theorem zmk_Siege_new : zMk zm_Siege_new := ⟨zin_of 604 rfl rfl, zin_of 21 rfl rfl, by decide +kernel, by decide +kernel, by decide +kernel⟩
set_option maxRecDepth 100000 in
theorem zmk_Siege_areMenSound : zMk zm_Siege_areMenSound := ⟨zin_of 579 rfl rfl, zin_of 21 rfl rfl, by decide +kernel, by decide +kernel, by decide +kernel⟩
set_option maxRecDepth 100000 in
theorem zmk_Siege_askWhetherOver : zMk zm_Siege_askWhetherOver := ⟨zin_of 241 rfl rfl, zin_of 21 rfl rfl, by decide +kernel, by decide +kernel, by decide +kernel⟩
set_option maxRecDepth 100000 in
theorem zmk_Siege_batter : zMk zm_Siege_batter := ⟨zin_of 210 rfl rfl, zin_of 21 rfl rfl, by decide +kernel, by decide +kernel, by decide +kernel⟩
set_option maxRecDepth 100000 in
theorem zmk_Siege_beginMine : zMk zm_Siege_beginMine := ⟨zin_of 1404 rfl rfl, zin_of 21 rfl rfl, by decide +kernel, by decide +kernel, by decide +kernel⟩
set_option maxRecDepth 100000 in
theorem zmk_Siege_companiesOf : zMk zm_Siege_companiesOf := ⟨zin_of 255 rfl rfl, zin_of 21 rfl rfl, by decide +kernel, by decide +kernel, by decide +kernel⟩
set_option maxRecDepth 100000 in
theorem zmk_Siege_companyAt : zMk zm_Siege_companyAt := ⟨zin_of 1334 rfl rfl, zin_of 21 rfl rfl, by decide +kernel, by decide +kernel, by decide +kernel⟩
set_option maxRecDepth 100000 in
theorem zmk_Siege_countFight : zMk zm_Siege_countFight := ⟨zin_of 337 rfl rfl, zin_of 21 rfl rfl, by decide +kernel, by decide +kernel, by decide +kernel⟩
set_option maxRecDepth 100000 in
theorem zmk_Siege_depth : zMk zm_Siege_depth := ⟨zin_of 473 rfl rfl, zin_of 21 rfl rfl, by decide +kernel, by decide +kernel, by decide +kernel⟩
set_option maxRecDepth 100000 in
theorem zmk_Siege_end : zMk zm_Siege_end := ⟨zin_of 251 rfl rfl, zin_of 21 rfl rfl, by decide +kernel, by decide +kernel, by decide +kernel⟩
set_option maxRecDepth 100000 in
theorem zmk_Siege_forceOf : zMk zm_Siege_forceOf := ⟨zin_of 324 rfl rfl, zin_of 21 rfl rfl, by decide +kernel, by decide +kernel, by decide +kernel⟩
set_option maxRecDepth 100000 in
theorem zmk_Siege_freshCompanyAt : zMk zm_Siege_freshCompanyAt := ⟨zin_of 1384 rfl rfl, zin_of 21 rfl rfl, by decide +kernel, by decide +kernel, by decide +kernel⟩
set_option maxRecDepth 100000 in
theorem zmk_Siege_gunAt : zMk zm_Siege_gunAt := ⟨zin_of 1353 rfl rfl, zin_of 21 rfl rfl, by decide +kernel, by decide +kernel, by decide +kernel⟩
set_option maxRecDepth 100000 in
theorem zmk_Siege_homeOf : zMk zm_Siege_homeOf := ⟨zin_of 354 rfl rfl, zin_of 21 rfl rfl, by decide +kernel, by decide +kernel, by decide +kernel⟩
set_option maxRecDepth 100000 in
theorem zmk_Siege_hourOfDay : zMk zm_Siege_hourOfDay := ⟨zin_of 391 rfl rfl, zin_of 21 rfl rfl, by decide +kernel, by decide +kernel, by decide +kernel⟩
set_option maxRecDepth 100000 in
theorem zmk_Siege_isAllSound : zMk zm_Siege_isAllSound := ⟨zin_of 570 rfl rfl, zin_of 21 rfl rfl, by decide +kernel, by decide +kernel, by decide +kernel⟩
set_option maxRecDepth 100000 in
theorem zmk_Siege_isGroundSound : zMk zm_Siege_isGroundSound := ⟨zin_of 583 rfl rfl, zin_of 21 rfl rfl, by decide +kernel, by decide +kernel, by decide +kernel⟩
set_option maxRecDepth 100000 in
theorem zmk_Siege_isHeldBy : zMk zm_Siege_isHeldBy := ⟨zin_of 245 rfl rfl, zin_of 21 rfl rfl, by decide +kernel, by decide +kernel, by decide +kernel⟩
set_option maxRecDepth 100000 in
theorem zmk_Siege_isNight : zMk zm_Siege_isNight := ⟨zin_of 162 rfl rfl, zin_of 21 rfl rfl, by decide +kernel, by decide +kernel, by decide +kernel⟩
set_option maxRecDepth 100000 in
theorem zmk_Siege_isSideSound : zMk zm_Siege_isSideSound := ⟨zin_of 574 rfl rfl, zin_of 21 rfl rfl, by decide +kernel, by decide +kernel, by decide +kernel⟩
set_option maxRecDepth 100000 in
theorem zmk_Siege_letHourGo : zMk zm_Siege_letHourGo := ⟨zin_of 141 rfl rfl, zin_of 21 rfl rfl, by decide +kernel, by decide +kernel, by decide +kernel⟩
set_option maxRecDepth 100000 in
theorem zmk_Siege_menAt : zMk zm_Siege_menAt := ⟨zin_of 530 rfl rfl, zin_of 21 rfl rfl, by decide +kernel, by decide +kernel, by decide +kernel⟩
set_option maxRecDepth 100000 in
theorem zmk_Siege_menOf : zMk zm_Siege_menOf := ⟨zin_of 402 rfl rfl, zin_of 21 rfl rfl, by decide +kernel, by decide +kernel, by decide +kernel⟩
set_option maxRecDepth 100000 in
theorem zmk_Siege_mineAt : zMk zm_Siege_mineAt := ⟨zin_of 1416 rfl rfl, zin_of 21 rfl rfl, by decide +kernel, by decide +kernel, by decide +kernel⟩
set_option maxRecDepth 100000 in
theorem zmk_Siege_musterAll : zMk zm_Siege_musterAll := ⟨zin_of 1068 rfl rfl, zin_of 21 rfl rfl, by decide +kernel, by decide +kernel, by decide +kernel⟩
set_option maxRecDepth 100000 in
theorem zmk_Siege_of : zMk zm_Siege_of := ⟨zin_of 199 rfl rfl, zin_of 21 rfl rfl, by decide +kernel, by decide +kernel, by decide +kernel⟩
set_option maxRecDepth 100000 in
theorem zmk_Siege_placeCompany : zMk zm_Siege_placeCompany := ⟨zin_of 1074 rfl rfl, zin_of 21 rfl rfl, by decide +kernel, by decide +kernel, by decide +kernel⟩
set_option maxRecDepth 100000 in
theorem zmk_Siege_placeGun : zMk zm_Siege_placeGun := ⟨zin_of 1078 rfl rfl, zin_of 21 rfl rfl, by decide +kernel, by decide +kernel, by decide +kernel⟩
set_option maxRecDepth 100000 in
theorem zmk_Siege_readyGunsOf : zMk zm_Siege_readyGunsOf := ⟨zin_of 459 rfl rfl, zin_of 21 rfl rfl, by decide +kernel, by decide +kernel, by decide +kernel⟩
set_option maxRecDepth 100000 in
theorem zmk_Siege_sightFar : zMk zm_Siege_sightFar := ⟨zin_of 158 rfl rfl, zin_of 21 rfl rfl, by decide +kernel, by decide +kernel, by decide +kernel⟩
set_option maxRecDepth 100000 in
theorem zmk_Siege_standsAtBreach : zMk zm_Siege_standsAtBreach := ⟨zin_of 483 rfl rfl, zin_of 21 rfl rfl, by decide +kernel, by decide +kernel, by decide +kernel⟩
set_option maxRecDepth 100000 in
theorem zmk_Siege_standsIn : zMk zm_Siege_standsIn := ⟨zin_of 477 rfl rfl, zin_of 21 rfl rfl, by decide +kernel, by decide +kernel, by decide +kernel⟩
set_option maxRecDepth 100000 in
theorem zmk_Siege_startOver : zMk zm_Siege_startOver := ⟨zin_of 1018 rfl rfl, zin_of 21 rfl rfl, by decide +kernel, by decide +kernel, by decide +kernel⟩
set_option maxRecDepth 100000 in
theorem zmk_Siege_takeMen : zMk zm_Siege_takeMen := ⟨zin_of 236 rfl rfl, zin_of 21 rfl rfl, by decide +kernel, by decide +kernel, by decide +kernel⟩
set_option maxRecDepth 100000 in
theorem zmk_Siege_tellTown : zMk zm_Siege_tellTown := ⟨zin_of 1034 rfl rfl, zin_of 21 rfl rfl, by decide +kernel, by decide +kernel, by decide +kernel⟩
set_option maxRecDepth 100000 in
theorem zmk_L_below : zMk zm_L_below := ⟨zin_of 587 rfl rfl, zin_of 19 rfl rfl, by decide +kernel, by decide +kernel, by decide +kernel⟩
set_option maxRecDepth 100000 in
theorem zmk_L_cell : zMk zm_L_cell := ⟨zin_of 591 rfl rfl, zin_of 19 rfl rfl, by decide +kernel, by decide +kernel, by decide +kernel⟩
set_option maxRecDepth 100000 in
theorem zmk_L_count : zMk zm_L_count := ⟨zin_of 1461 rfl rfl, zin_of 19 rfl rfl, by decide +kernel, by decide +kernel, by decide +kernel⟩
set_option maxRecDepth 100000 in
theorem zmk_L_isDone : zMk zm_L_isDone := ⟨zin_of 1325 rfl rfl, zin_of 19 rfl rfl, by decide +kernel, by decide +kernel, by decide +kernel⟩
set_option maxRecDepth 100000 in
theorem zmk_L_isRefused : zMk zm_L_isRefused := ⟨zin_of 1469 rfl rfl, zin_of 19 rfl rfl, by decide +kernel, by decide +kernel, by decide +kernel⟩
set_option maxRecDepth 100000 in
theorem zmk_L_isSo : zMk zm_L_isSo := ⟨zin_of 1472 rfl rfl, zin_of 19 rfl rfl, by decide +kernel, by decide +kernel, by decide +kernel⟩
set_option maxRecDepth 100000 in
theorem zmk_L_siege : zMk zm_L_siege := ⟨zin_of 595 rfl rfl, zin_of 19 rfl rfl, by decide +kernel, by decide +kernel, by decide +kernel⟩
set_option maxRecDepth 100000 in
theorem zmk_L_size : zMk zm_L_size := ⟨zin_of 1086 rfl rfl, zin_of 19 rfl rfl, by decide +kernel, by decide +kernel, by decide +kernel⟩
set_option maxRecDepth 100000 in
theorem zmk_Math_abs : zMk zm_Math_abs := ⟨zin_of 173 rfl rfl, zin_of 41 rfl rfl, by decide +kernel, by decide +kernel, by decide +kernel⟩
set_option maxRecDepth 100000 in
theorem zmk_Math_floorDiv : zMk zm_Math_floorDiv := ⟨zin_of 191 rfl rfl, zin_of 41 rfl rfl, by decide +kernel, by decide +kernel, by decide +kernel⟩
set_option maxRecDepth 100000 in
theorem zmk_Math_max : zMk zm_Math_max := ⟨zin_of 176 rfl rfl, zin_of 41 rfl rfl, by decide +kernel, by decide +kernel, by decide +kernel⟩
set_option maxRecDepth 100000 in
theorem zmk_Math_min : zMk zm_Math_min := ⟨zin_of 1228 rfl rfl, zin_of 41 rfl rfl, by decide +kernel, by decide +kernel, by decide +kernel⟩
set_option maxRecDepth 100000 in
theorem zmk_all : ∀ q ∈ zProg, zmF q ≠ 12 → zMk q := by
  intro q hq h12
  unfold zProg at hq
  rcases List.mem_cons.mp hq with rfl | hq
  · exact zmk_S_new
  rcases List.mem_cons.mp hq with rfl | hq
  · exact zmk_S_aim
  rcases List.mem_cons.mp hq with rfl | hq
  · exact zmk_S_begin
  rcases List.mem_cons.mp hq with rfl | hq
  · exact zmk_S_blow
  rcases List.mem_cons.mp hq with rfl | hq
  · exact zmk_S_charge
  rcases List.mem_cons.mp hq with rfl | hq
  · exact zmk_S_companyFact
  rcases List.mem_cons.mp hq with rfl | hq
  · exact zmk_S_digest
  rcases List.mem_cons.mp hq with rfl | hq
  · exact zmk_S_gunFact
  rcases List.mem_cons.mp hq with rfl | hq
  · exact zmk_S_haul
  rcases List.mem_cons.mp hq with rfl | hq
  · exact zmk_S_isNoGunWork
  rcases List.mem_cons.mp hq with rfl | hq
  · exact zmk_S_isSide
  rcases List.mem_cons.mp hq with rfl | hq
  · exact zmk_S_isSound
  rcases List.mem_cons.mp hq with rfl | hq
  · exact zmk_S_lay
  rcases List.mem_cons.mp hq with rfl | hq
  · exact zmk_S_letter
  rcases List.mem_cons.mp hq with rfl | hq
  · exact zmk_S_mine
  rcases List.mem_cons.mp hq with rfl | hq
  · exact zmk_S_mineFact
  rcases List.mem_cons.mp hq with rfl | hq
  · exact zmk_S_muster
  rcases List.mem_cons.mp hq with rfl | hq
  · exact zmk_S_nextDrawn
  rcases List.mem_cons.mp hq with rfl | hq
  · exact zmk_S_ofCompany
  rcases List.mem_cons.mp hq with rfl | hq
  · exact zmk_S_ofGun
  rcases List.mem_cons.mp hq with rfl | hq
  · exact zmk_S_ofMine
  rcases List.mem_cons.mp hq with rfl | hq
  · exact zmk_S_ofSide
  rcases List.mem_cons.mp hq with rfl | hq
  · exact zmk_S_ofSiege
  rcases List.mem_cons.mp hq with rfl | hq
  · exact zmk_S_ofSquare
  rcases List.mem_cons.mp hq with rfl | hq
  · exact zmk_S_order
  rcases List.mem_cons.mp hq with rfl | hq
  · exact zmk_S_pass
  rcases List.mem_cons.mp hq with rfl | hq
  · exact zmk_S_right
  rcases List.mem_cons.mp hq with rfl | hq
  · exact zmk_S_sees
  rcases List.mem_cons.mp hq with rfl | hq
  · exact zmk_S_sideFact
  rcases List.mem_cons.mp hq with rfl | hq
  · exact zmk_S_siegeFact
  rcases List.mem_cons.mp hq with rfl | hq
  · exact zmk_S_squareFact
  rcases List.mem_cons.mp hq with rfl | hq
  · exact zmk_S_target
  rcases List.mem_cons.mp hq with rfl | hq
  · exact zmk_Company_new
  rcases List.mem_cons.mp hq with rfl | hq
  · exact zmk_Company_isAt
  rcases List.mem_cons.mp hq with rfl | hq
  · exact zmk_Company_isOnGuard
  rcases List.mem_cons.mp hq with rfl | hq
  · exact zmk_Company_isPlaced
  rcases List.mem_cons.mp hq with rfl | hq
  · exact zmk_Company_place
  rcases List.mem_cons.mp hq with rfl | hq
  · exact zmk_Company_restNow
  rcases List.mem_cons.mp hq with rfl | hq
  · exact zmk_Duties_act
  rcases List.mem_cons.mp hq with rfl | hq
  · exact zmk_Duties_assault
  rcases List.mem_cons.mp hq with rfl | hq
  · exact zmk_Duties_attackOf
  rcases List.mem_cons.mp hq with rfl | hq
  · exact zmk_Duties_barWays
  rcases List.mem_cons.mp hq with rfl | hq
  · exact zmk_Duties_canAssault
  rcases List.mem_cons.mp hq with rfl | hq
  · exact zmk_Duties_canDig
  rcases List.mem_cons.mp hq with rfl | hq
  · exact zmk_Duties_defenceOf
  rcases List.mem_cons.mp hq with rfl | hq
  · exact zmk_Duties_dig
  rcases List.mem_cons.mp hq with rfl | hq
  · exact zmk_Duties_goOn
  rcases List.mem_cons.mp hq with rfl | hq
  · exact zmk_Duties_makeGabions
  rcases List.mem_cons.mp hq with rfl | hq
  · exact zmk_Duties_measureWays
  rcases List.mem_cons.mp hq with rfl | hq
  · exact zmk_Duties_mend
  rcases List.mem_cons.mp hq with rfl | hq
  · exact zmk_Duties_payForDefeat
  rcases List.mem_cons.mp hq with rfl | hq
  · exact zmk_Duties_putToFlight
  rcases List.mem_cons.mp hq with rfl | hq
  · exact zmk_Duties_quarterOf
  rcases List.mem_cons.mp hq with rfl | hq
  · exact zmk_Duties_refugeFrom
  rcases List.mem_cons.mp hq with rfl | hq
  · exact zmk_Duties_stepTo
  rcases List.mem_cons.mp hq with rfl | hq
  · exact zmk_Duties_toilNeeded
  rcases List.mem_cons.mp hq with rfl | hq
  · exact zmk_Ground_new
  rcases List.mem_cons.mp hq with rfl | hq
  · exact zmk_Ground_alongLine
  rcases List.mem_cons.mp hq with rfl | hq
  · exact zmk_Ground_belongsTo
  rcases List.mem_cons.mp hq with rfl | hq
  · exact zmk_Ground_bodyOf
  rcases List.mem_cons.mp hq with rfl | hq
  · exact zmk_Ground_bodyOverTop
  rcases List.mem_cons.mp hq with rfl | hq
  · exact zmk_Ground_countOf
  rcases List.mem_cons.mp hq with rfl | hq
  · exact zmk_Ground_digDitch
  rcases List.mem_cons.mp hq with rfl | hq
  · exact zmk_Ground_far
  rcases List.mem_cons.mp hq with rfl | hq
  · exact zmk_Ground_firmOf
  rcases List.mem_cons.mp hq with rfl | hq
  · exact zmk_Ground_heightOf
  rcases List.mem_cons.mp hq with rfl | hq
  · exact zmk_Ground_isNear
  rcases List.mem_cons.mp hq with rfl | hq
  · exact zmk_Ground_isOn
  rcases List.mem_cons.mp hq with rfl | hq
  · exact zmk_Ground_isRaked
  rcases List.mem_cons.mp hq with rfl | hq
  · exact zmk_Ground_isSeen
  rcases List.mem_cons.mp hq with rfl | hq
  · exact zmk_Ground_layOut
  rcases List.mem_cons.mp hq with rfl | hq
  · exact zmk_Ground_next
  rcases List.mem_cons.mp hq with rfl | hq
  · exact zmk_Ground_openGate
  rcases List.mem_cons.mp hq with rfl | hq
  · exact zmk_Ground_raiseFort
  rcases List.mem_cons.mp hq with rfl | hq
  · exact zmk_Ground_shape
  rcases List.mem_cons.mp hq with rfl | hq
  · exact zmk_Ground_soilBy
  rcases List.mem_cons.mp hq with rfl | hq
  · exact zmk_Ground_soilOf
  rcases List.mem_cons.mp hq with rfl | hq
  · exact zmk_Ground_toilOf
  rcases List.mem_cons.mp hq with rfl | hq
  · exact zmk_Ground_topOf
  rcases List.mem_cons.mp hq with rfl | hq
  · exact zmk_Ground_touches
  rcases List.mem_cons.mp hq with rfl | hq
  · exact zmk_Ground_touchesWork
  rcases List.mem_cons.mp hq with rfl | hq
  · exact zmk_Ground_workOf
  rcases List.mem_cons.mp hq with rfl | hq
  · exact zmk_Gun_new
  rcases List.mem_cons.mp hq with rfl | hq
  · exact zmk_Gun_isPlaced
  rcases List.mem_cons.mp hq with rfl | hq
  · exact zmk_Gun_isReadyOf
  rcases List.mem_cons.mp hq with rfl | hq
  · exact zmk_Gun_place
  rcases List.mem_cons.mp hq with rfl | hq
  · exact zmk_Gunnery_bestTarget
  rcases List.mem_cons.mp hq with rfl | hq
  · exact zmk_Gunnery_canReach
  rcases List.mem_cons.mp hq with rfl | hq
  · exact zmk_Gunnery_fire
  rcases List.mem_cons.mp hq with rfl | hq
  · exact zmk_Gunnery_gunsSeeing
  rcases List.mem_cons.mp hq with rfl | hq
  · exact zmk_Gunnery_lossBy
  rcases List.mem_cons.mp hq with rfl | hq
  · exact zmk_Gunnery_pointsOf
  rcases List.mem_cons.mp hq with rfl | hq
  · exact zmk_Gunnery_shotsOf
  rcases List.mem_cons.mp hq with rfl | hq
  · exact zmk_Gunnery_strike
  rcases List.mem_cons.mp hq with rfl | hq
  · exact zmk_Midnight_bringSupply
  rcases List.mem_cons.mp hq with rfl | hq
  · exact zmk_Midnight_come
  rcases List.mem_cons.mp hq with rfl | hq
  · exact zmk_Midnight_comeNearer
  rcases List.mem_cons.mp hq with rfl | hq
  · exact zmk_Midnight_desert
  rcases List.mem_cons.mp hq with rfl | hq
  · exact zmk_Midnight_eat
  rcases List.mem_cons.mp hq with rfl | hq
  · exact zmk_Midnight_fallSick
  rcases List.mem_cons.mp hq with rfl | hq
  · exact zmk_Midnight_guardsOf
  rcases List.mem_cons.mp hq with rfl | hq
  · exact zmk_Mine_new
  rcases List.mem_cons.mp hq with rfl | hq
  · exact zmk_Mine_goOn
  rcases List.mem_cons.mp hq with rfl | hq
  · exact zmk_Mine_head
  rcases List.mem_cons.mp hq with rfl | hq
  · exact zmk_Mine_isBegun
  rcases List.mem_cons.mp hq with rfl | hq
  · exact zmk_Mine_isWhole
  rcases List.mem_cons.mp hq with rfl | hq
  · exact zmk_Mine_mouth
  rcases List.mem_cons.mp hq with rfl | hq
  · exact zmk_Mine_place
  rcases List.mem_cons.mp hq with rfl | hq
  · exact zmk_Mining_advance
  rcases List.mem_cons.mp hq with rfl | hq
  · exact zmk_Mining_blowUp
  rcases List.mem_cons.mp hq with rfl | hq
  · exact zmk_Mining_comesNear
  rcases List.mem_cons.mp hq with rfl | hq
  · exact zmk_Mining_crushOthers
  rcases List.mem_cons.mp hq with rfl | hq
  · exact zmk_Mining_isHeard
  rcases List.mem_cons.mp hq with rfl | hq
  · exact zmk_Mining_isMouth
  rcases List.mem_cons.mp hq with rfl | hq
  · exact zmk_Mining_reachOf
  rcases List.mem_cons.mp hq with rfl | hq
  · exact zmk_Mining_shake
  rcases List.mem_cons.mp hq with rfl | hq
  · exact zmk_Mining_sink
  rcases List.mem_cons.mp hq with rfl | hq
  · exact zmk_Post_new
  rcases List.mem_cons.mp hq with rfl | hq
  · exact zmk_Post_comeThrough
  rcases List.mem_cons.mp hq with rfl | hq
  · exact zmk_Post_loseDay
  rcases List.mem_cons.mp hq with rfl | hq
  · exact zmk_Post_swim
  rcases List.mem_cons.mp hq with rfl | hq
  · exact zmk_Side_new
  rcases List.mem_cons.mp hq with rfl | hq
  · exact zmk_Side_changeMorale
  rcases List.mem_cons.mp hq with rfl | hq
  · exact zmk_Side_spend
  rcases List.mem_cons.mp hq with rfl | hq
  · exact zmk_Side_tell
  rcases List.mem_cons.mp hq with rfl | hq
  · exact zmk_Siege_new
  rcases List.mem_cons.mp hq with rfl | hq
  · exact zmk_Siege_areMenSound
  rcases List.mem_cons.mp hq with rfl | hq
  · exact zmk_Siege_askWhetherOver
  rcases List.mem_cons.mp hq with rfl | hq
  · exact zmk_Siege_batter
  rcases List.mem_cons.mp hq with rfl | hq
  · exact zmk_Siege_beginMine
  rcases List.mem_cons.mp hq with rfl | hq
  · exact zmk_Siege_companiesOf
  rcases List.mem_cons.mp hq with rfl | hq
  · exact zmk_Siege_companyAt
  rcases List.mem_cons.mp hq with rfl | hq
  · exact zmk_Siege_countFight
  rcases List.mem_cons.mp hq with rfl | hq
  · exact zmk_Siege_depth
  rcases List.mem_cons.mp hq with rfl | hq
  · exact zmk_Siege_end
  rcases List.mem_cons.mp hq with rfl | hq
  · exact zmk_Siege_forceOf
  rcases List.mem_cons.mp hq with rfl | hq
  · exact zmk_Siege_freshCompanyAt
  rcases List.mem_cons.mp hq with rfl | hq
  · exact zmk_Siege_gunAt
  rcases List.mem_cons.mp hq with rfl | hq
  · exact zmk_Siege_homeOf
  rcases List.mem_cons.mp hq with rfl | hq
  · exact zmk_Siege_hourOfDay
  rcases List.mem_cons.mp hq with rfl | hq
  · exact zmk_Siege_isAllSound
  rcases List.mem_cons.mp hq with rfl | hq
  · exact zmk_Siege_isGroundSound
  rcases List.mem_cons.mp hq with rfl | hq
  · exact zmk_Siege_isHeldBy
  rcases List.mem_cons.mp hq with rfl | hq
  · exact zmk_Siege_isNight
  rcases List.mem_cons.mp hq with rfl | hq
  · exact zmk_Siege_isSideSound
  rcases List.mem_cons.mp hq with rfl | hq
  · exact zmk_Siege_letHourGo
  rcases List.mem_cons.mp hq with rfl | hq
  · exact zmk_Siege_menAt
  rcases List.mem_cons.mp hq with rfl | hq
  · exact zmk_Siege_menOf
  rcases List.mem_cons.mp hq with rfl | hq
  · exact zmk_Siege_mineAt
  rcases List.mem_cons.mp hq with rfl | hq
  · exact zmk_Siege_musterAll
  rcases List.mem_cons.mp hq with rfl | hq
  · exact zmk_Siege_of
  rcases List.mem_cons.mp hq with rfl | hq
  · exact zmk_Siege_placeCompany
  rcases List.mem_cons.mp hq with rfl | hq
  · exact zmk_Siege_placeGun
  rcases List.mem_cons.mp hq with rfl | hq
  · exact zmk_Siege_readyGunsOf
  rcases List.mem_cons.mp hq with rfl | hq
  · exact zmk_Siege_sightFar
  rcases List.mem_cons.mp hq with rfl | hq
  · exact zmk_Siege_standsAtBreach
  rcases List.mem_cons.mp hq with rfl | hq
  · exact zmk_Siege_standsIn
  rcases List.mem_cons.mp hq with rfl | hq
  · exact zmk_Siege_startOver
  rcases List.mem_cons.mp hq with rfl | hq
  · exact zmk_Siege_takeMen
  rcases List.mem_cons.mp hq with rfl | hq
  · exact zmk_Siege_tellTown
  rcases List.mem_cons.mp hq with rfl | hq
  · exact zmk_L_below
  rcases List.mem_cons.mp hq with rfl | hq
  · exact zmk_L_cell
  rcases List.mem_cons.mp hq with rfl | hq
  · exact zmk_L_count
  rcases List.mem_cons.mp hq with rfl | hq
  · exact zmk_L_isDone
  rcases List.mem_cons.mp hq with rfl | hq
  · exact zmk_L_isRefused
  rcases List.mem_cons.mp hq with rfl | hq
  · exact zmk_L_isSo
  rcases List.mem_cons.mp hq with rfl | hq
  · exact absurd rfl h12
  rcases List.mem_cons.mp hq with rfl | hq
  · exact zmk_L_siege
  rcases List.mem_cons.mp hq with rfl | hq
  · exact zmk_L_size
  rcases List.mem_cons.mp hq with rfl | hq
  · exact zmk_Math_abs
  rcases List.mem_cons.mp hq with rfl | hq
  · exact zmk_Math_floorDiv
  rcases List.mem_cons.mp hq with rfl | hq
  · exact zmk_Math_max
  rcases List.mem_cons.mp hq with rfl | hq
  · exact zmk_Math_min
  cases hq
theorem zP_in (y : Nat) (h : zmC (zP y) ≠ []) : zP y ∈ zProg ∧ y < 173 := by
  unfold zP at h ⊢
  rcases Nat.lt_or_ge y zProg.length with q | q
  · refine ⟨?_, q⟩
    rw [List.getD_eq_getElem?_getD, List.getElem?_eq_getElem q]
    exact List.getElem_mem q
  · rw [List.getD_eq_getElem?_getD, List.getElem?_eq_none q] at h
    exact absurd rfl h
theorem zu_Main : ((List.range 2).all fun j => zmem (([1004, 1006] : List Nat).getD j 0) (u_lay "Siegelines" F_Main j)) = true := by decide +kernel
theorem zd_Main : ∀ j, j < 2 → parseFieldDescriptor (F_Main j).2.2.1 = some (zT_Main.getD j .int) ∧ zty1 (zT_Main.getD j .int) = true := by decide +kernel
theorem zn_Main : ∀ a, a < 2 → ∀ b, b < 2 → a ≠ b → (F_Main a).2.1 ≠ (F_Main b).2.1 := by decide +kernel
theorem zu_Siege : ((List.range 17).all fun j => zmem (([967, 969, 971, 973, 975, 977, 979, 981, 983, 985, 987, 989, 991, 993, 995, 997, 999] : List Nat).getD j 0) (u_lay "Siegelines$Siege" F_Siege j)) = true := by decide +kernel
theorem zd_Siege : ∀ j, j < 17 → parseFieldDescriptor (F_Siege j).2.2.1 = some (zT_Siege.getD j .int) ∧ zty1 (zT_Siege.getD j .int) = true := by decide +kernel
theorem zn_Siege : ∀ a, a < 17 → ∀ b, b < 17 → a ≠ b → (F_Siege a).2.1 ≠ (F_Siege b).2.1 := by decide +kernel
theorem zu_Ground : ((List.range 14).all fun j => zmem (([650, 652, 654, 656, 658, 660, 662, 664, 666, 668, 670, 672, 674, 676] : List Nat).getD j 0) (u_lay "Siegelines$Ground" F_Ground j)) = true := by decide +kernel
theorem zd_Ground : ∀ j, j < 14 → parseFieldDescriptor (F_Ground j).2.2.1 = some (zT_Ground.getD j .int) ∧ zty1 (zT_Ground.getD j .int) = true := by decide +kernel
theorem zn_Ground : ∀ a, a < 14 → ∀ b, b < 14 → a ≠ b → (F_Ground a).2.1 ≠ (F_Ground b).2.1 := by decide +kernel
theorem zu_Gun : ((List.range 7).all fun j => zmem (([811, 813, 815, 817, 819, 821, 823] : List Nat).getD j 0) (u_lay "Siegelines$Gun" F_Gun j)) = true := by decide +kernel
theorem zd_Gun : ∀ j, j < 7 → parseFieldDescriptor (F_Gun j).2.2.1 = some (zT_Gun.getD j .int) ∧ zty1 (zT_Gun.getD j .int) = true := by decide +kernel
theorem zn_Gun : ∀ a, a < 7 → ∀ b, b < 7 → a ≠ b → (F_Gun a).2.1 ≠ (F_Gun b).2.1 := by decide +kernel
theorem zu_Company : ((List.range 6).all fun j => zmem (([860, 862, 864, 866, 868, 870] : List Nat).getD j 0) (u_lay "Siegelines$Company" F_Company j)) = true := by decide +kernel
theorem zd_Company : ∀ j, j < 6 → parseFieldDescriptor (F_Company j).2.2.1 = some (zT_Company.getD j .int) ∧ zty1 (zT_Company.getD j .int) = true := by decide +kernel
theorem zn_Company : ∀ a, a < 6 → ∀ b, b < 6 → a ≠ b → (F_Company a).2.1 ≠ (F_Company b).2.1 := by decide +kernel
theorem zu_Mine : ((List.range 7).all fun j => zmem (([899, 901, 903, 905, 907, 909, 911] : List Nat).getD j 0) (u_lay "Siegelines$Mine" F_Mine j)) = true := by decide +kernel
theorem zd_Mine : ∀ j, j < 7 → parseFieldDescriptor (F_Mine j).2.2.1 = some (zT_Mine.getD j .int) ∧ zty1 (zT_Mine.getD j .int) = true := by decide +kernel
theorem zn_Mine : ∀ a, a < 7 → ∀ b, b < 7 → a ≠ b → (F_Mine a).2.1 ≠ (F_Mine b).2.1 := by decide +kernel
theorem zu_Side : ((List.range 11).all fun j => zmem (([726, 728, 730, 732, 734, 736, 738, 740, 742, 744, 746] : List Nat).getD j 0) (u_lay "Siegelines$Side" F_Side j)) = true := by decide +kernel
theorem zd_Side : ∀ j, j < 11 → parseFieldDescriptor (F_Side j).2.2.1 = some (zT_Side.getD j .int) ∧ zty1 (zT_Side.getD j .int) = true := by decide +kernel
theorem zn_Side : ∀ a, a < 11 → ∀ b, b < 11 → a ≠ b → (F_Side a).2.1 ≠ (F_Side b).2.1 := by decide +kernel
theorem zu_Post : ((List.range 7).all fun j => zmem (([768, 770, 772, 774, 776, 778, 780] : List Nat).getD j 0) (u_lay "Siegelines$Post" F_Post j)) = true := by decide +kernel
theorem zd_Post : ∀ j, j < 7 → parseFieldDescriptor (F_Post j).2.2.1 = some (zT_Post.getD j .int) ∧ zty1 (zT_Post.getD j .int) = true := by decide +kernel
theorem zn_Post : ∀ a, a < 7 → ∀ b, b < 7 → a ≠ b → (F_Post a).2.1 ≠ (F_Post b).2.1 := by decide +kernel
theorem zu_of {C : String} {T : u_T} {N : Nat} {l : List Nat} (h : ((List.range N).all fun j => zmem (l.getD j 0) (u_lay C T j)) = true) : ∀ w ∈ u_ws C T N, w ∈ zTb := by
  intro w hw
  obtain ⟨j, hj, rfl⟩ := List.mem_map.mp hw
  exact zmem_in (List.all_eq_true.mp h j hj)
set_option maxRecDepth 100000 in
theorem zCls_ok : zCls zCl zFt zTb := by
  intro k C T N hk
  match k, hk with
  | 0, hk => cases hk; exact ⟨by decide, rfl, zu_of zu_Main, zd_Main, zn_Main, zin_of 451 rfl rfl, zin_of 20 rfl rfl⟩
  | 1, hk => cases hk; exact ⟨by decide, rfl, zu_of zu_Siege, zd_Siege, zn_Siege, zin_of 250 rfl rfl, zin_of 21 rfl rfl⟩
  | 2, hk => cases hk; exact ⟨by decide, rfl, zu_of zu_Ground, zd_Ground, zn_Ground, zin_of 184 rfl rfl, zin_of 22 rfl rfl⟩
  | 3, hk => cases hk; exact ⟨by decide, rfl, zu_of zu_Gun, zd_Gun, zn_Gun, zin_of 783 rfl rfl, zin_of 25 rfl rfl⟩
  | 4, hk => cases hk; exact ⟨by decide, rfl, zu_of zu_Company, zd_Company, zn_Company, zin_of 826 rfl rfl, zin_of 26 rfl rfl⟩
  | 5, hk => cases hk; exact ⟨by decide, rfl, zu_of zu_Mine, zd_Mine, zn_Mine, zin_of 873 rfl rfl, zin_of 27 rfl rfl⟩
  | 6, hk => cases hk; exact ⟨by decide, rfl, zu_of zu_Side, zd_Side, zn_Side, zin_of 687 rfl rfl, zin_of 23 rfl rfl⟩
  | 7, hk => cases hk; exact ⟨by decide, rfl, zu_of zu_Post, zd_Post, zn_Post, zin_of 430 rfl rfl, zin_of 24 rfl rfl⟩
  | n + 8, hk => cases hk
set_option maxRecDepth 100000 in
theorem zh_L_isDone : ∀ x ∈ zmH zm_L_isDone, (x.2.2.2 = 86 ∨ x.2.2.2 = 43) ∧ Cond.classLink (zmN zm_L_isDone).cls x.2.2.2 (zEx x.2.2.2) ∈ zTb := by
  intro x hx
  simp only [zmH, zm_L_isDone, List.mem_cons, List.not_mem_nil, or_false] at hx
  rcases hx with rfl | rfl
  · exact ⟨by decide, zin_of 1326 rfl rfl⟩
  · exact ⟨by decide, zin_of 1087 rfl rfl⟩
set_option maxRecDepth 100000 in
theorem zh_L_isRefused : ∀ x ∈ zmH zm_L_isRefused, (x.2.2.2 = 86 ∨ x.2.2.2 = 43) ∧ Cond.classLink (zmN zm_L_isRefused).cls x.2.2.2 (zEx x.2.2.2) ∈ zTb := by
  intro x hx
  simp only [zmH, zm_L_isRefused, List.mem_cons, List.not_mem_nil, or_false] at hx
  rcases hx with rfl
  · exact ⟨by decide, zin_of 1326 rfl rfl⟩
set_option maxRecDepth 100000 in
theorem zh_L_size : ∀ x ∈ zmH zm_L_size, (x.2.2.2 = 86 ∨ x.2.2.2 = 43) ∧ Cond.classLink (zmN zm_L_size).cls x.2.2.2 (zEx x.2.2.2) ∈ zTb := by
  intro x hx
  simp only [zmH, zm_L_size, List.mem_cons, List.not_mem_nil, or_false] at hx
  rcases hx with rfl
  · exact ⟨by decide, zin_of 1087 rfl rfl⟩

theorem c_F_clear : Cal i_F_clear "RouteFrame" 0 := ⟨k_116, k_117, k_1, k_118, by decide, by decide, by decide +kernel⟩
theorem c_F_section : Cal i_F_section "RouteFrame" 1 := ⟨k_124, k_125, k_1, k_126, by decide, by decide, by decide +kernel⟩
theorem c_S_begin : Cal i_S_begin "RouteFrame$Section" 1 := ⟨k_196, k_197, k_2, k_198, by decide, by decide, by decide +kernel⟩
theorem c_F_route : Cal i_F_route "RouteFrame" 3 := ⟨k_205, k_206, k_1, k_207, by decide, by decide, by decide +kernel⟩
theorem c_F_isSection : Cal i_F_isSection "RouteFrame" 1 := ⟨k_210, ws_pv (y := my i_F_isSection) (n := 4) 1 (by decide +kernel) (by decide +kernel), k_1, k_211, by decide, by decide, by decide +kernel⟩
theorem c_F_isSignal : CalS i_F_isSignal 1 := ⟨k_229, k_1, k_230, by decide, by decide, by decide +kernel⟩
theorem c_R_begin : Cal i_R_begin "RouteFrame$Route" 3 := ⟨k_249, k_250, k_3, k_251, by decide, by decide, by decide +kernel⟩
theorem c_R_becomeFree : Cal i_R_becomeFree "RouteFrame$Route" 0 := ⟨k_253, k_254, k_3, k_255, by decide, by decide, by decide +kernel⟩
theorem c_F_use : Cal i_F_use "RouteFrame" 3 := ⟨k_260, k_261, k_1, k_262, by decide, by decide, by decide +kernel⟩
theorem c_F_existingRoute : Cal i_F_existingRoute "RouteFrame" 1 := ⟨k_265, ws_pv (y := my i_F_existingRoute) (n := 4) 2 (by decide +kernel) (by decide +kernel), k_1, k_266, by decide, by decide, by decide +kernel⟩
theorem c_F_existingSection : Cal i_F_existingSection "RouteFrame" 1 := ⟨k_270, ws_pv (y := my i_F_existingSection) (n := 4) 3 (by decide +kernel) (by decide +kernel), k_1, k_271, by decide, by decide, by decide +kernel⟩
theorem c_F_fits : CalS i_F_fits 2 := ⟨k_273, k_1, k_274, by decide, by decide, by decide +kernel⟩
theorem c_R_useOf : Cal i_R_useOf "RouteFrame$Route" 1 := ⟨k_276, k_277, k_3, k_278, by decide, by decide, by decide +kernel⟩
theorem c_F_allRoutesFree : Cal i_F_allRoutesFree "RouteFrame" 0 := ⟨k_282, ws_pv (y := my i_F_allRoutesFree) (n := 4) 4 (by decide +kernel) (by decide +kernel), k_1, k_283, by decide, by decide, by decide +kernel⟩
theorem c_R_addUse : Cal i_R_addUse "RouteFrame$Route" 2 := ⟨k_286, k_287, k_3, k_288, by decide, by decide, by decide +kernel⟩
theorem c_F_request : Cal i_F_request "RouteFrame" 1 := ⟨k_293, k_294, k_1, k_295, by decide, by decide, by decide +kernel⟩
theorem c_F_judge : Cal i_F_judge "RouteFrame" 1 := ⟨k_298, ws_pv (y := my i_F_judge) (n := 4) 5 (by decide +kernel) (by decide +kernel), k_1, k_299, by decide, by decide, by decide +kernel⟩
theorem c_R_hasPass : Cal i_R_hasPass "RouteFrame$Route" 0 := ⟨k_301, k_302, k_3, k_303, by decide, by decide, by decide +kernel⟩
theorem c_R_isPass : Cal i_R_isPass "RouteFrame$Route" 1 := ⟨k_305, k_306, k_3, k_307, by decide, by decide, by decide +kernel⟩
theorem c_F_anotherStandsAgainst : Cal i_F_anotherStandsAgainst "RouteFrame" 1 := ⟨k_310, ws_pv (y := my i_F_anotherStandsAgainst) (n := 4) 6 (by decide +kernel) (by decide +kernel), k_1, k_311, by decide, by decide, by decide +kernel⟩
theorem c_R_disagrees : Cal i_R_disagrees "RouteFrame$Route" 2 := ⟨k_313, k_314, k_3, k_315, by decide, by decide, by decide +kernel⟩
theorem c_R_positionOf : Cal i_R_positionOf "RouteFrame$Route" 1 := ⟨k_318, k_319, k_3, k_320, by decide, by decide, by decide +kernel⟩
theorem c_F_passesClear : Cal i_F_passesClear "RouteFrame" 1 := ⟨k_323, ws_pv (y := my i_F_passesClear) (n := 4) 7 (by decide +kernel) (by decide +kernel), k_1, k_324, by decide, by decide, by decide +kernel⟩
theorem c_F_pointsMayMove : Cal i_F_pointsMayMove "RouteFrame" 1 := ⟨k_328, ws_pv (y := my i_F_pointsMayMove) (n := 4) 8 (by decide +kernel) (by decide +kernel), k_1, k_329, by decide, by decide, by decide +kernel⟩
theorem c_R_becomeSet : Cal i_R_becomeSet "RouteFrame$Route" 0 := ⟨k_332, k_333, k_3, k_334, by decide, by decide, by decide +kernel⟩
theorem c_R_allUses : Cal i_R_allUses "RouteFrame$Route" 0 := ⟨k_336, k_337, k_3, k_338, by decide, by decide, by decide +kernel⟩
theorem c_F_wantPointsOf : Cal i_F_wantPointsOf "RouteFrame" 1 := ⟨k_341, ws_pv (y := my i_F_wantPointsOf) (n := 4) 9 (by decide +kernel) (by decide +kernel), k_1, k_342, by decide, by decide, by decide +kernel⟩
theorem c_S_want : Cal i_S_want "RouteFrame$Section" 1 := ⟨k_344, k_345, k_2, k_346, by decide, by decide, by decide +kernel⟩
theorem c_F_noteApproached : Cal i_F_noteApproached "RouteFrame" 0 := ⟨k_349, ws_pv (y := my i_F_noteApproached) (n := 4) 10 (by decide +kernel) (by decide +kernel), k_1, k_350, by decide, by decide, by decide +kernel⟩
theorem c_F_showsOff : Cal i_F_showsOff "RouteFrame" 1 := ⟨k_353, ws_pv (y := my i_F_showsOff) (n := 4) 11 (by decide +kernel) (by decide +kernel), k_1, k_354, by decide, by decide, by decide +kernel⟩
theorem c_F_pointsFound : Cal i_F_pointsFound "RouteFrame" 1 := ⟨k_357, ws_pv (y := my i_F_pointsFound) (n := 4) 12 (by decide +kernel) (by decide +kernel), k_1, k_358, by decide, by decide, by decide +kernel⟩
theorem c_S_isFoundIn : Cal i_S_isFoundIn "RouteFrame$Section" 1 := ⟨k_360, k_361, k_2, k_362, by decide, by decide, by decide +kernel⟩
theorem c_F_cancel : Cal i_F_cancel "RouteFrame" 1 := ⟨k_367, k_368, k_1, k_369, by decide, by decide, by decide +kernel⟩
theorem c_R_becomeTimed : Cal i_R_becomeTimed "RouteFrame$Route" 0 := ⟨k_371, k_372, k_3, k_373, by decide, by decide, by decide +kernel⟩
theorem c_F_occupy : Cal i_F_occupy "RouteFrame" 1 := ⟨k_379, k_380, k_1, k_381, by decide, by decide, by decide +kernel⟩
theorem c_F_runOver : Cal i_F_runOver "RouteFrame" 1 := ⟨k_384, ws_pv (y := my i_F_runOver) (n := 4) 13 (by decide +kernel) (by decide +kernel), k_1, k_385, by decide, by decide, by decide +kernel⟩
theorem c_R_holds : Cal i_R_holds "RouteFrame$Route" 1 := ⟨k_387, k_388, k_3, k_389, by decide, by decide, by decide +kernel⟩
theorem c_R_becomeTaken : Cal i_R_becomeTaken "RouteFrame$Route" 1 := ⟨k_391, k_392, k_3, k_393, by decide, by decide, by decide +kernel⟩
theorem c_F_vacate : Cal i_F_vacate "RouteFrame" 1 := ⟨k_398, k_399, k_1, k_400, by decide, by decide, by decide +kernel⟩
theorem c_F_letGoBehindTrain : Cal i_F_letGoBehindTrain "RouteFrame" 1 := ⟨k_403, ws_pv (y := my i_F_letGoBehindTrain) (n := 4) 14 (by decide +kernel) (by decide +kernel), k_1, k_404, by decide, by decide, by decide +kernel⟩
theorem c_R_isRunOver : Cal i_R_isRunOver "RouteFrame$Route" 1 := ⟨k_406, k_407, k_3, k_408, by decide, by decide, by decide +kernel⟩
theorem c_R_letGoOf : Cal i_R_letGoOf "RouteFrame$Route" 1 := ⟨k_410, k_411, k_3, k_412, by decide, by decide, by decide +kernel⟩
theorem c_F_move : Cal i_F_move "RouteFrame" 2 := ⟨k_417, k_418, k_1, k_419, by decide, by decide, by decide +kernel⟩
theorem c_F_isHeld : Cal i_F_isHeld "RouteFrame" 1 := ⟨k_423, ws_pv (y := my i_F_isHeld) (n := 4) 15 (by decide +kernel) (by decide +kernel), k_1, k_424, by decide, by decide, by decide +kernel⟩
theorem c_F_holderOfPass : Cal i_F_holderOfPass "RouteFrame" 1 := ⟨k_427, ws_pv (y := my i_F_holderOfPass) (n := 4) 16 (by decide +kernel) (by decide +kernel), k_1, k_428, by decide, by decide, by decide +kernel⟩
theorem c_F_holdersOfFlank : Cal i_F_holdersOfFlank "RouteFrame" 1 := ⟨k_431, ws_pv (y := my i_F_holdersOfFlank) (n := 4) 17 (by decide +kernel) (by decide +kernel), k_1, k_432, by decide, by decide, by decide +kernel⟩
theorem c_F_breakPoints : Cal i_F_breakPoints "RouteFrame" 2 := ⟨k_437, k_438, k_1, k_439, by decide, by decide, by decide +kernel⟩
theorem c_F_tick : Cal i_F_tick "RouteFrame" 1 := ⟨k_445, k_446, k_1, k_447, by decide, by decide, by decide +kernel⟩
theorem c_F_passOneTick : Cal i_F_passOneTick "RouteFrame" 0 := ⟨k_451, ws_pv (y := my i_F_passOneTick) (n := 4) 18 (by decide +kernel) (by decide +kernel), k_1, k_452, by decide, by decide, by decide +kernel⟩
theorem c_S_moveOneTick : Cal i_S_moveOneTick "RouteFrame$Section" 0 := ⟨k_454, k_455, k_2, k_456, by decide, by decide, by decide +kernel⟩
theorem c_R_countDown : Cal i_R_countDown "RouteFrame$Route" 0 := ⟨k_458, k_459, k_3, k_460, by decide, by decide, by decide +kernel⟩
theorem c_F_off : Cal i_F_off "RouteFrame" 1 := ⟨k_465, k_466, k_1, k_467, by decide, by decide, by decide +kernel⟩
theorem c_F_clash : Cal i_F_clash "RouteFrame" 2 := ⟨k_473, k_474, k_1, k_475, by decide, by decide, by decide +kernel⟩
theorem c_F_about : Cal i_F_about "RouteFrame" 2 := ⟨k_481, k_482, k_1, k_483, by decide, by decide, by decide +kernel⟩
theorem c_F_track : Cal i_F_track "RouteFrame" 2 := ⟨k_489, k_490, k_1, k_491, by decide, by decide, by decide +kernel⟩
theorem c_M_thrown : Cal i_M_thrown "RouteFrameModel" 0 := ⟨k_559, k_560, k_4, k_561, by decide, by decide, by decide +kernel⟩
theorem c_M_clear : Cal i_M_clear "RouteFrameModel" 0 := ⟨k_563, k_564, k_4, k_565, by decide, by decide, by decide +kernel⟩
theorem c_M_section : Cal i_M_section "RouteFrameModel" 1 := ⟨k_567, k_568, k_4, k_569, by decide, by decide, by decide +kernel⟩
theorem c_M_route : Cal i_M_route "RouteFrameModel" 3 := ⟨k_571, k_572, k_4, k_573, by decide, by decide, by decide +kernel⟩
theorem c_M_noSection : Cal i_M_noSection "RouteFrameModel" 1 := ⟨k_576, ws_pv (y := my i_M_noSection) (n := 19) 19 (by decide +kernel) (by decide +kernel), k_4, k_577, by decide, by decide, by decide +kernel⟩
theorem c_M_release : Cal i_M_release "RouteFrameModel" 1 := ⟨k_580, ws_pv (y := my i_M_release) (n := 19) 20 (by decide +kernel) (by decide +kernel), k_4, k_581, by decide, by decide, by decide +kernel⟩
theorem c_M_use : Cal i_M_use "RouteFrameModel" 3 := ⟨k_583, k_584, k_4, k_585, by decide, by decide, by decide +kernel⟩
theorem c_M_noRoute : Cal i_M_noRoute "RouteFrameModel" 1 := ⟨k_588, ws_pv (y := my i_M_noRoute) (n := 19) 21 (by decide +kernel) (by decide +kernel), k_4, k_589, by decide, by decide, by decide +kernel⟩
theorem c_M_usesAlready : Cal i_M_usesAlready "RouteFrameModel" 2 := ⟨k_592, ws_pv (y := my i_M_usesAlready) (n := 19) 22 (by decide +kernel) (by decide +kernel), k_4, k_593, by decide, by decide, by decide +kernel⟩
theorem c_M_clash : Cal i_M_clash "RouteFrameModel" 2 := ⟨k_595, k_596, k_4, k_597, by decide, by decide, by decide +kernel⟩
theorem c_M_meet : Cal i_M_meet "RouteFrameModel" 2 := ⟨k_600, ws_pv (y := my i_M_meet) (n := 19) 23 (by decide +kernel) (by decide +kernel), k_4, k_601, by decide, by decide, by decide +kernel⟩
theorem c_M_passes : CalS i_M_passes 1 := ⟨k_603, k_4, k_604, by decide, by decide, by decide +kernel⟩
theorem c_M_positionOf : CalS i_M_positionOf 1 := ⟨k_606, k_4, k_607, by decide, by decide, by decide +kernel⟩
theorem c_M_request : Cal i_M_request "RouteFrameModel" 1 := ⟨k_609, k_610, k_4, k_611, by decide, by decide, by decide +kernel⟩
theorem c_M_barred : Cal i_M_barred "RouteFrameModel" 1 := ⟨k_614, ws_pv (y := my i_M_barred) (n := 19) 24 (by decide +kernel) (by decide +kernel), k_4, k_615, by decide, by decide, by decide +kernel⟩
theorem c_M_want : Cal i_M_want "RouteFrameModel" 2 := ⟨k_618, ws_pv (y := my i_M_want) (n := 19) 25 (by decide +kernel) (by decide +kernel), k_4, k_619, by decide, by decide, by decide +kernel⟩
theorem c_M_look : Cal i_M_look "RouteFrameModel" 0 := ⟨k_622, ws_pv (y := my i_M_look) (n := 19) 26 (by decide +kernel) (by decide +kernel), k_4, k_623, by decide, by decide, by decide +kernel⟩
theorem c_M_safe : Cal i_M_safe "RouteFrameModel" 1 := ⟨k_626, ws_pv (y := my i_M_safe) (n := 19) 27 (by decide +kernel) (by decide +kernel), k_4, k_627, by decide, by decide, by decide +kernel⟩
theorem c_M_found : Cal i_M_found "RouteFrameModel" 2 := ⟨k_630, ws_pv (y := my i_M_found) (n := 19) 28 (by decide +kernel) (by decide +kernel), k_4, k_631, by decide, by decide, by decide +kernel⟩
theorem c_M_cancel : Cal i_M_cancel "RouteFrameModel" 1 := ⟨k_633, k_634, k_4, k_635, by decide, by decide, by decide +kernel⟩
theorem c_M_occupy : Cal i_M_occupy "RouteFrameModel" 1 := ⟨k_637, k_638, k_4, k_639, by decide, by decide, by decide +kernel⟩
theorem c_M_vacate : Cal i_M_vacate "RouteFrameModel" 1 := ⟨k_641, k_642, k_4, k_643, by decide, by decide, by decide +kernel⟩
theorem c_M_leave : Cal i_M_leave "RouteFrameModel" 1 := ⟨k_646, ws_pv (y := my i_M_leave) (n := 19) 29 (by decide +kernel) (by decide +kernel), k_4, k_647, by decide, by decide, by decide +kernel⟩
theorem c_M_move : Cal i_M_move "RouteFrameModel" 2 := ⟨k_649, k_650, k_4, k_651, by decide, by decide, by decide +kernel⟩
theorem c_M_breakPoints : Cal i_M_breakPoints "RouteFrameModel" 2 := ⟨k_653, k_654, k_4, k_655, by decide, by decide, by decide +kernel⟩
theorem c_M_tick : Cal i_M_tick "RouteFrameModel" 1 := ⟨k_657, k_658, k_4, k_659, by decide, by decide, by decide +kernel⟩
theorem c_M_off : Cal i_M_off "RouteFrameModel" 1 := ⟨k_661, k_662, k_4, k_663, by decide, by decide, by decide +kernel⟩
theorem c_M_about : Cal i_M_about "RouteFrameModel" 2 := ⟨k_665, k_666, k_4, k_667, by decide, by decide, by decide +kernel⟩
theorem c_M_track : Cal i_M_track "RouteFrameModel" 2 := ⟨k_669, k_670, k_4, k_671, by decide, by decide, by decide +kernel⟩

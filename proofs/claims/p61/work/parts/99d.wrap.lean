/-! printed by wip/p61/tools/gen99d.py: the law's wrappers -/
theorem q443 : Cond.methodLink "CustomsShedLaw" 44 yX6_lot ∈ lw_tbl := List.mem_of_getElem? (i := 443) (by decide +kernel)
theorem q475 : Cond.methodLink "CustomsShedLaw" 51 yX6_quantity ∈ lw_tbl := List.mem_of_getElem? (i := 475) (by decide +kernel)
theorem q506 : Cond.methodLink "CustomsShedLaw" 63 yX6_isSealed ∈ lw_tbl := List.mem_of_getElem? (i := 506) (by decide +kernel)
theorem q513 : Cond.methodLink "CustomsShedLaw" 101 yX6_duty ∈ lw_tbl := List.mem_of_getElem? (i := 513) (by decide +kernel)
theorem q522 : Cond.methodLink "CustomsShedLaw" 107 yX6_dampAfter ∈ lw_tbl := List.mem_of_getElem? (i := 522) (by decide +kernel)
theorem q600 : Cond.methodLink "CustomsShedLaw" 117 yX6_queued ∈ lw_tbl := List.mem_of_getElem? (i := 600) (by decide +kernel)
theorem q612 : Cond.methodLink "CustomsShedLaw" 14 yX6_addLot ∈ lw_tbl := List.mem_of_getElem? (i := 612) (by decide +kernel)
theorem q690 : Cond.methodLink "CustomsShedLaw" 113 yX6_audit ∈ lw_tbl := List.mem_of_getElem? (i := 690) (by decide +kernel)
theorem q702 : Cond.methodLink "CustomsShedLaw" 120 yX6_deposit ∈ lw_tbl := List.mem_of_getElem? (i := 702) (by decide +kernel)
theorem q713 : Cond.methodLink "CustomsShedLaw" 28 yX6_seal ∈ lw_tbl := List.mem_of_getElem? (i := 713) (by decide +kernel)
theorem q728 : Cond.methodLink "CustomsShedLaw" 104 yX6_passDays ∈ lw_tbl := List.mem_of_getElem? (i := 728) (by decide +kernel)
theorem q735 : Cond.methodLink "CustomsShedLaw" 83 yX6_addStep ∈ lw_tbl := List.mem_of_getElem? (i := 735) (by decide +kernel)
theorem q750 : Cond.methodLink "CustomsShedLaw" 86 yX6_removeStep ∈ lw_tbl := List.mem_of_getElem? (i := 750) (by decide +kernel)
theorem q761 : Cond.methodLink "CustomsShedLaw" 34 yX6_open ∈ lw_tbl := List.mem_of_getElem? (i := 761) (by decide +kernel)
theorem q772 : Cond.methodLink "CustomsShedLaw" 37 yX6_wet ∈ lw_tbl := List.mem_of_getElem? (i := 772) (by decide +kernel)
theorem q784 : Cond.methodLink "CustomsShedLaw" 40 yX6_move ∈ lw_tbl := List.mem_of_getElem? (i := 784) (by decide +kernel)
theorem q1033 : Cond.methodLink "CustomsShedLaw" 145 yX6_feed ∈ lw_tbl := List.mem_of_getElem? (i := 1033) (by decide +kernel)
theorem q1049 : Cond.methodLink "CustomsShedLaw" 148 yX6_execute ∈ lw_tbl := List.mem_of_getElem? (i := 1049) (by decide +kernel)
theorem q1154 : Cond.methodLink "CustomsShedLaw" 110 yX6_enqueue ∈ lw_tbl := List.mem_of_getElem? (i := 1154) (by decide +kernel)
theorem q1162 : Cond.methodLink "CustomsShedLaw" 123 yX6_release ∈ lw_tbl := List.mem_of_getElem? (i := 1162) (by decide +kernel)
theorem q1179 : Cond.methodLink "CustomsShedLaw" 139 yX6_writeLot ∈ lw_tbl := List.mem_of_getElem? (i := 1179) (by decide +kernel)
theorem q1254 : Cond.methodLink "CustomsShedLaw" 142 yX6_outputCharacter ∈ lw_tbl := List.mem_of_getElem? (i := 1254) (by decide +kernel)
theorem q1275 : Cond.methodLink "CustomsShedLaw" 89 yX6_threshold ∈ lw_tbl := List.mem_of_getElem? (i := 1275) (by decide +kernel)
theorem q1282 : Cond.methodLink "CustomsShedLaw" 92 yX6_rate ∈ lw_tbl := List.mem_of_getElem? (i := 1282) (by decide +kernel)
theorem q1315 : Cond.methodLink "CustomsShedLaw" 95 yX6_dutyOn ∈ lw_tbl := List.mem_of_getElem? (i := 1315) (by decide +kernel)
theorem q1335 : Cond.methodLink "CustomsShedLaw" 73 yX6_nextEmptyBay ∈ lw_tbl := List.mem_of_getElem? (i := 1335) (by decide +kernel)
theorem q1344 : Cond.methodLink "CustomsShedLaw" 70 yX6_lotAt ∈ lw_tbl := List.mem_of_getElem? (i := 1344) (by decide +kernel)
theorem q1355 : Cond.methodLink "CustomsShedLaw" 54 yX6_price ∈ lw_tbl := List.mem_of_getElem? (i := 1355) (by decide +kernel)
theorem q1362 : Cond.methodLink "CustomsShedLaw" 60 yX6_bay ∈ lw_tbl := List.mem_of_getElem? (i := 1362) (by decide +kernel)
theorem q1369 : Cond.methodLink "CustomsShedLaw" 57 yX6_value ∈ lw_tbl := List.mem_of_getElem? (i := 1369) (by decide +kernel)
theorem q1377 : Cond.methodLink "CustomsShedLaw" 98 yX6_dutyOnByCoins ∈ lw_tbl := List.mem_of_getElem? (i := 1377) (by decide +kernel)
theorem q1388 : Cond.methodLink "CustomsShedLaw" 67 yX6_isDamp ∈ lw_tbl := List.mem_of_getElem? (i := 1388) (by decide +kernel)
theorem q1395 : Cond.methodLink "CustomsShedLaw" 80 yX6_lotByValue ∈ lw_tbl := List.mem_of_getElem? (i := 1395) (by decide +kernel)
theorem q1413 : Cond.methodLink "CustomsShedLaw" 76 yX6_quantityOfKind ∈ lw_tbl := List.mem_of_getElem? (i := 1413) (by decide +kernel)
theorem q1440 : Cond.methodLink "CustomsShedLaw" 126 yX6_meanValue ∈ lw_tbl := List.mem_of_getElem? (i := 1440) (by decide +kernel)
theorem q1455 : Cond.methodLink "CustomsShedLaw" 134 yX6_sealedFraction ∈ lw_tbl := List.mem_of_getElem? (i := 1455) (by decide +kernel)
theorem q1488 : Cond.methodLink "CustomsShedLaw" 157 yX6_undo ∈ lw_tbl := List.mem_of_getElem? (i := 1488) (by decide +kernel)
theorem q1501 : Cond.methodLink "CustomsShedLaw" 160 yX6_restore ∈ lw_tbl := List.mem_of_getElem? (i := 1501) (by decide +kernel)
theorem m_X6_quantity : YM yX6_quantity cX6_quantity 2 (some (.int)) 1 := ⟨⟨List.mem_of_getElem? (i := 478) (by decide +kernel), by decide +kernel⟩, List.mem_of_getElem? (i := 15) (by decide +kernel), ⟨by decide, by decide⟩, by decide +kernel⟩
theorem v_X6_quantity : YV yX6_quantity := ⟨(List.mem_of_getElem? (i := 476) (by decide +kernel)), List.mem_of_getElem? (i := 477) (by decide +kernel)⟩
theorem m_X6_price : YM yX6_price cX6_price 2 (some (.int)) 1 := ⟨⟨List.mem_of_getElem? (i := 1358) (by decide +kernel), by decide +kernel⟩, List.mem_of_getElem? (i := 15) (by decide +kernel), ⟨by decide, by decide⟩, by decide +kernel⟩
theorem v_X6_price : YV yX6_price := ⟨(List.mem_of_getElem? (i := 1356) (by decide +kernel)), List.mem_of_getElem? (i := 1357) (by decide +kernel)⟩
theorem m_X6_bay : YM yX6_bay cX6_bay 2 (some (.int)) 1 := ⟨⟨List.mem_of_getElem? (i := 1365) (by decide +kernel), by decide +kernel⟩, List.mem_of_getElem? (i := 15) (by decide +kernel), ⟨by decide, by decide⟩, by decide +kernel⟩
theorem v_X6_bay : YV yX6_bay := ⟨(List.mem_of_getElem? (i := 1363) (by decide +kernel)), List.mem_of_getElem? (i := 1364) (by decide +kernel)⟩
theorem m_X6_isSealed : YM yX6_isSealed cX6_isSealed 2 (some (.boolean)) 1 := ⟨⟨List.mem_of_getElem? (i := 509) (by decide +kernel), by decide +kernel⟩, List.mem_of_getElem? (i := 15) (by decide +kernel), ⟨by decide, by decide⟩, by decide +kernel⟩
theorem v_X6_isSealed : YV yX6_isSealed := ⟨(List.mem_of_getElem? (i := 507) (by decide +kernel)), List.mem_of_getElem? (i := 508) (by decide +kernel)⟩
theorem m_X6_isDamp : YM yX6_isDamp cX6_isDamp 2 (some (.boolean)) 1 := ⟨⟨List.mem_of_getElem? (i := 1391) (by decide +kernel), by decide +kernel⟩, List.mem_of_getElem? (i := 15) (by decide +kernel), ⟨by decide, by decide⟩, by decide +kernel⟩
theorem v_X6_isDamp : YV yX6_isDamp := ⟨(List.mem_of_getElem? (i := 1389) (by decide +kernel)), List.mem_of_getElem? (i := 1390) (by decide +kernel)⟩
theorem m_X6_value : YM yX6_value cX6_value 2 (some (.int)) 1 := ⟨⟨List.mem_of_getElem? (i := 1372) (by decide +kernel), by decide +kernel⟩, List.mem_of_getElem? (i := 15) (by decide +kernel), ⟨by decide, by decide⟩, by decide +kernel⟩
theorem v_X6_value : YV yX6_value := ⟨(List.mem_of_getElem? (i := 1370) (by decide +kernel)), List.mem_of_getElem? (i := 1371) (by decide +kernel)⟩
theorem m_X6_duty : YM yX6_duty cX6_duty 2 (some (.int)) 1 := ⟨⟨List.mem_of_getElem? (i := 516) (by decide +kernel), by decide +kernel⟩, List.mem_of_getElem? (i := 15) (by decide +kernel), ⟨by decide, by decide⟩, by decide +kernel⟩
theorem v_X6_duty : YV yX6_duty := ⟨(List.mem_of_getElem? (i := 514) (by decide +kernel)), List.mem_of_getElem? (i := 515) (by decide +kernel)⟩
theorem m_X6_lot : YM yX6_lot cX6_lot 2 (some (.int)) 1 := ⟨⟨List.mem_of_getElem? (i := 446) (by decide +kernel), by decide +kernel⟩, List.mem_of_getElem? (i := 15) (by decide +kernel), ⟨by decide, by decide⟩, by decide +kernel⟩
theorem v_X6_lot : YV yX6_lot := ⟨(List.mem_of_getElem? (i := 444) (by decide +kernel)), List.mem_of_getElem? (i := 445) (by decide +kernel)⟩
theorem m_X6_threshold : YM yX6_threshold cX6_threshold 2 (some (.int)) 1 := ⟨⟨List.mem_of_getElem? (i := 1278) (by decide +kernel), by decide +kernel⟩, List.mem_of_getElem? (i := 15) (by decide +kernel), ⟨by decide, by decide⟩, by decide +kernel⟩
theorem v_X6_threshold : YV yX6_threshold := ⟨(List.mem_of_getElem? (i := 1276) (by decide +kernel)), List.mem_of_getElem? (i := 1277) (by decide +kernel)⟩
theorem m_X6_rate : YM yX6_rate cX6_rate 2 (some (.int)) 1 := ⟨⟨List.mem_of_getElem? (i := 1285) (by decide +kernel), by decide +kernel⟩, List.mem_of_getElem? (i := 15) (by decide +kernel), ⟨by decide, by decide⟩, by decide +kernel⟩
theorem v_X6_rate : YV yX6_rate := ⟨(List.mem_of_getElem? (i := 1283) (by decide +kernel)), List.mem_of_getElem? (i := 1284) (by decide +kernel)⟩
theorem m_X6_queued : YM yX6_queued cX6_queued 2 (some (.int)) 1 := ⟨⟨List.mem_of_getElem? (i := 603) (by decide +kernel), by decide +kernel⟩, List.mem_of_getElem? (i := 15) (by decide +kernel), ⟨by decide, by decide⟩, by decide +kernel⟩
theorem v_X6_queued : YV yX6_queued := ⟨(List.mem_of_getElem? (i := 601) (by decide +kernel)), List.mem_of_getElem? (i := 602) (by decide +kernel)⟩
theorem m_X6_lotAt : YM yX6_lotAt cX6_lotAt 3 (some (.int)) 1 := ⟨⟨List.mem_of_getElem? (i := 1347) (by decide +kernel), by decide +kernel⟩, List.mem_of_getElem? (i := 15) (by decide +kernel), ⟨by decide, by decide⟩, by decide +kernel⟩
theorem v_X6_lotAt : YV yX6_lotAt := ⟨(List.mem_of_getElem? (i := 1345) (by decide +kernel)), List.mem_of_getElem? (i := 1346) (by decide +kernel)⟩
theorem m_X6_quantityOfKind : YM yX6_quantityOfKind cX6_quantityOfKind 2 (some (.int)) 1 := ⟨⟨List.mem_of_getElem? (i := 1416) (by decide +kernel), by decide +kernel⟩, List.mem_of_getElem? (i := 15) (by decide +kernel), ⟨by decide, by decide⟩, by decide +kernel⟩
theorem v_X6_quantityOfKind : YV yX6_quantityOfKind := ⟨(List.mem_of_getElem? (i := 1414) (by decide +kernel)), List.mem_of_getElem? (i := 1415) (by decide +kernel)⟩
theorem m_X6_lotByValue : YM yX6_lotByValue cX6_lotByValue 3 (some (.int)) 1 := ⟨⟨List.mem_of_getElem? (i := 1398) (by decide +kernel), by decide +kernel⟩, List.mem_of_getElem? (i := 15) (by decide +kernel), ⟨by decide, by decide⟩, by decide +kernel⟩
theorem v_X6_lotByValue : YV yX6_lotByValue := ⟨(List.mem_of_getElem? (i := 1396) (by decide +kernel)), List.mem_of_getElem? (i := 1397) (by decide +kernel)⟩
theorem m_X6_dutyOn : YM yX6_dutyOn cX6_dutyOn 2 (some (.int)) 1 := ⟨⟨List.mem_of_getElem? (i := 1318) (by decide +kernel), by decide +kernel⟩, List.mem_of_getElem? (i := 15) (by decide +kernel), ⟨by decide, by decide⟩, by decide +kernel⟩
theorem v_X6_dutyOn : YV yX6_dutyOn := ⟨(List.mem_of_getElem? (i := 1316) (by decide +kernel)), List.mem_of_getElem? (i := 1317) (by decide +kernel)⟩
theorem m_X6_dutyOnByCoins : YM yX6_dutyOnByCoins cX6_dutyOnByCoins 2 (some (.int)) 1 := ⟨⟨List.mem_of_getElem? (i := 1380) (by decide +kernel), by decide +kernel⟩, List.mem_of_getElem? (i := 15) (by decide +kernel), ⟨by decide, by decide⟩, by decide +kernel⟩
theorem v_X6_dutyOnByCoins : YV yX6_dutyOnByCoins := ⟨(List.mem_of_getElem? (i := 1378) (by decide +kernel)), List.mem_of_getElem? (i := 1379) (by decide +kernel)⟩
theorem m_X6_nextEmptyBay : YM yX6_nextEmptyBay cX6_nextEmptyBay 3 (some (.int)) 1 := ⟨⟨List.mem_of_getElem? (i := 1338) (by decide +kernel), by decide +kernel⟩, List.mem_of_getElem? (i := 15) (by decide +kernel), ⟨by decide, by decide⟩, by decide +kernel⟩
theorem v_X6_nextEmptyBay : YV yX6_nextEmptyBay := ⟨(List.mem_of_getElem? (i := 1336) (by decide +kernel)), List.mem_of_getElem? (i := 1337) (by decide +kernel)⟩
theorem m_X6_dampAfter : YM yX6_dampAfter cX6_dampAfter 2 (some (.int)) 1 := ⟨⟨List.mem_of_getElem? (i := 525) (by decide +kernel), by decide +kernel⟩, List.mem_of_getElem? (i := 15) (by decide +kernel), ⟨by decide, by decide⟩, by decide +kernel⟩
theorem v_X6_dampAfter : YV yX6_dampAfter := ⟨(List.mem_of_getElem? (i := 523) (by decide +kernel)), List.mem_of_getElem? (i := 524) (by decide +kernel)⟩
theorem m_X6_addLot : YM yX6_addLot cX6_addLot 5 (some (.int)) 4 := ⟨⟨List.mem_of_getElem? (i := 615) (by decide +kernel), by decide +kernel⟩, List.mem_of_getElem? (i := 15) (by decide +kernel), ⟨by decide, by decide⟩, by decide +kernel⟩
theorem v_X6_addLot : YV yX6_addLot := ⟨(List.mem_of_getElem? (i := 613) (by decide +kernel)), List.mem_of_getElem? (i := 614) (by decide +kernel)⟩
theorem m_X6_seal : YM yX6_seal cX6_seal 2 (some (.int)) 1 := ⟨⟨List.mem_of_getElem? (i := 716) (by decide +kernel), by decide +kernel⟩, List.mem_of_getElem? (i := 15) (by decide +kernel), ⟨by decide, by decide⟩, by decide +kernel⟩
theorem v_X6_seal : YV yX6_seal := ⟨(List.mem_of_getElem? (i := 714) (by decide +kernel)), List.mem_of_getElem? (i := 715) (by decide +kernel)⟩
theorem m_X6_open : YM yX6_open cX6_open 2 (some (.int)) 1 := ⟨⟨List.mem_of_getElem? (i := 764) (by decide +kernel), by decide +kernel⟩, List.mem_of_getElem? (i := 15) (by decide +kernel), ⟨by decide, by decide⟩, by decide +kernel⟩
theorem v_X6_open : YV yX6_open := ⟨(List.mem_of_getElem? (i := 762) (by decide +kernel)), List.mem_of_getElem? (i := 763) (by decide +kernel)⟩
theorem m_X6_wet : YM yX6_wet cX6_wet 2 (some (.int)) 1 := ⟨⟨List.mem_of_getElem? (i := 775) (by decide +kernel), by decide +kernel⟩, List.mem_of_getElem? (i := 15) (by decide +kernel), ⟨by decide, by decide⟩, by decide +kernel⟩
theorem v_X6_wet : YV yX6_wet := ⟨(List.mem_of_getElem? (i := 773) (by decide +kernel)), List.mem_of_getElem? (i := 774) (by decide +kernel)⟩
theorem m_X6_move : YM yX6_move cX6_move 3 (some (.int)) 2 := ⟨⟨List.mem_of_getElem? (i := 787) (by decide +kernel), by decide +kernel⟩, List.mem_of_getElem? (i := 15) (by decide +kernel), ⟨by decide, by decide⟩, by decide +kernel⟩
theorem v_X6_move : YV yX6_move := ⟨(List.mem_of_getElem? (i := 785) (by decide +kernel)), List.mem_of_getElem? (i := 786) (by decide +kernel)⟩
theorem m_X6_addStep : YM yX6_addStep cX6_addStep 3 (some (.int)) 2 := ⟨⟨List.mem_of_getElem? (i := 738) (by decide +kernel), by decide +kernel⟩, List.mem_of_getElem? (i := 15) (by decide +kernel), ⟨by decide, by decide⟩, by decide +kernel⟩
theorem v_X6_addStep : YV yX6_addStep := ⟨(List.mem_of_getElem? (i := 736) (by decide +kernel)), List.mem_of_getElem? (i := 737) (by decide +kernel)⟩
theorem m_X6_removeStep : YM yX6_removeStep cX6_removeStep 2 (some (.int)) 1 := ⟨⟨List.mem_of_getElem? (i := 753) (by decide +kernel), by decide +kernel⟩, List.mem_of_getElem? (i := 15) (by decide +kernel), ⟨by decide, by decide⟩, by decide +kernel⟩
theorem v_X6_removeStep : YV yX6_removeStep := ⟨(List.mem_of_getElem? (i := 751) (by decide +kernel)), List.mem_of_getElem? (i := 752) (by decide +kernel)⟩
theorem m_X6_passDays : YM yX6_passDays cX6_passDays 2 (some (.int)) 1 := ⟨⟨List.mem_of_getElem? (i := 731) (by decide +kernel), by decide +kernel⟩, List.mem_of_getElem? (i := 15) (by decide +kernel), ⟨by decide, by decide⟩, by decide +kernel⟩
theorem v_X6_passDays : YV yX6_passDays := ⟨(List.mem_of_getElem? (i := 729) (by decide +kernel)), List.mem_of_getElem? (i := 730) (by decide +kernel)⟩
theorem m_X6_enqueue : YM yX6_enqueue cX6_enqueue 2 (some (.int)) 1 := ⟨⟨List.mem_of_getElem? (i := 1157) (by decide +kernel), by decide +kernel⟩, List.mem_of_getElem? (i := 15) (by decide +kernel), ⟨by decide, by decide⟩, by decide +kernel⟩
theorem v_X6_enqueue : YV yX6_enqueue := ⟨(List.mem_of_getElem? (i := 1155) (by decide +kernel)), List.mem_of_getElem? (i := 1156) (by decide +kernel)⟩
theorem m_X6_audit : YM yX6_audit cX6_audit 1 (some (.int)) 0 := ⟨⟨List.mem_of_getElem? (i := 693) (by decide +kernel), by decide +kernel⟩, List.mem_of_getElem? (i := 15) (by decide +kernel), ⟨by decide, by decide⟩, by decide +kernel⟩
theorem v_X6_audit : YV yX6_audit := ⟨(List.mem_of_getElem? (i := 691) (by decide +kernel)), List.mem_of_getElem? (i := 692) (by decide +kernel)⟩
theorem m_X6_deposit : YM yX6_deposit cX6_deposit 2 (some (.int)) 1 := ⟨⟨List.mem_of_getElem? (i := 705) (by decide +kernel), by decide +kernel⟩, List.mem_of_getElem? (i := 15) (by decide +kernel), ⟨by decide, by decide⟩, by decide +kernel⟩
theorem v_X6_deposit : YV yX6_deposit := ⟨(List.mem_of_getElem? (i := 703) (by decide +kernel)), List.mem_of_getElem? (i := 704) (by decide +kernel)⟩
theorem m_X6_release : YM yX6_release cX6_release 2 (some (.int)) 1 := ⟨⟨List.mem_of_getElem? (i := 1165) (by decide +kernel), by decide +kernel⟩, List.mem_of_getElem? (i := 15) (by decide +kernel), ⟨by decide, by decide⟩, by decide +kernel⟩
theorem v_X6_release : YV yX6_release := ⟨(List.mem_of_getElem? (i := 1163) (by decide +kernel)), List.mem_of_getElem? (i := 1164) (by decide +kernel)⟩
theorem m_X6_feed : YM yX6_feed cX6_feed 2 (some (.int)) 1 := ⟨⟨List.mem_of_getElem? (i := 1036) (by decide +kernel), by decide +kernel⟩, List.mem_of_getElem? (i := 15) (by decide +kernel), ⟨by decide, by decide⟩, by decide +kernel⟩
theorem v_X6_feed : YV yX6_feed := ⟨(List.mem_of_getElem? (i := 1034) (by decide +kernel)), List.mem_of_getElem? (i := 1035) (by decide +kernel)⟩
theorem m_X6_undo : YM yX6_undo cX6_undo 1 (some (.int)) 0 := ⟨⟨List.mem_of_getElem? (i := 1491) (by decide +kernel), by decide +kernel⟩, List.mem_of_getElem? (i := 15) (by decide +kernel), ⟨by decide, by decide⟩, by decide +kernel⟩
theorem v_X6_undo : YV yX6_undo := ⟨(List.mem_of_getElem? (i := 1489) (by decide +kernel)), List.mem_of_getElem? (i := 1490) (by decide +kernel)⟩
theorem m_X6_restore : YM yX6_restore cX6_restore 2 (some (.int)) 0 := ⟨⟨List.mem_of_getElem? (i := 1504) (by decide +kernel), by decide +kernel⟩, List.mem_of_getElem? (i := 15) (by decide +kernel), ⟨by decide, by decide⟩, by decide +kernel⟩
theorem v_X6_restore : YV yX6_restore := ⟨(List.mem_of_getElem? (i := 1502) (by decide +kernel)), List.mem_of_getElem? (i := 1503) (by decide +kernel)⟩
theorem m_X6_execute : YM yX6_execute cX6_execute 3 (some (.int)) 0 := ⟨⟨List.mem_of_getElem? (i := 1052) (by decide +kernel), by decide +kernel⟩, List.mem_of_getElem? (i := 15) (by decide +kernel), ⟨by decide, by decide⟩, by decide +kernel⟩
theorem v_X6_execute : YV yX6_execute := ⟨(List.mem_of_getElem? (i := 1050) (by decide +kernel)), List.mem_of_getElem? (i := 1051) (by decide +kernel)⟩
theorem m_X6_writeLot : YM yX6_writeLot cX6_writeLot 4 (some (.int)) 1 := ⟨⟨List.mem_of_getElem? (i := 1182) (by decide +kernel), by decide +kernel⟩, List.mem_of_getElem? (i := 15) (by decide +kernel), ⟨by decide, by decide⟩, by decide +kernel⟩
theorem v_X6_writeLot : YV yX6_writeLot := ⟨(List.mem_of_getElem? (i := 1180) (by decide +kernel)), List.mem_of_getElem? (i := 1181) (by decide +kernel)⟩
theorem m_X6_outputCharacter : YM yX6_outputCharacter cX6_outputCharacter 2 (some (.char)) 1 := ⟨⟨List.mem_of_getElem? (i := 1257) (by decide +kernel), by decide +kernel⟩, List.mem_of_getElem? (i := 15) (by decide +kernel), ⟨by decide, by decide⟩, by decide +kernel⟩
theorem v_X6_outputCharacter : YV yX6_outputCharacter := ⟨(List.mem_of_getElem? (i := 1255) (by decide +kernel)), List.mem_of_getElem? (i := 1256) (by decide +kernel)⟩
theorem m_X6_meanValue : YM yX6_meanValue cX6_meanValue 2 (some (.double)) 0 := ⟨⟨List.mem_of_getElem? (i := 1443) (by decide +kernel), by decide +kernel⟩, List.mem_of_getElem? (i := 15) (by decide +kernel), ⟨by decide, by decide⟩, by decide +kernel⟩
theorem v_X6_meanValue : YV yX6_meanValue := ⟨(List.mem_of_getElem? (i := 1441) (by decide +kernel)), List.mem_of_getElem? (i := 1442) (by decide +kernel)⟩
theorem m_X6_sealedFraction : YM yX6_sealedFraction cX6_sealedFraction 2 (some (.float)) 0 := ⟨⟨List.mem_of_getElem? (i := 1458) (by decide +kernel), by decide +kernel⟩, List.mem_of_getElem? (i := 15) (by decide +kernel), ⟨by decide, by decide⟩, by decide +kernel⟩
theorem v_X6_sealedFraction : YV yX6_sealedFraction := ⟨(List.mem_of_getElem? (i := 1456) (by decide +kernel)), List.mem_of_getElem? (i := 1457) (by decide +kernel)⟩
theorem mh_lot : YMH yL_lot cL_lot 3 [(0, 5, 6, 20)] 2 := ⟨⟨List.mem_of_getElem? (i := 362) (by decide +kernel), by rfl⟩, (List.mem_of_getElem? (i := 14) (by decide +kernel)), ⟨by decide, by decide⟩, by decide +kernel⟩
theorem vh_lot : YS yL_lot := (List.mem_of_getElem? (i := 361) (by decide +kernel))
theorem mh_quantity : YMH yL_quantity cL_quantity 3 [(0, 5, 6, 32)] 2 := ⟨⟨List.mem_of_getElem? (i := 473) (by decide +kernel), by rfl⟩, (List.mem_of_getElem? (i := 14) (by decide +kernel)), ⟨by decide, by decide⟩, by decide +kernel⟩
theorem vh_quantity : YS yL_quantity := (List.mem_of_getElem? (i := 472) (by decide +kernel))
theorem mh_isSealed : YMH yL_isSealed cL_isSealed 3 [(0, 13, 14, 32)] 2 := ⟨⟨List.mem_of_getElem? (i := 505) (by decide +kernel), by rfl⟩, (List.mem_of_getElem? (i := 14) (by decide +kernel)), ⟨by decide, by decide⟩, by decide +kernel⟩
theorem vh_isSealed : YS yL_isSealed := (List.mem_of_getElem? (i := 504) (by decide +kernel))
theorem mh_duty : YMH yL_duty cL_duty 3 [(0, 5, 6, 32)] 2 := ⟨⟨List.mem_of_getElem? (i := 512) (by decide +kernel), by rfl⟩, (List.mem_of_getElem? (i := 14) (by decide +kernel)), ⟨by decide, by decide⟩, by decide +kernel⟩
theorem vh_duty : YS yL_duty := (List.mem_of_getElem? (i := 511) (by decide +kernel))
theorem mh_dampAfter : YMH yL_dampAfter cL_dampAfter 3 [(0, 5, 6, 22)] 2 := ⟨⟨List.mem_of_getElem? (i := 520) (by decide +kernel), by rfl⟩, (List.mem_of_getElem? (i := 14) (by decide +kernel)), ⟨by decide, by decide⟩, by decide +kernel⟩
theorem vh_dampAfter : YS yL_dampAfter := (List.mem_of_getElem? (i := 519) (by decide +kernel))
theorem mh_queued : YMH yL_queued cL_queued 3 [(0, 5, 6, 20)] 2 := ⟨⟨List.mem_of_getElem? (i := 599) (by decide +kernel), by rfl⟩, (List.mem_of_getElem? (i := 14) (by decide +kernel)), ⟨by decide, by decide⟩, by decide +kernel⟩
theorem vh_queued : YS yL_queued := (List.mem_of_getElem? (i := 598) (by decide +kernel))
theorem mh_addLot : YMH yL_addLot cL_addLot 6 [(0, 9, 10, 20), (0, 9, 15, 22), (0, 9, 20, 24), (0, 9, 25, 26)] 5 := ⟨⟨List.mem_of_getElem? (i := 609) (by decide +kernel), by rfl⟩, (List.mem_of_getElem? (i := 14) (by decide +kernel)), ⟨by decide, by decide⟩, by decide +kernel⟩
theorem vh_addLot : YS yL_addLot := (List.mem_of_getElem? (i := 608) (by decide +kernel))
theorem mh_audit : YMH yL_audit cL_audit 2 [(0, 4, 5, 32)] 1 := ⟨⟨List.mem_of_getElem? (i := 689) (by decide +kernel), by rfl⟩, (List.mem_of_getElem? (i := 14) (by decide +kernel)), ⟨by decide, by decide⟩, by decide +kernel⟩
theorem vh_audit : YS yL_audit := (List.mem_of_getElem? (i := 688) (by decide +kernel))
theorem mh_deposit : YMH yL_deposit cL_deposit 3 [(0, 5, 6, 22), (0, 5, 10, 24)] 2 := ⟨⟨List.mem_of_getElem? (i := 701) (by decide +kernel), by rfl⟩, (List.mem_of_getElem? (i := 14) (by decide +kernel)), ⟨by decide, by decide⟩, by decide +kernel⟩
theorem vh_deposit : YS yL_deposit := (List.mem_of_getElem? (i := 700) (by decide +kernel))
theorem mh_seal : YMH yL_seal cL_seal 3 [(0, 5, 6, 32), (0, 5, 10, 24), (0, 5, 14, 26)] 2 := ⟨⟨List.mem_of_getElem? (i := 712) (by decide +kernel), by rfl⟩, (List.mem_of_getElem? (i := 14) (by decide +kernel)), ⟨by decide, by decide⟩, by decide +kernel⟩
theorem vh_seal : YS yL_seal := (List.mem_of_getElem? (i := 711) (by decide +kernel))
theorem mh_passDays : YMH yL_passDays cL_passDays 3 [(0, 5, 6, 22)] 2 := ⟨⟨List.mem_of_getElem? (i := 727) (by decide +kernel), by rfl⟩, (List.mem_of_getElem? (i := 14) (by decide +kernel)), ⟨by decide, by decide⟩, by decide +kernel⟩
theorem vh_passDays : YS yL_passDays := (List.mem_of_getElem? (i := 726) (by decide +kernel))
theorem mh_addStep : YMH yL_addStep cL_addStep 4 [(0, 6, 7, 22), (0, 6, 11, 26), (0, 6, 15, 24)] 3 := ⟨⟨List.mem_of_getElem? (i := 734) (by decide +kernel), by rfl⟩, (List.mem_of_getElem? (i := 14) (by decide +kernel)), ⟨by decide, by decide⟩, by decide +kernel⟩
theorem vh_addStep : YS yL_addStep := (List.mem_of_getElem? (i := 733) (by decide +kernel))
theorem mh_removeStep : YMH yL_removeStep cL_removeStep 3 [(0, 5, 6, 32)] 2 := ⟨⟨List.mem_of_getElem? (i := 749) (by decide +kernel), by rfl⟩, (List.mem_of_getElem? (i := 14) (by decide +kernel)), ⟨by decide, by decide⟩, by decide +kernel⟩
theorem vh_removeStep : YS yL_removeStep := (List.mem_of_getElem? (i := 748) (by decide +kernel))
theorem mh_open : YMH yL_open cL_open 3 [(0, 5, 6, 32), (0, 5, 10, 24)] 2 := ⟨⟨List.mem_of_getElem? (i := 760) (by decide +kernel), by rfl⟩, (List.mem_of_getElem? (i := 14) (by decide +kernel)), ⟨by decide, by decide⟩, by decide +kernel⟩
theorem vh_open : YS yL_open := (List.mem_of_getElem? (i := 759) (by decide +kernel))
theorem mh_wet : YMH yL_wet cL_wet 3 [(0, 5, 6, 32), (0, 5, 10, 24)] 2 := ⟨⟨List.mem_of_getElem? (i := 771) (by decide +kernel), by rfl⟩, (List.mem_of_getElem? (i := 14) (by decide +kernel)), ⟨by decide, by decide⟩, by decide +kernel⟩
theorem vh_wet : YS yL_wet := (List.mem_of_getElem? (i := 770) (by decide +kernel))
theorem mh_move : YMH yL_move cL_move 4 [(0, 6, 7, 32), (0, 6, 11, 20), (0, 6, 15, 26)] 3 := ⟨⟨List.mem_of_getElem? (i := 783) (by decide +kernel), by rfl⟩, (List.mem_of_getElem? (i := 14) (by decide +kernel)), ⟨by decide, by decide⟩, by decide +kernel⟩
theorem vh_move : YS yL_move := (List.mem_of_getElem? (i := 782) (by decide +kernel))
theorem mh_feed : YMH yL_feed cL_feed 3 [(0, 5, 6, 24)] 2 := ⟨⟨List.mem_of_getElem? (i := 1032) (by decide +kernel), by rfl⟩, (List.mem_of_getElem? (i := 14) (by decide +kernel)), ⟨by decide, by decide⟩, by decide +kernel⟩
theorem vh_feed : YS yL_feed := (List.mem_of_getElem? (i := 1031) (by decide +kernel))
theorem mh_execute : YMH yL_execute cL_execute 2 [(0, 4, 5, 22), (0, 4, 9, 26)] 1 := ⟨⟨List.mem_of_getElem? (i := 1048) (by decide +kernel), by rfl⟩, (List.mem_of_getElem? (i := 14) (by decide +kernel)), ⟨by decide, by decide⟩, by decide +kernel⟩
theorem vh_execute : YS yL_execute := (List.mem_of_getElem? (i := 1047) (by decide +kernel))
theorem mh_enqueue : YMH yL_enqueue cL_enqueue 3 [(0, 5, 6, 32), (0, 5, 10, 24)] 2 := ⟨⟨List.mem_of_getElem? (i := 1153) (by decide +kernel), by rfl⟩, (List.mem_of_getElem? (i := 14) (by decide +kernel)), ⟨by decide, by decide⟩, by decide +kernel⟩
theorem vh_enqueue : YS yL_enqueue := (List.mem_of_getElem? (i := 1152) (by decide +kernel))
theorem mh_release : YMH yL_release cL_release 3 [(0, 5, 6, 32), (0, 5, 10, 26)] 2 := ⟨⟨List.mem_of_getElem? (i := 1161) (by decide +kernel), by rfl⟩, (List.mem_of_getElem? (i := 14) (by decide +kernel)), ⟨by decide, by decide⟩, by decide +kernel⟩
theorem vh_release : YS yL_release := (List.mem_of_getElem? (i := 1160) (by decide +kernel))
theorem mh_writeLot : YMH yL_writeLot cL_writeLot 3 [(0, 5, 6, 32)] 2 := ⟨⟨List.mem_of_getElem? (i := 1178) (by decide +kernel), by rfl⟩, (List.mem_of_getElem? (i := 14) (by decide +kernel)), ⟨by decide, by decide⟩, by decide +kernel⟩
theorem vh_writeLot : YS yL_writeLot := (List.mem_of_getElem? (i := 1177) (by decide +kernel))
theorem mh_outputCharacter : YMH yL_outputCharacter cL_outputCharacter 3 [(0, 5, 6, 20)] 2 := ⟨⟨List.mem_of_getElem? (i := 1253) (by decide +kernel), by rfl⟩, (List.mem_of_getElem? (i := 14) (by decide +kernel)), ⟨by decide, by decide⟩, by decide +kernel⟩
theorem vh_outputCharacter : YS yL_outputCharacter := (List.mem_of_getElem? (i := 1252) (by decide +kernel))
theorem mh_threshold : YMH yL_threshold cL_threshold 3 [(0, 5, 6, 20)] 2 := ⟨⟨List.mem_of_getElem? (i := 1274) (by decide +kernel), by rfl⟩, (List.mem_of_getElem? (i := 14) (by decide +kernel)), ⟨by decide, by decide⟩, by decide +kernel⟩
theorem vh_threshold : YS yL_threshold := (List.mem_of_getElem? (i := 1273) (by decide +kernel))
theorem mh_rate : YMH yL_rate cL_rate 3 [(0, 5, 6, 20)] 2 := ⟨⟨List.mem_of_getElem? (i := 1281) (by decide +kernel), by rfl⟩, (List.mem_of_getElem? (i := 14) (by decide +kernel)), ⟨by decide, by decide⟩, by decide +kernel⟩
theorem vh_rate : YS yL_rate := (List.mem_of_getElem? (i := 1280) (by decide +kernel))
theorem mh_dutyOn : YMH yL_dutyOn cL_dutyOn 3 [(0, 5, 6, 22)] 2 := ⟨⟨List.mem_of_getElem? (i := 1314) (by decide +kernel), by rfl⟩, (List.mem_of_getElem? (i := 14) (by decide +kernel)), ⟨by decide, by decide⟩, by decide +kernel⟩
theorem vh_dutyOn : YS yL_dutyOn := (List.mem_of_getElem? (i := 1313) (by decide +kernel))
theorem mh_nextEmptyBay : YMH yL_nextEmptyBay cL_nextEmptyBay 3 [(0, 5, 6, 20), (0, 5, 10, 32)] 2 := ⟨⟨List.mem_of_getElem? (i := 1334) (by decide +kernel), by rfl⟩, (List.mem_of_getElem? (i := 14) (by decide +kernel)), ⟨by decide, by decide⟩, by decide +kernel⟩
theorem vh_nextEmptyBay : YS yL_nextEmptyBay := (List.mem_of_getElem? (i := 1333) (by decide +kernel))
theorem mh_lotAt : YMH yL_lotAt cL_lotAt 3 [(0, 5, 6, 20), (0, 5, 10, 32)] 2 := ⟨⟨List.mem_of_getElem? (i := 1343) (by decide +kernel), by rfl⟩, (List.mem_of_getElem? (i := 14) (by decide +kernel)), ⟨by decide, by decide⟩, by decide +kernel⟩
theorem vh_lotAt : YS yL_lotAt := (List.mem_of_getElem? (i := 1342) (by decide +kernel))
theorem mh_price : YMH yL_price cL_price 3 [(0, 5, 6, 32)] 2 := ⟨⟨List.mem_of_getElem? (i := 1354) (by decide +kernel), by rfl⟩, (List.mem_of_getElem? (i := 14) (by decide +kernel)), ⟨by decide, by decide⟩, by decide +kernel⟩
theorem vh_price : YS yL_price := (List.mem_of_getElem? (i := 1353) (by decide +kernel))
theorem mh_bay : YMH yL_bay cL_bay 3 [(0, 5, 6, 32)] 2 := ⟨⟨List.mem_of_getElem? (i := 1361) (by decide +kernel), by rfl⟩, (List.mem_of_getElem? (i := 14) (by decide +kernel)), ⟨by decide, by decide⟩, by decide +kernel⟩
theorem vh_bay : YS yL_bay := (List.mem_of_getElem? (i := 1360) (by decide +kernel))
theorem mh_value : YMH yL_value cL_value 3 [(0, 5, 6, 32)] 2 := ⟨⟨List.mem_of_getElem? (i := 1368) (by decide +kernel), by rfl⟩, (List.mem_of_getElem? (i := 14) (by decide +kernel)), ⟨by decide, by decide⟩, by decide +kernel⟩
theorem vh_value : YS yL_value := (List.mem_of_getElem? (i := 1367) (by decide +kernel))
theorem mh_dutyOnByCoins : YMH yL_dutyOnByCoins cL_dutyOnByCoins 3 [(0, 5, 6, 22)] 2 := ⟨⟨List.mem_of_getElem? (i := 1376) (by decide +kernel), by rfl⟩, (List.mem_of_getElem? (i := 14) (by decide +kernel)), ⟨by decide, by decide⟩, by decide +kernel⟩
theorem vh_dutyOnByCoins : YS yL_dutyOnByCoins := (List.mem_of_getElem? (i := 1375) (by decide +kernel))
theorem mh_isDamp : YMH yL_isDamp cL_isDamp 3 [(0, 13, 14, 32)] 2 := ⟨⟨List.mem_of_getElem? (i := 1387) (by decide +kernel), by rfl⟩, (List.mem_of_getElem? (i := 14) (by decide +kernel)), ⟨by decide, by decide⟩, by decide +kernel⟩
theorem vh_isDamp : YS yL_isDamp := (List.mem_of_getElem? (i := 1386) (by decide +kernel))
theorem mh_lotByValue : YMH yL_lotByValue cL_lotByValue 3 [(0, 5, 6, 20)] 2 := ⟨⟨List.mem_of_getElem? (i := 1394) (by decide +kernel), by rfl⟩, (List.mem_of_getElem? (i := 14) (by decide +kernel)), ⟨by decide, by decide⟩, by decide +kernel⟩
theorem vh_lotByValue : YS yL_lotByValue := (List.mem_of_getElem? (i := 1393) (by decide +kernel))
theorem mh_quantityOfKind : YMH yL_quantityOfKind cL_quantityOfKind 3 [(0, 5, 6, 22)] 2 := ⟨⟨List.mem_of_getElem? (i := 1412) (by decide +kernel), by rfl⟩, (List.mem_of_getElem? (i := 14) (by decide +kernel)), ⟨by decide, by decide⟩, by decide +kernel⟩
theorem vh_quantityOfKind : YS yL_quantityOfKind := (List.mem_of_getElem? (i := 1411) (by decide +kernel))
theorem mh_meanValue : YMHd yL_meanValue cL_meanValue 2 [(0, 4, 5, 130)] 1 := ⟨⟨List.mem_of_getElem? (i := 1425) (by decide +kernel), by rfl⟩, (List.mem_of_getElem? (i := 14) (by decide +kernel)), ⟨by decide, by decide⟩, by decide +kernel⟩
theorem vh_meanValue : YS yL_meanValue := (List.mem_of_getElem? (i := 1424) (by decide +kernel))
theorem mh_sealedFraction : YMHf yL_sealedFraction cL_sealedFraction 2 [(0, 4, 5, 130)] 1 := ⟨⟨List.mem_of_getElem? (i := 1454) (by decide +kernel), by rfl⟩, (List.mem_of_getElem? (i := 14) (by decide +kernel)), ⟨by decide, by decide⟩, by decide +kernel⟩
theorem vh_sealedFraction : YS yL_sealedFraction := (List.mem_of_getElem? (i := 1453) (by decide +kernel))
theorem mh_undo : YMH yL_undo cL_undo 2 [(0, 4, 5, 24)] 1 := ⟨⟨List.mem_of_getElem? (i := 1487) (by decide +kernel), by rfl⟩, (List.mem_of_getElem? (i := 14) (by decide +kernel)), ⟨by decide, by decide⟩, by decide +kernel⟩
theorem vh_undo : YS yL_undo := (List.mem_of_getElem? (i := 1486) (by decide +kernel))
theorem mh_restore : YMH yL_restore cL_restore 2 [(0, 4, 5, 24)] 1 := ⟨⟨List.mem_of_getElem? (i := 1500) (by decide +kernel), by rfl⟩, (List.mem_of_getElem? (i := 14) (by decide +kernel)), ⟨by decide, by decide⟩, by decide +kernel⟩
theorem vh_restore : YS yL_restore := (List.mem_of_getElem? (i := 1499) (by decide +kernel))
/-- the law's number of an exception -/
def cdE (E : String) : Int32 := if E = eNSE then -75 else if E = eIOB then -77 else if E = eIAE then -78 else if E = eISE then -79 else -76
abbrev m74d : UInt64 := 13858279740860792832
abbrev m74f : UInt32 := 3264479232
set_option maxRecDepth 100000 in
set_option maxHeartbeats 4000000 in
theorem l_quantity_no {G : cG} (g : GOK G) (gM : MG G) (hNC : NcG G) {ad : Nat → Nat → Nat} {svx : Value} {K S : Mem} {x1 : Int32} (hq : f_X3_slotWith S x1 = some (-1)) : CXH G yL_quantity cL_quantity 3 [(0, 5, 6, 32)] 8 125 1 6 [.ref ((ad 0) 0), .int x1] (fl [wXo G.2.1 (ad 0) (xF ad) svx K, wSh G.2.1 (ad 1) S]) (fun r9 w1 => r9 = (-75) ∧ w1 = fl [wXo G.2.1 (ad 0) (xF ad) svx K, wSh G.2.1 (ad 1) S]) := by
  refine CXH.of g (by decide) rfl (Nat.le_of_ble_eq_true rfl) (List.mem_of_getElem? (i := 473) (by decide +kernel)) (by rfl) ?_
  intro p l e s m below meth cm A ls hst htab F hr hlocks w hl
  generalize ([.ref ((ad 0) 0), .int x1] : List Value).toArray = args
  have hl : lv_has ls 3 [(0, .ref ((ad 0) 0)), (1, .int x1)] := hl
  have w : Wd G A s.heap (fl [wXo G.2.1 (ad 0) (xF ad) svx K, wSh G.2.1 (ad 1) S]) _ _ := w
  refine lv_aload_n F.x F.b dL_quantity_0 rfl (lv_at hl 0 rfl) ?_
  refine lv_iload_n F.x F.b dL_quantity_1 rfl (lv_at hl 1 rfl) ?_
  refine kXi F w hst (LC := [wXo G.2.1 (ad 0) (xF ad) svx K, wSh G.2.1 (ad 1) S]) (LR := []) (As := [.int x1]) (rest := []) (k_quantity_no F.1 gM hq) m_X6_quantity v_X6_quantity q475 (ci := 10) (q0 := 0) rfl rfl rfl 2 [0, 1] rfl rfl rfl ⟨Nat.le_of_ble_eq_true rfl, Nat.le_of_ble_eq_true rfl⟩ rfl hl.1 rfl (Nat.le_of_ble_eq_true rfl) dL_quantity_2 ⟨Nat.le_of_ble_eq_true rfl, Nat.le_of_ble_eq_true rfl⟩ (fun E9 w1 ce q H locs hx w hce hcv hcl => ?_) (fun r9 w1 H locs h9 w => ?_)
  · obtain ⟨rfl, hx⟩ := hx
    rw [show fl ([] : List va_W) = [] from rfl, List.append_nil] at w
    refine vx_catch F.o (name := eNSE) (tableOf []) ⟨0, 5, 6, 32⟩ (tableOf []) htab pass_nil rfl (by decide) (F.t _ (List.mem_of_getElem? (i := 474) (by decide +kernel)) rfl _) (F.t _ (List.mem_of_getElem? (i := 489) (by decide +kernel)) rfl _) hce hcv hcl ?_
    refine lv_astore_n (lv' := [(2, .ref q), (0, .ref ((ad 0) 0)), (1, .int x1)]) F.x F.b dL_quantity_6 rfl hl (by decide) rfl (fun ls hl => ?_)
    refine lv_bipush (v := (-75)) F.x F.b dL_quantity_7 (by decide) ?_
    exact eiX F w hr hlocks rfl ⟨rfl, hx⟩ (Nat.le_of_ble_eq_true rfl) (Nat.le_of_ble_eq_true rfl) dL_quantity_9
  · exact False.elim h9
set_option maxRecDepth 100000 in
set_option maxHeartbeats 4000000 in
theorem l_quantity_ok {G : cG} (g : GOK G) {ad : Nat → Nat → Nat} {svx : Value} {K S : Mem} {x1 : Int32} {pp : Nat} (hq : f_X3_slotWith S x1 = some (nI pp)) (hp : pp < 16) : CXH G yL_quantity cL_quantity 3 [(0, 5, 6, 32)] 3 65 0 0 [.ref ((ad 0) 0), .int x1] (fl [wXo G.2.1 (ad 0) (xF ad) svx K, wSh G.2.1 (ad 1) S]) (fun r9 w1 => r9 = S.2 2 pp ∧ w1 = fl [wXo G.2.1 (ad 0) (xF ad) svx K, wSh G.2.1 (ad 1) S]) := by
  refine CXH.of g (by decide) rfl (Nat.le_of_ble_eq_true rfl) (List.mem_of_getElem? (i := 473) (by decide +kernel)) (by rfl) ?_
  intro p l e s m below meth cm A ls hst htab F hr hlocks w hl
  generalize ([.ref ((ad 0) 0), .int x1] : List Value).toArray = args
  have hl : lv_has ls 3 [(0, .ref ((ad 0) 0)), (1, .int x1)] := hl
  have w : Wd G A s.heap (fl [wXo G.2.1 (ad 0) (xF ad) svx K, wSh G.2.1 (ad 1) S]) _ _ := w
  refine lv_aload_n F.x F.b dL_quantity_0 rfl (lv_at hl 0 rfl) ?_
  refine lv_iload_n F.x F.b dL_quantity_1 rfl (lv_at hl 1 rfl) ?_
  refine kXi F w hst (LC := [wXo G.2.1 (ad 0) (xF ad) svx K, wSh G.2.1 (ad 1) S]) (LR := []) (As := [.int x1]) (rest := []) (k_quantity_ok F.1 hq hp) m_X6_quantity v_X6_quantity q475 (ci := 10) (q0 := 0) rfl rfl rfl 2 [0, 1] rfl rfl rfl ⟨Nat.le_of_ble_eq_true rfl, Nat.le_of_ble_eq_true rfl⟩ rfl hl.1 rfl (Nat.le_of_ble_eq_true rfl) dL_quantity_2 ⟨Nat.le_of_ble_eq_true rfl, Nat.le_of_ble_eq_true rfl⟩ (fun _ _ _ _ _ _ hx => False.elim hx) (fun r9 w1 H locs h9 w => ?_)
  rw [show fl ([] : List va_W) = [] from rfl, List.append_nil] at w
  exact eiX F w hr hlocks rfl h9 (Nat.le_of_ble_eq_true rfl) (Nat.le_of_ble_eq_true rfl) dL_quantity_5
set_option maxRecDepth 100000 in
set_option maxHeartbeats 4000000 in
theorem l_price_no {G : cG} (g : GOK G) (gM : MG G) (hNC : NcG G) {ad : Nat → Nat → Nat} {svx : Value} {K S : Mem} {x1 : Int32} (hq : f_X3_slotWith S x1 = some (-1)) : CXH G yL_price cL_price 3 [(0, 5, 6, 32)] 8 125 1 6 [.ref ((ad 0) 0), .int x1] (fl [wXo G.2.1 (ad 0) (xF ad) svx K, wSh G.2.1 (ad 1) S]) (fun r9 w1 => r9 = (-75) ∧ w1 = fl [wXo G.2.1 (ad 0) (xF ad) svx K, wSh G.2.1 (ad 1) S]) := by
  refine CXH.of g (by decide) rfl (Nat.le_of_ble_eq_true rfl) (List.mem_of_getElem? (i := 1354) (by decide +kernel)) (by rfl) ?_
  intro p l e s m below meth cm A ls hst htab F hr hlocks w hl
  generalize ([.ref ((ad 0) 0), .int x1] : List Value).toArray = args
  have hl : lv_has ls 3 [(0, .ref ((ad 0) 0)), (1, .int x1)] := hl
  have w : Wd G A s.heap (fl [wXo G.2.1 (ad 0) (xF ad) svx K, wSh G.2.1 (ad 1) S]) _ _ := w
  refine lv_aload_n F.x F.b dL_price_0 rfl (lv_at hl 0 rfl) ?_
  refine lv_iload_n F.x F.b dL_price_1 rfl (lv_at hl 1 rfl) ?_
  refine kXi F w hst (LC := [wXo G.2.1 (ad 0) (xF ad) svx K, wSh G.2.1 (ad 1) S]) (LR := []) (As := [.int x1]) (rest := []) (k_price_no F.1 gM hq) m_X6_price v_X6_price q1355 (ci := 10) (q0 := 0) rfl rfl rfl 2 [0, 1] rfl rfl rfl ⟨Nat.le_of_ble_eq_true rfl, Nat.le_of_ble_eq_true rfl⟩ rfl hl.1 rfl (Nat.le_of_ble_eq_true rfl) dL_price_2 ⟨Nat.le_of_ble_eq_true rfl, Nat.le_of_ble_eq_true rfl⟩ (fun E9 w1 ce q H locs hx w hce hcv hcl => ?_) (fun r9 w1 H locs h9 w => ?_)
  · obtain ⟨rfl, hx⟩ := hx
    rw [show fl ([] : List va_W) = [] from rfl, List.append_nil] at w
    refine vx_catch F.o (name := eNSE) (tableOf []) ⟨0, 5, 6, 32⟩ (tableOf []) htab pass_nil rfl (by decide) (F.t _ (List.mem_of_getElem? (i := 474) (by decide +kernel)) rfl _) (F.t _ (List.mem_of_getElem? (i := 489) (by decide +kernel)) rfl _) hce hcv hcl ?_
    refine lv_astore_n (lv' := [(2, .ref q), (0, .ref ((ad 0) 0)), (1, .int x1)]) F.x F.b dL_price_6 rfl hl (by decide) rfl (fun ls hl => ?_)
    refine lv_bipush (v := (-75)) F.x F.b dL_price_7 (by decide) ?_
    exact eiX F w hr hlocks rfl ⟨rfl, hx⟩ (Nat.le_of_ble_eq_true rfl) (Nat.le_of_ble_eq_true rfl) dL_price_9
  · exact False.elim h9
set_option maxRecDepth 100000 in
set_option maxHeartbeats 4000000 in
theorem l_price_ok {G : cG} (g : GOK G) {ad : Nat → Nat → Nat} {svx : Value} {K S : Mem} {x1 : Int32} {pp : Nat} (hq : f_X3_slotWith S x1 = some (nI pp)) (hp : pp < 16) : CXH G yL_price cL_price 3 [(0, 5, 6, 32)] 3 65 0 0 [.ref ((ad 0) 0), .int x1] (fl [wXo G.2.1 (ad 0) (xF ad) svx K, wSh G.2.1 (ad 1) S]) (fun r9 w1 => r9 = S.2 3 pp ∧ w1 = fl [wXo G.2.1 (ad 0) (xF ad) svx K, wSh G.2.1 (ad 1) S]) := by
  refine CXH.of g (by decide) rfl (Nat.le_of_ble_eq_true rfl) (List.mem_of_getElem? (i := 1354) (by decide +kernel)) (by rfl) ?_
  intro p l e s m below meth cm A ls hst htab F hr hlocks w hl
  generalize ([.ref ((ad 0) 0), .int x1] : List Value).toArray = args
  have hl : lv_has ls 3 [(0, .ref ((ad 0) 0)), (1, .int x1)] := hl
  have w : Wd G A s.heap (fl [wXo G.2.1 (ad 0) (xF ad) svx K, wSh G.2.1 (ad 1) S]) _ _ := w
  refine lv_aload_n F.x F.b dL_price_0 rfl (lv_at hl 0 rfl) ?_
  refine lv_iload_n F.x F.b dL_price_1 rfl (lv_at hl 1 rfl) ?_
  refine kXi F w hst (LC := [wXo G.2.1 (ad 0) (xF ad) svx K, wSh G.2.1 (ad 1) S]) (LR := []) (As := [.int x1]) (rest := []) (k_price_ok F.1 hq hp) m_X6_price v_X6_price q1355 (ci := 10) (q0 := 0) rfl rfl rfl 2 [0, 1] rfl rfl rfl ⟨Nat.le_of_ble_eq_true rfl, Nat.le_of_ble_eq_true rfl⟩ rfl hl.1 rfl (Nat.le_of_ble_eq_true rfl) dL_price_2 ⟨Nat.le_of_ble_eq_true rfl, Nat.le_of_ble_eq_true rfl⟩ (fun _ _ _ _ _ _ hx => False.elim hx) (fun r9 w1 H locs h9 w => ?_)
  rw [show fl ([] : List va_W) = [] from rfl, List.append_nil] at w
  exact eiX F w hr hlocks rfl h9 (Nat.le_of_ble_eq_true rfl) (Nat.le_of_ble_eq_true rfl) dL_price_5
set_option maxRecDepth 100000 in
set_option maxHeartbeats 4000000 in
theorem l_bay_no {G : cG} (g : GOK G) (gM : MG G) (hNC : NcG G) {ad : Nat → Nat → Nat} {svx : Value} {K S : Mem} {x1 : Int32} (hq : f_X3_slotWith S x1 = some (-1)) : CXH G yL_bay cL_bay 3 [(0, 5, 6, 32)] 8 125 1 6 [.ref ((ad 0) 0), .int x1] (fl [wXo G.2.1 (ad 0) (xF ad) svx K, wSh G.2.1 (ad 1) S]) (fun r9 w1 => r9 = (-75) ∧ w1 = fl [wXo G.2.1 (ad 0) (xF ad) svx K, wSh G.2.1 (ad 1) S]) := by
  refine CXH.of g (by decide) rfl (Nat.le_of_ble_eq_true rfl) (List.mem_of_getElem? (i := 1361) (by decide +kernel)) (by rfl) ?_
  intro p l e s m below meth cm A ls hst htab F hr hlocks w hl
  generalize ([.ref ((ad 0) 0), .int x1] : List Value).toArray = args
  have hl : lv_has ls 3 [(0, .ref ((ad 0) 0)), (1, .int x1)] := hl
  have w : Wd G A s.heap (fl [wXo G.2.1 (ad 0) (xF ad) svx K, wSh G.2.1 (ad 1) S]) _ _ := w
  refine lv_aload_n F.x F.b dL_bay_0 rfl (lv_at hl 0 rfl) ?_
  refine lv_iload_n F.x F.b dL_bay_1 rfl (lv_at hl 1 rfl) ?_
  refine kXi F w hst (LC := [wXo G.2.1 (ad 0) (xF ad) svx K, wSh G.2.1 (ad 1) S]) (LR := []) (As := [.int x1]) (rest := []) (k_bay_no F.1 gM hq) m_X6_bay v_X6_bay q1362 (ci := 10) (q0 := 0) rfl rfl rfl 2 [0, 1] rfl rfl rfl ⟨Nat.le_of_ble_eq_true rfl, Nat.le_of_ble_eq_true rfl⟩ rfl hl.1 rfl (Nat.le_of_ble_eq_true rfl) dL_bay_2 ⟨Nat.le_of_ble_eq_true rfl, Nat.le_of_ble_eq_true rfl⟩ (fun E9 w1 ce q H locs hx w hce hcv hcl => ?_) (fun r9 w1 H locs h9 w => ?_)
  · obtain ⟨rfl, hx⟩ := hx
    rw [show fl ([] : List va_W) = [] from rfl, List.append_nil] at w
    refine vx_catch F.o (name := eNSE) (tableOf []) ⟨0, 5, 6, 32⟩ (tableOf []) htab pass_nil rfl (by decide) (F.t _ (List.mem_of_getElem? (i := 474) (by decide +kernel)) rfl _) (F.t _ (List.mem_of_getElem? (i := 489) (by decide +kernel)) rfl _) hce hcv hcl ?_
    refine lv_astore_n (lv' := [(2, .ref q), (0, .ref ((ad 0) 0)), (1, .int x1)]) F.x F.b dL_bay_6 rfl hl (by decide) rfl (fun ls hl => ?_)
    refine lv_bipush (v := (-75)) F.x F.b dL_bay_7 (by decide) ?_
    exact eiX F w hr hlocks rfl ⟨rfl, hx⟩ (Nat.le_of_ble_eq_true rfl) (Nat.le_of_ble_eq_true rfl) dL_bay_9
  · exact False.elim h9
set_option maxRecDepth 100000 in
set_option maxHeartbeats 4000000 in
theorem l_bay_ok {G : cG} (g : GOK G) {ad : Nat → Nat → Nat} {svx : Value} {K S : Mem} {x1 : Int32} {pp : Nat} (hq : f_X3_slotWith S x1 = some (nI pp)) (hp : pp < 16) : CXH G yL_bay cL_bay 3 [(0, 5, 6, 32)] 3 65 0 0 [.ref ((ad 0) 0), .int x1] (fl [wXo G.2.1 (ad 0) (xF ad) svx K, wSh G.2.1 (ad 1) S]) (fun r9 w1 => r9 = S.2 4 pp ∧ w1 = fl [wXo G.2.1 (ad 0) (xF ad) svx K, wSh G.2.1 (ad 1) S]) := by
  refine CXH.of g (by decide) rfl (Nat.le_of_ble_eq_true rfl) (List.mem_of_getElem? (i := 1361) (by decide +kernel)) (by rfl) ?_
  intro p l e s m below meth cm A ls hst htab F hr hlocks w hl
  generalize ([.ref ((ad 0) 0), .int x1] : List Value).toArray = args
  have hl : lv_has ls 3 [(0, .ref ((ad 0) 0)), (1, .int x1)] := hl
  have w : Wd G A s.heap (fl [wXo G.2.1 (ad 0) (xF ad) svx K, wSh G.2.1 (ad 1) S]) _ _ := w
  refine lv_aload_n F.x F.b dL_bay_0 rfl (lv_at hl 0 rfl) ?_
  refine lv_iload_n F.x F.b dL_bay_1 rfl (lv_at hl 1 rfl) ?_
  refine kXi F w hst (LC := [wXo G.2.1 (ad 0) (xF ad) svx K, wSh G.2.1 (ad 1) S]) (LR := []) (As := [.int x1]) (rest := []) (k_bay_ok F.1 hq hp) m_X6_bay v_X6_bay q1362 (ci := 10) (q0 := 0) rfl rfl rfl 2 [0, 1] rfl rfl rfl ⟨Nat.le_of_ble_eq_true rfl, Nat.le_of_ble_eq_true rfl⟩ rfl hl.1 rfl (Nat.le_of_ble_eq_true rfl) dL_bay_2 ⟨Nat.le_of_ble_eq_true rfl, Nat.le_of_ble_eq_true rfl⟩ (fun _ _ _ _ _ _ hx => False.elim hx) (fun r9 w1 H locs h9 w => ?_)
  rw [show fl ([] : List va_W) = [] from rfl, List.append_nil] at w
  exact eiX F w hr hlocks rfl h9 (Nat.le_of_ble_eq_true rfl) (Nat.le_of_ble_eq_true rfl) dL_bay_5
set_option maxRecDepth 100000 in
set_option maxHeartbeats 4000000 in
theorem l_isSealed_no {G : cG} (g : GOK G) (gM : MG G) (hNC : NcG G) {ad : Nat → Nat → Nat} {svx : Value} {K S : Mem} {x1 : Int32} (hq : f_X3_slotWith S x1 = some (-1)) : CXH G yL_isSealed cL_isSealed 3 [(0, 13, 14, 32)] 8 125 1 6 [.ref ((ad 0) 0), .int x1] (fl [wXo G.2.1 (ad 0) (xF ad) svx K, wSh G.2.1 (ad 1) S]) (fun r9 w1 => r9 = (-75) ∧ w1 = fl [wXo G.2.1 (ad 0) (xF ad) svx K, wSh G.2.1 (ad 1) S]) := by
  refine CXH.of g (by decide) rfl (Nat.le_of_ble_eq_true rfl) (List.mem_of_getElem? (i := 505) (by decide +kernel)) (by rfl) ?_
  intro p l e s m below meth cm A ls hst htab F hr hlocks w hl
  generalize ([.ref ((ad 0) 0), .int x1] : List Value).toArray = args
  have hl : lv_has ls 3 [(0, .ref ((ad 0) 0)), (1, .int x1)] := hl
  have w : Wd G A s.heap (fl [wXo G.2.1 (ad 0) (xF ad) svx K, wSh G.2.1 (ad 1) S]) _ _ := w
  refine lv_aload_n F.x F.b dL_isSealed_0 rfl (lv_at hl 0 rfl) ?_
  refine lv_iload_n F.x F.b dL_isSealed_1 rfl (lv_at hl 1 rfl) ?_
  refine kXi F w hst (LC := [wXo G.2.1 (ad 0) (xF ad) svx K, wSh G.2.1 (ad 1) S]) (LR := []) (As := [.int x1]) (rest := []) (k_isSealed_no F.1 gM hq) m_X6_isSealed v_X6_isSealed q506 (ci := 10) (q0 := 0) rfl rfl rfl 2 [0, 1] rfl rfl rfl ⟨Nat.le_of_ble_eq_true rfl, Nat.le_of_ble_eq_true rfl⟩ rfl hl.1 rfl (Nat.le_of_ble_eq_true rfl) dL_isSealed_2 ⟨Nat.le_of_ble_eq_true rfl, Nat.le_of_ble_eq_true rfl⟩ (fun E9 w1 ce q H locs hx w hce hcv hcl => ?_) (fun r9 w1 H locs h9 w => ?_)
  · obtain ⟨rfl, hx⟩ := hx
    rw [show fl ([] : List va_W) = [] from rfl, List.append_nil] at w
    refine vx_catch F.o (name := eNSE) (tableOf []) ⟨0, 13, 14, 32⟩ (tableOf []) htab pass_nil rfl (by decide) (F.t _ (List.mem_of_getElem? (i := 474) (by decide +kernel)) rfl _) (F.t _ (List.mem_of_getElem? (i := 489) (by decide +kernel)) rfl _) hce hcv hcl ?_
    refine lv_astore_n (lv' := [(2, .ref q), (0, .ref ((ad 0) 0)), (1, .int x1)]) F.x F.b dL_isSealed_14 rfl hl (by decide) rfl (fun ls hl => ?_)
    refine lv_bipush (v := (-75)) F.x F.b dL_isSealed_15 (by decide) ?_
    exact eiX F w hr hlocks rfl ⟨rfl, hx⟩ (Nat.le_of_ble_eq_true rfl) (Nat.le_of_ble_eq_true rfl) dL_isSealed_17
  · exact False.elim h9
set_option maxRecDepth 100000 in
set_option maxHeartbeats 4000000 in
theorem l_isSealed_ok {G : cG} (g : GOK G) {ad : Nat → Nat → Nat} {svx : Value} {K S : Mem} {x1 : Int32} {pp : Nat} (hq : f_X3_slotWith S x1 = some (nI pp)) (hp : pp < 16) (hbo : S.2 5 pp = 0 ∨ S.2 5 pp = 1) : CXH G yL_isSealed cL_isSealed 3 [(0, 13, 14, 32)] 3 65 0 0 [.ref ((ad 0) 0), .int x1] (fl [wXo G.2.1 (ad 0) (xF ad) svx K, wSh G.2.1 (ad 1) S]) (fun r9 w1 => r9 = S.2 5 pp ∧ w1 = fl [wXo G.2.1 (ad 0) (xF ad) svx K, wSh G.2.1 (ad 1) S]) := by
  refine CXH.of g (by decide) rfl (Nat.le_of_ble_eq_true rfl) (List.mem_of_getElem? (i := 505) (by decide +kernel)) (by rfl) ?_
  intro p l e s m below meth cm A ls hst htab F hr hlocks w hl
  generalize ([.ref ((ad 0) 0), .int x1] : List Value).toArray = args
  have hl : lv_has ls 3 [(0, .ref ((ad 0) 0)), (1, .int x1)] := hl
  have w : Wd G A s.heap (fl [wXo G.2.1 (ad 0) (xF ad) svx K, wSh G.2.1 (ad 1) S]) _ _ := w
  refine lv_aload_n F.x F.b dL_isSealed_0 rfl (lv_at hl 0 rfl) ?_
  refine lv_iload_n F.x F.b dL_isSealed_1 rfl (lv_at hl 1 rfl) ?_
  refine kXi F w hst (LC := [wXo G.2.1 (ad 0) (xF ad) svx K, wSh G.2.1 (ad 1) S]) (LR := []) (As := [.int x1]) (rest := []) (k_isSealed_ok F.1 hq hp hbo) m_X6_isSealed v_X6_isSealed q506 (ci := 10) (q0 := 0) rfl rfl rfl 2 [0, 1] rfl rfl rfl ⟨Nat.le_of_ble_eq_true rfl, Nat.le_of_ble_eq_true rfl⟩ rfl hl.1 rfl (Nat.le_of_ble_eq_true rfl) dL_isSealed_2 ⟨Nat.le_of_ble_eq_true rfl, Nat.le_of_ble_eq_true rfl⟩ (fun _ _ _ _ _ _ hx => False.elim hx) (fun r9 w1 H locs h9 w => ?_)
  obtain ⟨e9, h9⟩ := h9
  rw [show fl ([] : List va_W) = [] from rfl, List.append_nil] at w
  rcases hbo with z9 | z9
  · rw [z9] at e9
    subst e9
    refine lv_if_eq (tgt := 12) F.x F.b dL_isSealed_5 (by decide) (fun _ => ?_) (fun c9 => absurd rfl c9)
    refine lv_iconst (v := 0) F.x F.b dL_isSealed_12 (by decide) ?_
    exact eiX F w hr hlocks rfl ⟨z9.symm, h9⟩ (Nat.le_of_ble_eq_true rfl) (Nat.le_of_ble_eq_true rfl) dL_isSealed_13
  · rw [z9] at e9
    subst e9
    refine lv_if_eq (tgt := 12) F.x F.b dL_isSealed_5 (by decide) (fun c9 => absurd c9 (by decide)) (fun _ => ?_)
    refine lv_iconst (v := 1) F.x F.b dL_isSealed_8 (by decide) ?_
    refine lv_goto (tgt := 13) F.x F.b dL_isSealed_9 (by decide) ?_
    exact eiX F w hr hlocks rfl ⟨z9.symm, h9⟩ (Nat.le_of_ble_eq_true rfl) (Nat.le_of_ble_eq_true rfl) dL_isSealed_13
set_option maxRecDepth 100000 in
set_option maxHeartbeats 4000000 in
theorem l_isDamp_no {G : cG} (g : GOK G) (gM : MG G) (hNC : NcG G) {ad : Nat → Nat → Nat} {svx : Value} {K S : Mem} {x1 : Int32} (hq : f_X3_slotWith S x1 = some (-1)) : CXH G yL_isDamp cL_isDamp 3 [(0, 13, 14, 32)] 8 125 1 6 [.ref ((ad 0) 0), .int x1] (fl [wXo G.2.1 (ad 0) (xF ad) svx K, wSh G.2.1 (ad 1) S]) (fun r9 w1 => r9 = (-75) ∧ w1 = fl [wXo G.2.1 (ad 0) (xF ad) svx K, wSh G.2.1 (ad 1) S]) := by
  refine CXH.of g (by decide) rfl (Nat.le_of_ble_eq_true rfl) (List.mem_of_getElem? (i := 1387) (by decide +kernel)) (by rfl) ?_
  intro p l e s m below meth cm A ls hst htab F hr hlocks w hl
  generalize ([.ref ((ad 0) 0), .int x1] : List Value).toArray = args
  have hl : lv_has ls 3 [(0, .ref ((ad 0) 0)), (1, .int x1)] := hl
  have w : Wd G A s.heap (fl [wXo G.2.1 (ad 0) (xF ad) svx K, wSh G.2.1 (ad 1) S]) _ _ := w
  refine lv_aload_n F.x F.b dL_isDamp_0 rfl (lv_at hl 0 rfl) ?_
  refine lv_iload_n F.x F.b dL_isDamp_1 rfl (lv_at hl 1 rfl) ?_
  refine kXi F w hst (LC := [wXo G.2.1 (ad 0) (xF ad) svx K, wSh G.2.1 (ad 1) S]) (LR := []) (As := [.int x1]) (rest := []) (k_isDamp_no F.1 gM hq) m_X6_isDamp v_X6_isDamp q1388 (ci := 10) (q0 := 0) rfl rfl rfl 2 [0, 1] rfl rfl rfl ⟨Nat.le_of_ble_eq_true rfl, Nat.le_of_ble_eq_true rfl⟩ rfl hl.1 rfl (Nat.le_of_ble_eq_true rfl) dL_isDamp_2 ⟨Nat.le_of_ble_eq_true rfl, Nat.le_of_ble_eq_true rfl⟩ (fun E9 w1 ce q H locs hx w hce hcv hcl => ?_) (fun r9 w1 H locs h9 w => ?_)
  · obtain ⟨rfl, hx⟩ := hx
    rw [show fl ([] : List va_W) = [] from rfl, List.append_nil] at w
    refine vx_catch F.o (name := eNSE) (tableOf []) ⟨0, 13, 14, 32⟩ (tableOf []) htab pass_nil rfl (by decide) (F.t _ (List.mem_of_getElem? (i := 474) (by decide +kernel)) rfl _) (F.t _ (List.mem_of_getElem? (i := 489) (by decide +kernel)) rfl _) hce hcv hcl ?_
    refine lv_astore_n (lv' := [(2, .ref q), (0, .ref ((ad 0) 0)), (1, .int x1)]) F.x F.b dL_isDamp_14 rfl hl (by decide) rfl (fun ls hl => ?_)
    refine lv_bipush (v := (-75)) F.x F.b dL_isDamp_15 (by decide) ?_
    exact eiX F w hr hlocks rfl ⟨rfl, hx⟩ (Nat.le_of_ble_eq_true rfl) (Nat.le_of_ble_eq_true rfl) dL_isDamp_17
  · exact False.elim h9
set_option maxRecDepth 100000 in
set_option maxHeartbeats 4000000 in
theorem l_isDamp_ok {G : cG} (g : GOK G) {ad : Nat → Nat → Nat} {svx : Value} {K S : Mem} {x1 : Int32} {pp : Nat} (hq : f_X3_slotWith S x1 = some (nI pp)) (hp : pp < 16) (hbo : S.2 6 pp = 0 ∨ S.2 6 pp = 1) : CXH G yL_isDamp cL_isDamp 3 [(0, 13, 14, 32)] 3 65 0 0 [.ref ((ad 0) 0), .int x1] (fl [wXo G.2.1 (ad 0) (xF ad) svx K, wSh G.2.1 (ad 1) S]) (fun r9 w1 => r9 = S.2 6 pp ∧ w1 = fl [wXo G.2.1 (ad 0) (xF ad) svx K, wSh G.2.1 (ad 1) S]) := by
  refine CXH.of g (by decide) rfl (Nat.le_of_ble_eq_true rfl) (List.mem_of_getElem? (i := 1387) (by decide +kernel)) (by rfl) ?_
  intro p l e s m below meth cm A ls hst htab F hr hlocks w hl
  generalize ([.ref ((ad 0) 0), .int x1] : List Value).toArray = args
  have hl : lv_has ls 3 [(0, .ref ((ad 0) 0)), (1, .int x1)] := hl
  have w : Wd G A s.heap (fl [wXo G.2.1 (ad 0) (xF ad) svx K, wSh G.2.1 (ad 1) S]) _ _ := w
  refine lv_aload_n F.x F.b dL_isDamp_0 rfl (lv_at hl 0 rfl) ?_
  refine lv_iload_n F.x F.b dL_isDamp_1 rfl (lv_at hl 1 rfl) ?_
  refine kXi F w hst (LC := [wXo G.2.1 (ad 0) (xF ad) svx K, wSh G.2.1 (ad 1) S]) (LR := []) (As := [.int x1]) (rest := []) (k_isDamp_ok F.1 hq hp hbo) m_X6_isDamp v_X6_isDamp q1388 (ci := 10) (q0 := 0) rfl rfl rfl 2 [0, 1] rfl rfl rfl ⟨Nat.le_of_ble_eq_true rfl, Nat.le_of_ble_eq_true rfl⟩ rfl hl.1 rfl (Nat.le_of_ble_eq_true rfl) dL_isDamp_2 ⟨Nat.le_of_ble_eq_true rfl, Nat.le_of_ble_eq_true rfl⟩ (fun _ _ _ _ _ _ hx => False.elim hx) (fun r9 w1 H locs h9 w => ?_)
  obtain ⟨e9, h9⟩ := h9
  rw [show fl ([] : List va_W) = [] from rfl, List.append_nil] at w
  rcases hbo with z9 | z9
  · rw [z9] at e9
    subst e9
    refine lv_if_eq (tgt := 12) F.x F.b dL_isDamp_5 (by decide) (fun _ => ?_) (fun c9 => absurd rfl c9)
    refine lv_iconst (v := 0) F.x F.b dL_isDamp_12 (by decide) ?_
    exact eiX F w hr hlocks rfl ⟨z9.symm, h9⟩ (Nat.le_of_ble_eq_true rfl) (Nat.le_of_ble_eq_true rfl) dL_isDamp_13
  · rw [z9] at e9
    subst e9
    refine lv_if_eq (tgt := 12) F.x F.b dL_isDamp_5 (by decide) (fun c9 => absurd c9 (by decide)) (fun _ => ?_)
    refine lv_iconst (v := 1) F.x F.b dL_isDamp_8 (by decide) ?_
    refine lv_goto (tgt := 13) F.x F.b dL_isDamp_9 (by decide) ?_
    exact eiX F w hr hlocks rfl ⟨z9.symm, h9⟩ (Nat.le_of_ble_eq_true rfl) (Nat.le_of_ble_eq_true rfl) dL_isDamp_13
set_option maxRecDepth 100000 in
set_option maxHeartbeats 4000000 in
theorem l_value_no {G : cG} (g : GOK G) (gM : MG G) (hNC : NcG G) {ad : Nat → Nat → Nat} {svx : Value} {K S : Mem} {x1 : Int32} (hq : f_X3_slotWith S x1 = some (-1)) : CXH G yL_value cL_value 3 [(0, 5, 6, 32)] 8 125 1 6 [.ref ((ad 0) 0), .int x1] (fl [wXo G.2.1 (ad 0) (xF ad) svx K, wSh G.2.1 (ad 1) S]) (fun r9 w1 => r9 = (-75) ∧ w1 = fl [wXo G.2.1 (ad 0) (xF ad) svx K, wSh G.2.1 (ad 1) S]) := by
  refine CXH.of g (by decide) rfl (Nat.le_of_ble_eq_true rfl) (List.mem_of_getElem? (i := 1368) (by decide +kernel)) (by rfl) ?_
  intro p l e s m below meth cm A ls hst htab F hr hlocks w hl
  generalize ([.ref ((ad 0) 0), .int x1] : List Value).toArray = args
  have hl : lv_has ls 3 [(0, .ref ((ad 0) 0)), (1, .int x1)] := hl
  have w : Wd G A s.heap (fl [wXo G.2.1 (ad 0) (xF ad) svx K, wSh G.2.1 (ad 1) S]) _ _ := w
  refine lv_aload_n F.x F.b dL_value_0 rfl (lv_at hl 0 rfl) ?_
  refine lv_iload_n F.x F.b dL_value_1 rfl (lv_at hl 1 rfl) ?_
  refine kXi F w hst (LC := [wXo G.2.1 (ad 0) (xF ad) svx K, wSh G.2.1 (ad 1) S]) (LR := []) (As := [.int x1]) (rest := []) (k_value_no F.1 gM hq) m_X6_value v_X6_value q1369 (ci := 10) (q0 := 0) rfl rfl rfl 2 [0, 1] rfl rfl rfl ⟨Nat.le_of_ble_eq_true rfl, Nat.le_of_ble_eq_true rfl⟩ rfl hl.1 rfl (Nat.le_of_ble_eq_true rfl) dL_value_2 ⟨Nat.le_of_ble_eq_true rfl, Nat.le_of_ble_eq_true rfl⟩ (fun E9 w1 ce q H locs hx w hce hcv hcl => ?_) (fun r9 w1 H locs h9 w => ?_)
  · obtain ⟨rfl, hx⟩ := hx
    rw [show fl ([] : List va_W) = [] from rfl, List.append_nil] at w
    refine vx_catch F.o (name := eNSE) (tableOf []) ⟨0, 5, 6, 32⟩ (tableOf []) htab pass_nil rfl (by decide) (F.t _ (List.mem_of_getElem? (i := 474) (by decide +kernel)) rfl _) (F.t _ (List.mem_of_getElem? (i := 489) (by decide +kernel)) rfl _) hce hcv hcl ?_
    refine lv_astore_n (lv' := [(2, .ref q), (0, .ref ((ad 0) 0)), (1, .int x1)]) F.x F.b dL_value_6 rfl hl (by decide) rfl (fun ls hl => ?_)
    refine lv_bipush (v := (-75)) F.x F.b dL_value_7 (by decide) ?_
    exact eiX F w hr hlocks rfl ⟨rfl, hx⟩ (Nat.le_of_ble_eq_true rfl) (Nat.le_of_ble_eq_true rfl) dL_value_9
  · exact False.elim h9
set_option maxRecDepth 100000 in
set_option maxHeartbeats 4000000 in
theorem l_value_ok {G : cG} (g : GOK G) {ad : Nat → Nat → Nat} {svx : Value} {K S : Mem} {x1 : Int32} {pp : Nat} (hq : f_X3_slotWith S x1 = some (nI pp)) (hp : pp < 16) : CXH G yL_value cL_value 3 [(0, 5, 6, 32)] 3 65 0 0 [.ref ((ad 0) 0), .int x1] (fl [wXo G.2.1 (ad 0) (xF ad) svx K, wSh G.2.1 (ad 1) S]) (fun r9 w1 => r9 = (S.2 2 pp * S.2 3 pp) ∧ w1 = fl [wXo G.2.1 (ad 0) (xF ad) svx K, wSh G.2.1 (ad 1) S]) := by
  refine CXH.of g (by decide) rfl (Nat.le_of_ble_eq_true rfl) (List.mem_of_getElem? (i := 1368) (by decide +kernel)) (by rfl) ?_
  intro p l e s m below meth cm A ls hst htab F hr hlocks w hl
  generalize ([.ref ((ad 0) 0), .int x1] : List Value).toArray = args
  have hl : lv_has ls 3 [(0, .ref ((ad 0) 0)), (1, .int x1)] := hl
  have w : Wd G A s.heap (fl [wXo G.2.1 (ad 0) (xF ad) svx K, wSh G.2.1 (ad 1) S]) _ _ := w
  refine lv_aload_n F.x F.b dL_value_0 rfl (lv_at hl 0 rfl) ?_
  refine lv_iload_n F.x F.b dL_value_1 rfl (lv_at hl 1 rfl) ?_
  refine kXi F w hst (LC := [wXo G.2.1 (ad 0) (xF ad) svx K, wSh G.2.1 (ad 1) S]) (LR := []) (As := [.int x1]) (rest := []) (k_value_ok F.1 hq hp) m_X6_value v_X6_value q1369 (ci := 10) (q0 := 0) rfl rfl rfl 2 [0, 1] rfl rfl rfl ⟨Nat.le_of_ble_eq_true rfl, Nat.le_of_ble_eq_true rfl⟩ rfl hl.1 rfl (Nat.le_of_ble_eq_true rfl) dL_value_2 ⟨Nat.le_of_ble_eq_true rfl, Nat.le_of_ble_eq_true rfl⟩ (fun _ _ _ _ _ _ hx => False.elim hx) (fun r9 w1 H locs h9 w => ?_)
  rw [show fl ([] : List va_W) = [] from rfl, List.append_nil] at w
  exact eiX F w hr hlocks rfl h9 (Nat.le_of_ble_eq_true rfl) (Nat.le_of_ble_eq_true rfl) dL_value_5
set_option maxRecDepth 100000 in
set_option maxHeartbeats 4000000 in
theorem l_duty_no {G : cG} (g : GOK G) (gM : MG G) (hNC : NcG G) {ad : Nat → Nat → Nat} {svx : Value} {K S : Mem} {x1 : Int32} (hq : f_X3_slotWith S x1 = some (-1)) : CXH G yL_duty cL_duty 3 [(0, 5, 6, 32)] 8 125 1 6 [.ref ((ad 0) 0), .int x1] (fl [wXo G.2.1 (ad 0) (xF ad) svx K, wSh G.2.1 (ad 1) S]) (fun r9 w1 => r9 = (-75) ∧ w1 = fl [wXo G.2.1 (ad 0) (xF ad) svx K, wSh G.2.1 (ad 1) S]) := by
  refine CXH.of g (by decide) rfl (Nat.le_of_ble_eq_true rfl) (List.mem_of_getElem? (i := 512) (by decide +kernel)) (by rfl) ?_
  intro p l e s m below meth cm A ls hst htab F hr hlocks w hl
  generalize ([.ref ((ad 0) 0), .int x1] : List Value).toArray = args
  have hl : lv_has ls 3 [(0, .ref ((ad 0) 0)), (1, .int x1)] := hl
  have w : Wd G A s.heap (fl [wXo G.2.1 (ad 0) (xF ad) svx K, wSh G.2.1 (ad 1) S]) _ _ := w
  refine lv_aload_n F.x F.b dL_duty_0 rfl (lv_at hl 0 rfl) ?_
  refine lv_iload_n F.x F.b dL_duty_1 rfl (lv_at hl 1 rfl) ?_
  refine kXi F w hst (LC := [wXo G.2.1 (ad 0) (xF ad) svx K, wSh G.2.1 (ad 1) S]) (LR := []) (As := [.int x1]) (rest := []) (k_duty_no F.1 gM hq) m_X6_duty v_X6_duty q513 (ci := 10) (q0 := 0) rfl rfl rfl 2 [0, 1] rfl rfl rfl ⟨Nat.le_of_ble_eq_true rfl, Nat.le_of_ble_eq_true rfl⟩ rfl hl.1 rfl (Nat.le_of_ble_eq_true rfl) dL_duty_2 ⟨Nat.le_of_ble_eq_true rfl, Nat.le_of_ble_eq_true rfl⟩ (fun E9 w1 ce q H locs hx w hce hcv hcl => ?_) (fun r9 w1 H locs h9 w => ?_)
  · obtain ⟨rfl, hx⟩ := hx
    rw [show fl ([] : List va_W) = [] from rfl, List.append_nil] at w
    refine vx_catch F.o (name := eNSE) (tableOf []) ⟨0, 5, 6, 32⟩ (tableOf []) htab pass_nil rfl (by decide) (F.t _ (List.mem_of_getElem? (i := 474) (by decide +kernel)) rfl _) (F.t _ (List.mem_of_getElem? (i := 489) (by decide +kernel)) rfl _) hce hcv hcl ?_
    refine lv_astore_n (lv' := [(2, .ref q), (0, .ref ((ad 0) 0)), (1, .int x1)]) F.x F.b dL_duty_6 rfl hl (by decide) rfl (fun ls hl => ?_)
    refine lv_bipush (v := (-75)) F.x F.b dL_duty_7 (by decide) ?_
    exact eiX F w hr hlocks rfl ⟨rfl, hx⟩ (Nat.le_of_ble_eq_true rfl) (Nat.le_of_ble_eq_true rfl) dL_duty_9
  · exact False.elim h9
set_option maxRecDepth 100000 in
set_option maxHeartbeats 4000000 in
theorem l_duty_ok {G : cG} (g : GOK G) {ad : Nat → Nat → Nat} {svx : Value} {K S : Mem} {x1 : Int32} {pp : Nat} (hq : f_X3_slotWith S x1 = some (nI pp)) (hp : pp < 16) {rr : Int32} (hd : f_X4_dutyOf S (nI pp) = some rr) : CXH G yL_duty cL_duty 3 [(0, 5, 6, 32)] 4 88 0 0 [.ref ((ad 0) 0), .int x1] (fl [wXo G.2.1 (ad 0) (xF ad) svx K, wSh G.2.1 (ad 1) S]) (fun r9 w1 => r9 = rr ∧ w1 = fl [wXo G.2.1 (ad 0) (xF ad) svx K, wSh G.2.1 (ad 1) S]) := by
  refine CXH.of g (by decide) rfl (Nat.le_of_ble_eq_true rfl) (List.mem_of_getElem? (i := 512) (by decide +kernel)) (by rfl) ?_
  intro p l e s m below meth cm A ls hst htab F hr hlocks w hl
  generalize ([.ref ((ad 0) 0), .int x1] : List Value).toArray = args
  have hl : lv_has ls 3 [(0, .ref ((ad 0) 0)), (1, .int x1)] := hl
  have w : Wd G A s.heap (fl [wXo G.2.1 (ad 0) (xF ad) svx K, wSh G.2.1 (ad 1) S]) _ _ := w
  refine lv_aload_n F.x F.b dL_duty_0 rfl (lv_at hl 0 rfl) ?_
  refine lv_iload_n F.x F.b dL_duty_1 rfl (lv_at hl 1 rfl) ?_
  refine kXi F w hst (LC := [wXo G.2.1 (ad 0) (xF ad) svx K, wSh G.2.1 (ad 1) S]) (LR := []) (As := [.int x1]) (rest := []) (k_duty_ok F.1 hq hp hd) m_X6_duty v_X6_duty q513 (ci := 10) (q0 := 0) rfl rfl rfl 2 [0, 1] rfl rfl rfl ⟨Nat.le_of_ble_eq_true rfl, Nat.le_of_ble_eq_true rfl⟩ rfl hl.1 rfl (Nat.le_of_ble_eq_true rfl) dL_duty_2 ⟨Nat.le_of_ble_eq_true rfl, Nat.le_of_ble_eq_true rfl⟩ (fun _ _ _ _ _ _ hx => False.elim hx) (fun r9 w1 H locs h9 w => ?_)
  rw [show fl ([] : List va_W) = [] from rfl, List.append_nil] at w
  exact eiX F w hr hlocks rfl h9 (Nat.le_of_ble_eq_true rfl) (Nat.le_of_ble_eq_true rfl) dL_duty_5
set_option maxRecDepth 100000 in
set_option maxHeartbeats 4000000 in
theorem l_lot_no {G : cG} (g : GOK G) (gM : MG G) (hNC : NcG G) {ad : Nat → Nat → Nat} {svx : Value} {K S : Mem} {x1 : Int32} (hi : x1 < 0 ∨ S.1 0 ≤ x1) : CXH G yL_lot cL_lot 3 [(0, 5, 6, 20)] 8 125 1 6 [.ref ((ad 0) 0), .int x1] (fl [wXo G.2.1 (ad 0) (xF ad) svx K, wSh G.2.1 (ad 1) S]) (fun r9 w1 => r9 = (-77) ∧ w1 = fl [wXo G.2.1 (ad 0) (xF ad) svx K, wSh G.2.1 (ad 1) S]) := by
  refine CXH.of g (by decide) rfl (Nat.le_of_ble_eq_true rfl) (List.mem_of_getElem? (i := 362) (by decide +kernel)) (by rfl) ?_
  intro p l e s m below meth cm A ls hst htab F hr hlocks w hl
  generalize ([.ref ((ad 0) 0), .int x1] : List Value).toArray = args
  have hl : lv_has ls 3 [(0, .ref ((ad 0) 0)), (1, .int x1)] := hl
  have w : Wd G A s.heap (fl [wXo G.2.1 (ad 0) (xF ad) svx K, wSh G.2.1 (ad 1) S]) _ _ := w
  refine lv_aload_n F.x F.b dL_lot_0 rfl (lv_at hl 0 rfl) ?_
  refine lv_iload_n F.x F.b dL_lot_1 rfl (lv_at hl 1 rfl) ?_
  refine kXi F w hst (LC := [wXo G.2.1 (ad 0) (xF ad) svx K, wSh G.2.1 (ad 1) S]) (LR := []) (As := [.int x1]) (rest := []) (k_lot_no F.1 gM hi) m_X6_lot v_X6_lot q443 (ci := 10) (q0 := 0) rfl rfl rfl 2 [0, 1] rfl rfl rfl ⟨Nat.le_of_ble_eq_true rfl, Nat.le_of_ble_eq_true rfl⟩ rfl hl.1 rfl (Nat.le_of_ble_eq_true rfl) dL_lot_2 ⟨Nat.le_of_ble_eq_true rfl, Nat.le_of_ble_eq_true rfl⟩ (fun E9 w1 ce q H locs hx w hce hcv hcl => ?_) (fun r9 w1 H locs h9 w => ?_)
  · obtain ⟨rfl, hx⟩ := hx
    rw [show fl ([] : List va_W) = [] from rfl, List.append_nil] at w
    refine vx_catch F.o (name := eIOB) (tableOf []) ⟨0, 5, 6, 20⟩ (tableOf []) htab pass_nil rfl (by decide) (F.t _ (List.mem_of_getElem? (i := 363) (by decide +kernel)) rfl _) (F.t _ (List.mem_of_getElem? (i := 452) (by decide +kernel)) rfl _) hce hcv hcl ?_
    refine lv_astore_n (lv' := [(2, .ref q), (0, .ref ((ad 0) 0)), (1, .int x1)]) F.x F.b dL_lot_6 rfl hl (by decide) rfl (fun ls hl => ?_)
    refine lv_bipush (v := (-77)) F.x F.b dL_lot_7 (by decide) ?_
    exact eiX F w hr hlocks rfl ⟨rfl, hx⟩ (Nat.le_of_ble_eq_true rfl) (Nat.le_of_ble_eq_true rfl) dL_lot_9
  · exact False.elim h9
set_option maxRecDepth 100000 in
set_option maxHeartbeats 4000000 in
theorem l_lot_ok {G : cG} (g : GOK G) {ad : Nat → Nat → Nat} {svx : Value} {K S : Mem} {kk mm : Nat} (em : S.1 0 = nI mm) (hk : kk < mm) (hm : mm ≤ 16) : CXH G yL_lot cL_lot 3 [(0, 5, 6, 20)] 2 42 0 0 [.ref ((ad 0) 0), .int (nI kk)] (fl [wXo G.2.1 (ad 0) (xF ad) svx K, wSh G.2.1 (ad 1) S]) (fun r9 w1 => r9 = S.2 0 kk ∧ w1 = fl [wXo G.2.1 (ad 0) (xF ad) svx K, wSh G.2.1 (ad 1) S]) := by
  refine CXH.of g (by decide) rfl (Nat.le_of_ble_eq_true rfl) (List.mem_of_getElem? (i := 362) (by decide +kernel)) (by rfl) ?_
  intro p l e s m below meth cm A ls hst htab F hr hlocks w hl
  generalize ([.ref ((ad 0) 0), .int (nI kk)] : List Value).toArray = args
  have hl : lv_has ls 3 [(0, .ref ((ad 0) 0)), (1, .int (nI kk))] := hl
  have w : Wd G A s.heap (fl [wXo G.2.1 (ad 0) (xF ad) svx K, wSh G.2.1 (ad 1) S]) _ _ := w
  refine lv_aload_n F.x F.b dL_lot_0 rfl (lv_at hl 0 rfl) ?_
  refine lv_iload_n F.x F.b dL_lot_1 rfl (lv_at hl 1 rfl) ?_
  refine kXi F w hst (LC := [wXo G.2.1 (ad 0) (xF ad) svx K, wSh G.2.1 (ad 1) S]) (LR := []) (As := [.int (nI kk)]) (rest := []) (k_lot_ok F.1 em hk hm) m_X6_lot v_X6_lot q443 (ci := 10) (q0 := 0) rfl rfl rfl 2 [0, 1] rfl rfl rfl ⟨Nat.le_of_ble_eq_true rfl, Nat.le_of_ble_eq_true rfl⟩ rfl hl.1 rfl (Nat.le_of_ble_eq_true rfl) dL_lot_2 ⟨Nat.le_of_ble_eq_true rfl, Nat.le_of_ble_eq_true rfl⟩ (fun _ _ _ _ _ _ hx => False.elim hx) (fun r9 w1 H locs h9 w => ?_)
  rw [show fl ([] : List va_W) = [] from rfl, List.append_nil] at w
  exact eiX F w hr hlocks rfl h9 (Nat.le_of_ble_eq_true rfl) (Nat.le_of_ble_eq_true rfl) dL_lot_5
set_option maxRecDepth 100000 in
set_option maxHeartbeats 4000000 in
theorem l_threshold_no {G : cG} (g : GOK G) (gM : MG G) (hNC : NcG G) {ad : Nat → Nat → Nat} {svx : Value} {K S : Mem} {x1 : Int32} (hi : x1 < 0 ∨ S.1 2 ≤ x1) : CXH G yL_threshold cL_threshold 3 [(0, 5, 6, 20)] 8 125 1 6 [.ref ((ad 0) 0), .int x1] (fl [wXo G.2.1 (ad 0) (xF ad) svx K, wSh G.2.1 (ad 1) S]) (fun r9 w1 => r9 = (-77) ∧ w1 = fl [wXo G.2.1 (ad 0) (xF ad) svx K, wSh G.2.1 (ad 1) S]) := by
  refine CXH.of g (by decide) rfl (Nat.le_of_ble_eq_true rfl) (List.mem_of_getElem? (i := 1274) (by decide +kernel)) (by rfl) ?_
  intro p l e s m below meth cm A ls hst htab F hr hlocks w hl
  generalize ([.ref ((ad 0) 0), .int x1] : List Value).toArray = args
  have hl : lv_has ls 3 [(0, .ref ((ad 0) 0)), (1, .int x1)] := hl
  have w : Wd G A s.heap (fl [wXo G.2.1 (ad 0) (xF ad) svx K, wSh G.2.1 (ad 1) S]) _ _ := w
  refine lv_aload_n F.x F.b dL_threshold_0 rfl (lv_at hl 0 rfl) ?_
  refine lv_iload_n F.x F.b dL_threshold_1 rfl (lv_at hl 1 rfl) ?_
  refine kXi F w hst (LC := [wXo G.2.1 (ad 0) (xF ad) svx K, wSh G.2.1 (ad 1) S]) (LR := []) (As := [.int x1]) (rest := []) (k_threshold_no F.1 gM hi) m_X6_threshold v_X6_threshold q1275 (ci := 10) (q0 := 0) rfl rfl rfl 2 [0, 1] rfl rfl rfl ⟨Nat.le_of_ble_eq_true rfl, Nat.le_of_ble_eq_true rfl⟩ rfl hl.1 rfl (Nat.le_of_ble_eq_true rfl) dL_threshold_2 ⟨Nat.le_of_ble_eq_true rfl, Nat.le_of_ble_eq_true rfl⟩ (fun E9 w1 ce q H locs hx w hce hcv hcl => ?_) (fun r9 w1 H locs h9 w => ?_)
  · obtain ⟨rfl, hx⟩ := hx
    rw [show fl ([] : List va_W) = [] from rfl, List.append_nil] at w
    refine vx_catch F.o (name := eIOB) (tableOf []) ⟨0, 5, 6, 20⟩ (tableOf []) htab pass_nil rfl (by decide) (F.t _ (List.mem_of_getElem? (i := 363) (by decide +kernel)) rfl _) (F.t _ (List.mem_of_getElem? (i := 452) (by decide +kernel)) rfl _) hce hcv hcl ?_
    refine lv_astore_n (lv' := [(2, .ref q), (0, .ref ((ad 0) 0)), (1, .int x1)]) F.x F.b dL_threshold_6 rfl hl (by decide) rfl (fun ls hl => ?_)
    refine lv_bipush (v := (-77)) F.x F.b dL_threshold_7 (by decide) ?_
    exact eiX F w hr hlocks rfl ⟨rfl, hx⟩ (Nat.le_of_ble_eq_true rfl) (Nat.le_of_ble_eq_true rfl) dL_threshold_9
  · exact False.elim h9
set_option maxRecDepth 100000 in
set_option maxHeartbeats 4000000 in
theorem l_threshold_ok {G : cG} (g : GOK G) {ad : Nat → Nat → Nat} {svx : Value} {K S : Mem} {kk mm : Nat} (em : S.1 2 = nI mm) (hk : kk < mm) (hm : mm ≤ 6) : CXH G yL_threshold cL_threshold 3 [(0, 5, 6, 20)] 2 42 0 0 [.ref ((ad 0) 0), .int (nI kk)] (fl [wXo G.2.1 (ad 0) (xF ad) svx K, wSh G.2.1 (ad 1) S]) (fun r9 w1 => r9 = S.2 7 kk ∧ w1 = fl [wXo G.2.1 (ad 0) (xF ad) svx K, wSh G.2.1 (ad 1) S]) := by
  refine CXH.of g (by decide) rfl (Nat.le_of_ble_eq_true rfl) (List.mem_of_getElem? (i := 1274) (by decide +kernel)) (by rfl) ?_
  intro p l e s m below meth cm A ls hst htab F hr hlocks w hl
  generalize ([.ref ((ad 0) 0), .int (nI kk)] : List Value).toArray = args
  have hl : lv_has ls 3 [(0, .ref ((ad 0) 0)), (1, .int (nI kk))] := hl
  have w : Wd G A s.heap (fl [wXo G.2.1 (ad 0) (xF ad) svx K, wSh G.2.1 (ad 1) S]) _ _ := w
  refine lv_aload_n F.x F.b dL_threshold_0 rfl (lv_at hl 0 rfl) ?_
  refine lv_iload_n F.x F.b dL_threshold_1 rfl (lv_at hl 1 rfl) ?_
  refine kXi F w hst (LC := [wXo G.2.1 (ad 0) (xF ad) svx K, wSh G.2.1 (ad 1) S]) (LR := []) (As := [.int (nI kk)]) (rest := []) (k_threshold_ok F.1 em hk hm) m_X6_threshold v_X6_threshold q1275 (ci := 10) (q0 := 0) rfl rfl rfl 2 [0, 1] rfl rfl rfl ⟨Nat.le_of_ble_eq_true rfl, Nat.le_of_ble_eq_true rfl⟩ rfl hl.1 rfl (Nat.le_of_ble_eq_true rfl) dL_threshold_2 ⟨Nat.le_of_ble_eq_true rfl, Nat.le_of_ble_eq_true rfl⟩ (fun _ _ _ _ _ _ hx => False.elim hx) (fun r9 w1 H locs h9 w => ?_)
  rw [show fl ([] : List va_W) = [] from rfl, List.append_nil] at w
  exact eiX F w hr hlocks rfl h9 (Nat.le_of_ble_eq_true rfl) (Nat.le_of_ble_eq_true rfl) dL_threshold_5
set_option maxRecDepth 100000 in
set_option maxHeartbeats 4000000 in
theorem l_rate_no {G : cG} (g : GOK G) (gM : MG G) (hNC : NcG G) {ad : Nat → Nat → Nat} {svx : Value} {K S : Mem} {x1 : Int32} (hi : x1 < 0 ∨ S.1 2 ≤ x1) : CXH G yL_rate cL_rate 3 [(0, 5, 6, 20)] 8 125 1 6 [.ref ((ad 0) 0), .int x1] (fl [wXo G.2.1 (ad 0) (xF ad) svx K, wSh G.2.1 (ad 1) S]) (fun r9 w1 => r9 = (-77) ∧ w1 = fl [wXo G.2.1 (ad 0) (xF ad) svx K, wSh G.2.1 (ad 1) S]) := by
  refine CXH.of g (by decide) rfl (Nat.le_of_ble_eq_true rfl) (List.mem_of_getElem? (i := 1281) (by decide +kernel)) (by rfl) ?_
  intro p l e s m below meth cm A ls hst htab F hr hlocks w hl
  generalize ([.ref ((ad 0) 0), .int x1] : List Value).toArray = args
  have hl : lv_has ls 3 [(0, .ref ((ad 0) 0)), (1, .int x1)] := hl
  have w : Wd G A s.heap (fl [wXo G.2.1 (ad 0) (xF ad) svx K, wSh G.2.1 (ad 1) S]) _ _ := w
  refine lv_aload_n F.x F.b dL_rate_0 rfl (lv_at hl 0 rfl) ?_
  refine lv_iload_n F.x F.b dL_rate_1 rfl (lv_at hl 1 rfl) ?_
  refine kXi F w hst (LC := [wXo G.2.1 (ad 0) (xF ad) svx K, wSh G.2.1 (ad 1) S]) (LR := []) (As := [.int x1]) (rest := []) (k_rate_no F.1 gM hi) m_X6_rate v_X6_rate q1282 (ci := 10) (q0 := 0) rfl rfl rfl 2 [0, 1] rfl rfl rfl ⟨Nat.le_of_ble_eq_true rfl, Nat.le_of_ble_eq_true rfl⟩ rfl hl.1 rfl (Nat.le_of_ble_eq_true rfl) dL_rate_2 ⟨Nat.le_of_ble_eq_true rfl, Nat.le_of_ble_eq_true rfl⟩ (fun E9 w1 ce q H locs hx w hce hcv hcl => ?_) (fun r9 w1 H locs h9 w => ?_)
  · obtain ⟨rfl, hx⟩ := hx
    rw [show fl ([] : List va_W) = [] from rfl, List.append_nil] at w
    refine vx_catch F.o (name := eIOB) (tableOf []) ⟨0, 5, 6, 20⟩ (tableOf []) htab pass_nil rfl (by decide) (F.t _ (List.mem_of_getElem? (i := 363) (by decide +kernel)) rfl _) (F.t _ (List.mem_of_getElem? (i := 452) (by decide +kernel)) rfl _) hce hcv hcl ?_
    refine lv_astore_n (lv' := [(2, .ref q), (0, .ref ((ad 0) 0)), (1, .int x1)]) F.x F.b dL_rate_6 rfl hl (by decide) rfl (fun ls hl => ?_)
    refine lv_bipush (v := (-77)) F.x F.b dL_rate_7 (by decide) ?_
    exact eiX F w hr hlocks rfl ⟨rfl, hx⟩ (Nat.le_of_ble_eq_true rfl) (Nat.le_of_ble_eq_true rfl) dL_rate_9
  · exact False.elim h9
set_option maxRecDepth 100000 in
set_option maxHeartbeats 4000000 in
theorem l_rate_ok {G : cG} (g : GOK G) {ad : Nat → Nat → Nat} {svx : Value} {K S : Mem} {kk mm : Nat} (em : S.1 2 = nI mm) (hk : kk < mm) (hm : mm ≤ 6) : CXH G yL_rate cL_rate 3 [(0, 5, 6, 20)] 2 42 0 0 [.ref ((ad 0) 0), .int (nI kk)] (fl [wXo G.2.1 (ad 0) (xF ad) svx K, wSh G.2.1 (ad 1) S]) (fun r9 w1 => r9 = S.2 8 kk ∧ w1 = fl [wXo G.2.1 (ad 0) (xF ad) svx K, wSh G.2.1 (ad 1) S]) := by
  refine CXH.of g (by decide) rfl (Nat.le_of_ble_eq_true rfl) (List.mem_of_getElem? (i := 1281) (by decide +kernel)) (by rfl) ?_
  intro p l e s m below meth cm A ls hst htab F hr hlocks w hl
  generalize ([.ref ((ad 0) 0), .int (nI kk)] : List Value).toArray = args
  have hl : lv_has ls 3 [(0, .ref ((ad 0) 0)), (1, .int (nI kk))] := hl
  have w : Wd G A s.heap (fl [wXo G.2.1 (ad 0) (xF ad) svx K, wSh G.2.1 (ad 1) S]) _ _ := w
  refine lv_aload_n F.x F.b dL_rate_0 rfl (lv_at hl 0 rfl) ?_
  refine lv_iload_n F.x F.b dL_rate_1 rfl (lv_at hl 1 rfl) ?_
  refine kXi F w hst (LC := [wXo G.2.1 (ad 0) (xF ad) svx K, wSh G.2.1 (ad 1) S]) (LR := []) (As := [.int (nI kk)]) (rest := []) (k_rate_ok F.1 em hk hm) m_X6_rate v_X6_rate q1282 (ci := 10) (q0 := 0) rfl rfl rfl 2 [0, 1] rfl rfl rfl ⟨Nat.le_of_ble_eq_true rfl, Nat.le_of_ble_eq_true rfl⟩ rfl hl.1 rfl (Nat.le_of_ble_eq_true rfl) dL_rate_2 ⟨Nat.le_of_ble_eq_true rfl, Nat.le_of_ble_eq_true rfl⟩ (fun _ _ _ _ _ _ hx => False.elim hx) (fun r9 w1 H locs h9 w => ?_)
  rw [show fl ([] : List va_W) = [] from rfl, List.append_nil] at w
  exact eiX F w hr hlocks rfl h9 (Nat.le_of_ble_eq_true rfl) (Nat.le_of_ble_eq_true rfl) dL_rate_5
set_option maxRecDepth 100000 in
set_option maxHeartbeats 4000000 in
theorem l_queued_no {G : cG} (g : GOK G) (gM : MG G) (hNC : NcG G) {ad : Nat → Nat → Nat} {svx : Value} {K S : Mem} {x1 : Int32} (hi : x1 < 0 ∨ S.1 7 ≤ x1) : CXH G yL_queued cL_queued 3 [(0, 5, 6, 20)] 8 125 1 6 [.ref ((ad 0) 0), .int x1] (fl [wXo G.2.1 (ad 0) (xF ad) svx K, wSh G.2.1 (ad 1) S]) (fun r9 w1 => r9 = (-77) ∧ w1 = fl [wXo G.2.1 (ad 0) (xF ad) svx K, wSh G.2.1 (ad 1) S]) := by
  refine CXH.of g (by decide) rfl (Nat.le_of_ble_eq_true rfl) (List.mem_of_getElem? (i := 599) (by decide +kernel)) (by rfl) ?_
  intro p l e s m below meth cm A ls hst htab F hr hlocks w hl
  generalize ([.ref ((ad 0) 0), .int x1] : List Value).toArray = args
  have hl : lv_has ls 3 [(0, .ref ((ad 0) 0)), (1, .int x1)] := hl
  have w : Wd G A s.heap (fl [wXo G.2.1 (ad 0) (xF ad) svx K, wSh G.2.1 (ad 1) S]) _ _ := w
  refine lv_aload_n F.x F.b dL_queued_0 rfl (lv_at hl 0 rfl) ?_
  refine lv_iload_n F.x F.b dL_queued_1 rfl (lv_at hl 1 rfl) ?_
  refine kXi F w hst (LC := [wXo G.2.1 (ad 0) (xF ad) svx K, wSh G.2.1 (ad 1) S]) (LR := []) (As := [.int x1]) (rest := []) (k_queued_no F.1 gM hi) m_X6_queued v_X6_queued q600 (ci := 10) (q0 := 0) rfl rfl rfl 2 [0, 1] rfl rfl rfl ⟨Nat.le_of_ble_eq_true rfl, Nat.le_of_ble_eq_true rfl⟩ rfl hl.1 rfl (Nat.le_of_ble_eq_true rfl) dL_queued_2 ⟨Nat.le_of_ble_eq_true rfl, Nat.le_of_ble_eq_true rfl⟩ (fun E9 w1 ce q H locs hx w hce hcv hcl => ?_) (fun r9 w1 H locs h9 w => ?_)
  · obtain ⟨rfl, hx⟩ := hx
    rw [show fl ([] : List va_W) = [] from rfl, List.append_nil] at w
    refine vx_catch F.o (name := eIOB) (tableOf []) ⟨0, 5, 6, 20⟩ (tableOf []) htab pass_nil rfl (by decide) (F.t _ (List.mem_of_getElem? (i := 363) (by decide +kernel)) rfl _) (F.t _ (List.mem_of_getElem? (i := 452) (by decide +kernel)) rfl _) hce hcv hcl ?_
    refine lv_astore_n (lv' := [(2, .ref q), (0, .ref ((ad 0) 0)), (1, .int x1)]) F.x F.b dL_queued_6 rfl hl (by decide) rfl (fun ls hl => ?_)
    refine lv_bipush (v := (-77)) F.x F.b dL_queued_7 (by decide) ?_
    exact eiX F w hr hlocks rfl ⟨rfl, hx⟩ (Nat.le_of_ble_eq_true rfl) (Nat.le_of_ble_eq_true rfl) dL_queued_9
  · exact False.elim h9
set_option maxRecDepth 100000 in
set_option maxHeartbeats 4000000 in
theorem l_queued_ok {G : cG} (g : GOK G) {ad : Nat → Nat → Nat} {svx : Value} {K S : Mem} {kk mm : Nat} (em : S.1 7 = nI mm) (hk : kk < mm) (hm : mm ≤ 16) : CXH G yL_queued cL_queued 3 [(0, 5, 6, 20)] 2 42 0 0 [.ref ((ad 0) 0), .int (nI kk)] (fl [wXo G.2.1 (ad 0) (xF ad) svx K, wSh G.2.1 (ad 1) S]) (fun r9 w1 => r9 = S.2 9 kk ∧ w1 = fl [wXo G.2.1 (ad 0) (xF ad) svx K, wSh G.2.1 (ad 1) S]) := by
  refine CXH.of g (by decide) rfl (Nat.le_of_ble_eq_true rfl) (List.mem_of_getElem? (i := 599) (by decide +kernel)) (by rfl) ?_
  intro p l e s m below meth cm A ls hst htab F hr hlocks w hl
  generalize ([.ref ((ad 0) 0), .int (nI kk)] : List Value).toArray = args
  have hl : lv_has ls 3 [(0, .ref ((ad 0) 0)), (1, .int (nI kk))] := hl
  have w : Wd G A s.heap (fl [wXo G.2.1 (ad 0) (xF ad) svx K, wSh G.2.1 (ad 1) S]) _ _ := w
  refine lv_aload_n F.x F.b dL_queued_0 rfl (lv_at hl 0 rfl) ?_
  refine lv_iload_n F.x F.b dL_queued_1 rfl (lv_at hl 1 rfl) ?_
  refine kXi F w hst (LC := [wXo G.2.1 (ad 0) (xF ad) svx K, wSh G.2.1 (ad 1) S]) (LR := []) (As := [.int (nI kk)]) (rest := []) (k_queued_ok F.1 em hk hm) m_X6_queued v_X6_queued q600 (ci := 10) (q0 := 0) rfl rfl rfl 2 [0, 1] rfl rfl rfl ⟨Nat.le_of_ble_eq_true rfl, Nat.le_of_ble_eq_true rfl⟩ rfl hl.1 rfl (Nat.le_of_ble_eq_true rfl) dL_queued_2 ⟨Nat.le_of_ble_eq_true rfl, Nat.le_of_ble_eq_true rfl⟩ (fun _ _ _ _ _ _ hx => False.elim hx) (fun r9 w1 H locs h9 w => ?_)
  rw [show fl ([] : List va_W) = [] from rfl, List.append_nil] at w
  exact eiX F w hr hlocks rfl h9 (Nat.le_of_ble_eq_true rfl) (Nat.le_of_ble_eq_true rfl) dL_queued_5
set_option maxRecDepth 100000 in
set_option maxHeartbeats 4000000 in
theorem l_lotAt_no {G : cG} (g : GOK G) (gM : MG G) (hNC : NcG G) {ad : Nat → Nat → Nat} {svx : Value} {K S : Mem} {bb : Nat} (hb : bb < 24) (hq : f_X3_slotAt S (nI bb) = some (-1)) : CXH G yL_lotAt cL_lotAt 3 [(0, 5, 6, 20), (0, 5, 10, 32)] 7 104 1 6 [.ref ((ad 0) 0), .int (nI bb)] (fl [wXo G.2.1 (ad 0) (xF ad) svx K, wSh G.2.1 (ad 1) S]) (fun r9 w1 => r9 = (-75) ∧ w1 = fl [wXo G.2.1 (ad 0) (xF ad) svx K, wSh G.2.1 (ad 1) S]) := by
  refine CXH.of g (by decide) rfl (Nat.le_of_ble_eq_true rfl) (List.mem_of_getElem? (i := 1343) (by decide +kernel)) (by rfl) ?_
  intro p l e s m below meth cm A ls hst htab F hr hlocks w hl
  generalize ([.ref ((ad 0) 0), .int (nI bb)] : List Value).toArray = args
  have hl : lv_has ls 3 [(0, .ref ((ad 0) 0)), (1, .int (nI bb))] := hl
  have w : Wd G A s.heap (fl [wXo G.2.1 (ad 0) (xF ad) svx K, wSh G.2.1 (ad 1) S]) _ _ := w
  refine lv_aload_n F.x F.b dL_lotAt_0 rfl (lv_at hl 0 rfl) ?_
  refine lv_iload_n F.x F.b dL_lotAt_1 rfl (lv_at hl 1 rfl) ?_
  refine kXi F w hst (LC := [wXo G.2.1 (ad 0) (xF ad) svx K, wSh G.2.1 (ad 1) S]) (LR := []) (As := [.int (nI bb)]) (rest := []) (k_lotAt_no F.1 gM hb hq) m_X6_lotAt v_X6_lotAt q1344 (ci := 10) (q0 := 0) rfl rfl rfl 2 [0, 1] rfl rfl rfl ⟨Nat.le_of_ble_eq_true rfl, Nat.le_of_ble_eq_true rfl⟩ rfl hl.1 rfl (Nat.le_of_ble_eq_true rfl) dL_lotAt_2 ⟨Nat.le_of_ble_eq_true rfl, Nat.le_of_ble_eq_true rfl⟩ (fun E9 w1 ce q H locs hx w hce hcv hcl => ?_) (fun r9 w1 H locs h9 w => ?_)
  · obtain ⟨rfl, hx⟩ := hx
    rw [show fl ([] : List va_W) = [] from rfl, List.append_nil] at w
    refine vx_catch F.o (name := eNSE) (tableOf [(0, 5, 6, 20)]) ⟨0, 5, 10, 32⟩ (tableOf []) htab (pass_cons F hNC (by decide) (T := eIOB) (List.mem_of_getElem? (i := 363) (by decide +kernel)) (by decide +kernel : eNSE ∈ allE) (by decide +kernel : eIOB ∈ allE) (by decide +kernel) pass_nil) rfl (by decide) (F.t _ (List.mem_of_getElem? (i := 474) (by decide +kernel)) rfl _) (F.t _ (List.mem_of_getElem? (i := 489) (by decide +kernel)) rfl _) hce hcv hcl ?_
    refine lv_astore_n (lv' := [(2, .ref q), (0, .ref ((ad 0) 0)), (1, .int (nI bb))]) F.x F.b dL_lotAt_10 rfl hl (by decide) rfl (fun ls hl => ?_)
    refine lv_bipush (v := (-75)) F.x F.b dL_lotAt_11 (by decide) ?_
    exact eiX F w hr hlocks rfl ⟨rfl, hx⟩ (Nat.le_of_ble_eq_true rfl) (Nat.le_of_ble_eq_true rfl) dL_lotAt_13
  · exact False.elim h9
set_option maxRecDepth 100000 in
set_option maxHeartbeats 4000000 in
theorem l_lotAt_ok {G : cG} (g : GOK G) {ad : Nat → Nat → Nat} {svx : Value} {K S : Mem} {bb pp : Nat} (hb : bb < 24) (hq : f_X3_slotAt S (nI bb) = some (nI pp)) (hp : pp < 16) : CXH G yL_lotAt cL_lotAt 3 [(0, 5, 6, 20), (0, 5, 10, 32)] 2 44 0 0 [.ref ((ad 0) 0), .int (nI bb)] (fl [wXo G.2.1 (ad 0) (xF ad) svx K, wSh G.2.1 (ad 1) S]) (fun r9 w1 => r9 = S.2 0 pp ∧ w1 = fl [wXo G.2.1 (ad 0) (xF ad) svx K, wSh G.2.1 (ad 1) S]) := by
  refine CXH.of g (by decide) rfl (Nat.le_of_ble_eq_true rfl) (List.mem_of_getElem? (i := 1343) (by decide +kernel)) (by rfl) ?_
  intro p l e s m below meth cm A ls hst htab F hr hlocks w hl
  generalize ([.ref ((ad 0) 0), .int (nI bb)] : List Value).toArray = args
  have hl : lv_has ls 3 [(0, .ref ((ad 0) 0)), (1, .int (nI bb))] := hl
  have w : Wd G A s.heap (fl [wXo G.2.1 (ad 0) (xF ad) svx K, wSh G.2.1 (ad 1) S]) _ _ := w
  refine lv_aload_n F.x F.b dL_lotAt_0 rfl (lv_at hl 0 rfl) ?_
  refine lv_iload_n F.x F.b dL_lotAt_1 rfl (lv_at hl 1 rfl) ?_
  refine kXi F w hst (LC := [wXo G.2.1 (ad 0) (xF ad) svx K, wSh G.2.1 (ad 1) S]) (LR := []) (As := [.int (nI bb)]) (rest := []) (k_lotAt_ok F.1 hb hq hp) m_X6_lotAt v_X6_lotAt q1344 (ci := 10) (q0 := 0) rfl rfl rfl 2 [0, 1] rfl rfl rfl ⟨Nat.le_of_ble_eq_true rfl, Nat.le_of_ble_eq_true rfl⟩ rfl hl.1 rfl (Nat.le_of_ble_eq_true rfl) dL_lotAt_2 ⟨Nat.le_of_ble_eq_true rfl, Nat.le_of_ble_eq_true rfl⟩ (fun _ _ _ _ _ _ hx => False.elim hx) (fun r9 w1 H locs h9 w => ?_)
  rw [show fl ([] : List va_W) = [] from rfl, List.append_nil] at w
  exact eiX F w hr hlocks rfl h9 (Nat.le_of_ble_eq_true rfl) (Nat.le_of_ble_eq_true rfl) dL_lotAt_5
set_option maxRecDepth 100000 in
set_option maxHeartbeats 4000000 in
theorem l_quantityOfKind_ok {G : cG} (g : GOK G) {ad : Nat → Nat → Nat} {svx : Value} {K S : Mem} {x1 rr : Int32} (hk : f_X6_isKind x1 = some 1) (hq : f_X3_quantityOf S x1 = some rr) : CXH G yL_quantityOfKind cL_quantityOfKind 3 [(0, 5, 6, 22)] 2 44 0 0 [.ref ((ad 0) 0), .int x1] (fl [wXo G.2.1 (ad 0) (xF ad) svx K, wSh G.2.1 (ad 1) S]) (fun r9 w1 => r9 = rr ∧ w1 = fl [wXo G.2.1 (ad 0) (xF ad) svx K, wSh G.2.1 (ad 1) S]) := by
  refine CXH.of g (by decide) rfl (Nat.le_of_ble_eq_true rfl) (List.mem_of_getElem? (i := 1412) (by decide +kernel)) (by rfl) ?_
  intro p l e s m below meth cm A ls hst htab F hr hlocks w hl
  generalize ([.ref ((ad 0) 0), .int x1] : List Value).toArray = args
  have hl : lv_has ls 3 [(0, .ref ((ad 0) 0)), (1, .int x1)] := hl
  have w : Wd G A s.heap (fl [wXo G.2.1 (ad 0) (xF ad) svx K, wSh G.2.1 (ad 1) S]) _ _ := w
  refine lv_aload_n F.x F.b dL_quantityOfKind_0 rfl (lv_at hl 0 rfl) ?_
  refine lv_iload_n F.x F.b dL_quantityOfKind_1 rfl (lv_at hl 1 rfl) ?_
  refine kXi F w hst (LC := [wXo G.2.1 (ad 0) (xF ad) svx K, wSh G.2.1 (ad 1) S]) (LR := []) (As := [.int x1]) (rest := []) (k_quantityOfKind_ok F.1 hk hq) m_X6_quantityOfKind v_X6_quantityOfKind q1413 (ci := 10) (q0 := 0) rfl rfl rfl 2 [0, 1] rfl rfl rfl ⟨Nat.le_of_ble_eq_true rfl, Nat.le_of_ble_eq_true rfl⟩ rfl hl.1 rfl (Nat.le_of_ble_eq_true rfl) dL_quantityOfKind_2 ⟨Nat.le_of_ble_eq_true rfl, Nat.le_of_ble_eq_true rfl⟩ (fun _ _ _ _ _ _ hx => False.elim hx) (fun r9 w1 H locs h9 w => ?_)
  rw [show fl ([] : List va_W) = [] from rfl, List.append_nil] at w
  exact eiX F w hr hlocks rfl h9 (Nat.le_of_ble_eq_true rfl) (Nat.le_of_ble_eq_true rfl) dL_quantityOfKind_5
set_option maxRecDepth 100000 in
set_option maxHeartbeats 4000000 in
theorem l_lotByValue_ok {G : cG} (g : GOK G) {ad : Nat → Nat → Nat} {svx : Value} {K S : Mem} {x1 : Int32} {pp : Nat} (hq : f_X3_slotByValue S x1 = some (nI pp)) (hp : pp < 16) : CXH G yL_lotByValue cL_lotByValue 3 [(0, 5, 6, 20)] 4 90 0 0 [.ref ((ad 0) 0), .int x1] (fl [wXo G.2.1 (ad 0) (xF ad) svx K, wSh G.2.1 (ad 1) S]) (fun r9 w1 => r9 = S.2 0 pp ∧ w1 = fl [wXo G.2.1 (ad 0) (xF ad) svx K, wSh G.2.1 (ad 1) S]) := by
  refine CXH.of g (by decide) rfl (Nat.le_of_ble_eq_true rfl) (List.mem_of_getElem? (i := 1394) (by decide +kernel)) (by rfl) ?_
  intro p l e s m below meth cm A ls hst htab F hr hlocks w hl
  generalize ([.ref ((ad 0) 0), .int x1] : List Value).toArray = args
  have hl : lv_has ls 3 [(0, .ref ((ad 0) 0)), (1, .int x1)] := hl
  have w : Wd G A s.heap (fl [wXo G.2.1 (ad 0) (xF ad) svx K, wSh G.2.1 (ad 1) S]) _ _ := w
  refine lv_aload_n F.x F.b dL_lotByValue_0 rfl (lv_at hl 0 rfl) ?_
  refine lv_iload_n F.x F.b dL_lotByValue_1 rfl (lv_at hl 1 rfl) ?_
  refine kXi F w hst (LC := [wXo G.2.1 (ad 0) (xF ad) svx K, wSh G.2.1 (ad 1) S]) (LR := []) (As := [.int x1]) (rest := []) (k_lotByValue_ok F.1 hq hp) m_X6_lotByValue v_X6_lotByValue q1395 (ci := 10) (q0 := 0) rfl rfl rfl 2 [0, 1] rfl rfl rfl ⟨Nat.le_of_ble_eq_true rfl, Nat.le_of_ble_eq_true rfl⟩ rfl hl.1 rfl (Nat.le_of_ble_eq_true rfl) dL_lotByValue_2 ⟨Nat.le_of_ble_eq_true rfl, Nat.le_of_ble_eq_true rfl⟩ (fun _ _ _ _ _ _ hx => False.elim hx) (fun r9 w1 H locs h9 w => ?_)
  rw [show fl ([] : List va_W) = [] from rfl, List.append_nil] at w
  exact eiX F w hr hlocks rfl h9 (Nat.le_of_ble_eq_true rfl) (Nat.le_of_ble_eq_true rfl) dL_lotByValue_5
set_option maxRecDepth 100000 in
set_option maxHeartbeats 4000000 in
theorem l_dutyOn_ok {G : cG} (g : GOK G) {ad : Nat → Nat → Nat} {svx : Value} {K S : Mem} {x1 rr : Int32} (hi : ¬ (x1 < 0 ∨ nI 9999 < x1)) (hq : f_X5_dutyByParts S x1 = some rr) : CXH G yL_dutyOn cL_dutyOn 3 [(0, 5, 6, 22)] 3 67 0 0 [.ref ((ad 0) 0), .int x1] (fl [wXo G.2.1 (ad 0) (xF ad) svx K, wSh G.2.1 (ad 1) S]) (fun r9 w1 => r9 = rr ∧ w1 = fl [wXo G.2.1 (ad 0) (xF ad) svx K, wSh G.2.1 (ad 1) S]) := by
  refine CXH.of g (by decide) rfl (Nat.le_of_ble_eq_true rfl) (List.mem_of_getElem? (i := 1314) (by decide +kernel)) (by rfl) ?_
  intro p l e s m below meth cm A ls hst htab F hr hlocks w hl
  generalize ([.ref ((ad 0) 0), .int x1] : List Value).toArray = args
  have hl : lv_has ls 3 [(0, .ref ((ad 0) 0)), (1, .int x1)] := hl
  have w : Wd G A s.heap (fl [wXo G.2.1 (ad 0) (xF ad) svx K, wSh G.2.1 (ad 1) S]) _ _ := w
  refine lv_aload_n F.x F.b dL_dutyOn_0 rfl (lv_at hl 0 rfl) ?_
  refine lv_iload_n F.x F.b dL_dutyOn_1 rfl (lv_at hl 1 rfl) ?_
  refine kXi F w hst (LC := [wXo G.2.1 (ad 0) (xF ad) svx K, wSh G.2.1 (ad 1) S]) (LR := []) (As := [.int x1]) (rest := []) (k_dutyOn_ok F.1 hi hq) m_X6_dutyOn v_X6_dutyOn q1315 (ci := 10) (q0 := 0) rfl rfl rfl 2 [0, 1] rfl rfl rfl ⟨Nat.le_of_ble_eq_true rfl, Nat.le_of_ble_eq_true rfl⟩ rfl hl.1 rfl (Nat.le_of_ble_eq_true rfl) dL_dutyOn_2 ⟨Nat.le_of_ble_eq_true rfl, Nat.le_of_ble_eq_true rfl⟩ (fun _ _ _ _ _ _ hx => False.elim hx) (fun r9 w1 H locs h9 w => ?_)
  rw [show fl ([] : List va_W) = [] from rfl, List.append_nil] at w
  exact eiX F w hr hlocks rfl h9 (Nat.le_of_ble_eq_true rfl) (Nat.le_of_ble_eq_true rfl) dL_dutyOn_5
set_option maxRecDepth 100000 in
set_option maxHeartbeats 4000000 in
theorem l_dutyOnByCoins_ok {G : cG} (g : GOK G) {ad : Nat → Nat → Nat} {svx : Value} {K S : Mem} {x1 rr : Int32} (hi : ¬ (x1 < 0 ∨ nI 9999 < x1)) (hq : f_X5_dutyByCoins S x1 = some rr) : CXH G yL_dutyOnByCoins cL_dutyOnByCoins 3 [(0, 5, 6, 22)] 2 45 0 0 [.ref ((ad 0) 0), .int x1] (fl [wXo G.2.1 (ad 0) (xF ad) svx K, wSh G.2.1 (ad 1) S]) (fun r9 w1 => r9 = rr ∧ w1 = fl [wXo G.2.1 (ad 0) (xF ad) svx K, wSh G.2.1 (ad 1) S]) := by
  refine CXH.of g (by decide) rfl (Nat.le_of_ble_eq_true rfl) (List.mem_of_getElem? (i := 1376) (by decide +kernel)) (by rfl) ?_
  intro p l e s m below meth cm A ls hst htab F hr hlocks w hl
  generalize ([.ref ((ad 0) 0), .int x1] : List Value).toArray = args
  have hl : lv_has ls 3 [(0, .ref ((ad 0) 0)), (1, .int x1)] := hl
  have w : Wd G A s.heap (fl [wXo G.2.1 (ad 0) (xF ad) svx K, wSh G.2.1 (ad 1) S]) _ _ := w
  refine lv_aload_n F.x F.b dL_dutyOnByCoins_0 rfl (lv_at hl 0 rfl) ?_
  refine lv_iload_n F.x F.b dL_dutyOnByCoins_1 rfl (lv_at hl 1 rfl) ?_
  refine kXi F w hst (LC := [wXo G.2.1 (ad 0) (xF ad) svx K, wSh G.2.1 (ad 1) S]) (LR := []) (As := [.int x1]) (rest := []) (k_dutyOnByCoins_ok F.1 hi hq) m_X6_dutyOnByCoins v_X6_dutyOnByCoins q1377 (ci := 10) (q0 := 0) rfl rfl rfl 2 [0, 1] rfl rfl rfl ⟨Nat.le_of_ble_eq_true rfl, Nat.le_of_ble_eq_true rfl⟩ rfl hl.1 rfl (Nat.le_of_ble_eq_true rfl) dL_dutyOnByCoins_2 ⟨Nat.le_of_ble_eq_true rfl, Nat.le_of_ble_eq_true rfl⟩ (fun _ _ _ _ _ _ hx => False.elim hx) (fun r9 w1 H locs h9 w => ?_)
  rw [show fl ([] : List va_W) = [] from rfl, List.append_nil] at w
  exact eiX F w hr hlocks rfl h9 (Nat.le_of_ble_eq_true rfl) (Nat.le_of_ble_eq_true rfl) dL_dutyOnByCoins_5
set_option maxRecDepth 100000 in
set_option maxHeartbeats 4000000 in
theorem l_nextEmptyBay {G : cG} (g : GOK G) (gM : MG G) (hNC : NcG G) {ad : Nat → Nat → Nat} {svx : Value} {K S : Mem} {bb : Nat} (hb : bb < 24) (hE : ∀ y, y < 24 → f_X3_slotAt S (nI y) = some (-1) ∨ ∃ p, p < 16 ∧ f_X3_slotAt S (nI y) = some (nI p)) : CXH G yL_nextEmptyBay cL_nextEmptyBay 3 [(0, 5, 6, 20), (0, 5, 10, 32)] 7 104 1 6 [.ref ((ad 0) 0), .int (nI bb)] (fl [wXo G.2.1 (ad 0) (xF ad) svx K, wSh G.2.1 (ad 1) S]) (fun r9 w1 => w1 = fl [wXo G.2.1 (ad 0) (xF ad) svx K, wSh G.2.1 (ad 1) S] ∧ (r9 = (-75) ∨ ∃ y, y < 24 ∧ f_X3_slotAt S (nI y) = some (-1) ∧ r9 = nI y)) := by
  refine CXH.of g (by decide) rfl (Nat.le_of_ble_eq_true rfl) (List.mem_of_getElem? (i := 1334) (by decide +kernel)) (by rfl) ?_
  intro p l e s m below meth cm A ls hst htab F hr hlocks w hl
  generalize ([.ref ((ad 0) 0), .int (nI bb)] : List Value).toArray = args
  have hl : lv_has ls 3 [(0, .ref ((ad 0) 0)), (1, .int (nI bb))] := hl
  have w : Wd G A s.heap (fl [wXo G.2.1 (ad 0) (xF ad) svx K, wSh G.2.1 (ad 1) S]) _ _ := w
  refine lv_aload_n F.x F.b dL_nextEmptyBay_0 rfl (lv_at hl 0 rfl) ?_
  refine lv_iload_n F.x F.b dL_nextEmptyBay_1 rfl (lv_at hl 1 rfl) ?_
  refine kXi F w hst (LC := [wXo G.2.1 (ad 0) (xF ad) svx K, wSh G.2.1 (ad 1) S]) (LR := []) (As := [.int (nI bb)]) (rest := []) (k_nextEmptyBay F.1 gM hb hE) m_X6_nextEmptyBay v_X6_nextEmptyBay q1335 (ci := 10) (q0 := 0) rfl rfl rfl 2 [0, 1] rfl rfl rfl ⟨Nat.le_of_ble_eq_true rfl, Nat.le_of_ble_eq_true rfl⟩ rfl hl.1 rfl (Nat.le_of_ble_eq_true rfl) dL_nextEmptyBay_2 ⟨Nat.le_of_ble_eq_true rfl, Nat.le_of_ble_eq_true rfl⟩ (fun E9 w1 ce q H locs hx w hce hcv hcl => ?_) (fun r9 w1 H locs h9 w => ?_)
  · obtain ⟨rfl, hx⟩ := hx
    rw [show fl ([] : List va_W) = [] from rfl, List.append_nil] at w
    refine vx_catch F.o (name := eNSE) (tableOf [(0, 5, 6, 20)]) ⟨0, 5, 10, 32⟩ (tableOf []) htab (pass_cons F hNC (by decide) (T := eIOB) (List.mem_of_getElem? (i := 363) (by decide +kernel)) (by decide +kernel : eNSE ∈ allE) (by decide +kernel : eIOB ∈ allE) (by decide +kernel) pass_nil) rfl (by decide) (F.t _ (List.mem_of_getElem? (i := 474) (by decide +kernel)) rfl _) (F.t _ (List.mem_of_getElem? (i := 489) (by decide +kernel)) rfl _) hce hcv hcl ?_
    refine lv_astore_n (lv' := [(2, .ref q), (0, .ref ((ad 0) 0)), (1, .int (nI bb))]) F.x F.b dL_nextEmptyBay_10 rfl hl (by decide) rfl (fun ls hl => ?_)
    refine lv_bipush (v := (-75)) F.x F.b dL_nextEmptyBay_11 (by decide) ?_
    exact eiX F w hr hlocks rfl ⟨hx, Or.inl rfl⟩ (Nat.le_of_ble_eq_true rfl) (Nat.le_of_ble_eq_true rfl) dL_nextEmptyBay_13
  · obtain ⟨y, y1, y2, y3, y4⟩ := h9
    rw [show fl ([] : List va_W) = [] from rfl, List.append_nil] at w
    exact eiX F w hr hlocks rfl ⟨y4, Or.inr ⟨y, y1, y2, y3⟩⟩ (Nat.le_of_ble_eq_true rfl) (Nat.le_of_ble_eq_true rfl) dL_nextEmptyBay_5
set_option maxRecDepth 100000 in
set_option maxHeartbeats 4000000 in
theorem l_dampAfter_ok {G : cG} (g : GOK G) {ad : Nat → Nat → Nat} {svx : Value} {K S Fc F1 F2 : Mem} {nn : Nat} {rr : Int32} (n2 : nn ≤ 30) (hq1 : f_X4_copyFrom Fc S = some F1) (hq2 : nn = 0 → F2 = F1) (hq3 : nn ≠ 0 → ∃ z, f_X4_letPass F1 (nI nn) = some (z, F2)) (hq4 : f_X3_countDamp F2 = some rr) : CXH G yL_dampAfter cL_dampAfter 3 [(0, 5, 6, 22)] 6 132 0 0 [.ref ((ad 0) 0), .int (nI nn)] (fl [wXo G.2.1 (ad 0) (xF ad) svx K, wSh G.2.1 (ad 1) S, wSh G.2.1 (ad 2) Fc]) (fun r9 w1 => r9 = rr ∧ w1 = fl [wXo G.2.1 (ad 0) (xF ad) svx K, wSh G.2.1 (ad 1) S, wSh G.2.1 (ad 2) F2]) := by
  refine CXH.of g (by decide) rfl (Nat.le_of_ble_eq_true rfl) (List.mem_of_getElem? (i := 520) (by decide +kernel)) (by rfl) ?_
  intro p l e s m below meth cm A ls hst htab F hr hlocks w hl
  generalize ([.ref ((ad 0) 0), .int (nI nn)] : List Value).toArray = args
  have hl : lv_has ls 3 [(0, .ref ((ad 0) 0)), (1, .int (nI nn))] := hl
  have w : Wd G A s.heap (fl [wXo G.2.1 (ad 0) (xF ad) svx K, wSh G.2.1 (ad 1) S, wSh G.2.1 (ad 2) Fc]) _ _ := w
  refine lv_aload_n F.x F.b dL_dampAfter_0 rfl (lv_at hl 0 rfl) ?_
  refine lv_iload_n F.x F.b dL_dampAfter_1 rfl (lv_at hl 1 rfl) ?_
  refine kXi F w hst (LC := [wXo G.2.1 (ad 0) (xF ad) svx K, wSh G.2.1 (ad 1) S, wSh G.2.1 (ad 2) Fc]) (LR := []) (As := [.int (nI nn)]) (rest := []) (k_dampAfter_ok F.1 n2 hq1 hq2 hq3 hq4) m_X6_dampAfter v_X6_dampAfter q522 (ci := 10) (q0 := 0) rfl rfl rfl 3 [0, 1, 2] rfl rfl rfl ⟨Nat.le_of_ble_eq_true rfl, Nat.le_of_ble_eq_true rfl⟩ rfl hl.1 rfl (Nat.le_of_ble_eq_true rfl) dL_dampAfter_2 ⟨Nat.le_of_ble_eq_true rfl, Nat.le_of_ble_eq_true rfl⟩ (fun _ _ _ _ _ _ hx => False.elim hx) (fun r9 w1 H locs h9 w => ?_)
  rw [show fl ([] : List va_W) = [] from rfl, List.append_nil] at w
  exact eiX F w hr hlocks rfl h9 (Nat.le_of_ble_eq_true rfl) (Nat.le_of_ble_eq_true rfl) dL_dampAfter_5
set_option maxRecDepth 100000 in
set_option maxHeartbeats 4000000 in
theorem l_addLot_no {G : cG} (g : GOK G) (gM : MG G) (hNC : NcG G) {ad : Nat → Nat → Nat} {svx : Value} {K S : Mem} {cu ct : Nat} {hs : hS} {x1 x2 x3 x4 : Int32} {E : String} (k1 : cu < 9) (hcp : ∀ P0, ∃ P, f_X4_copyFrom P0 S = some P) (e1 : f_X4_takeIn S x1 x2 x3 x4 = some (numE E, S)) (hE : E ∈ [eIOB, eIAE, eISE, eUOE]) : CXH G yL_addLot cL_addLot 6 [(0, 9, 10, 20), (0, 9, 15, 22), (0, 9, 20, 24), (0, 9, 25, 26)] 9 147 15 167 [.ref ((ad 0) 0), .int x1, .int x2, .int x3, .int x4] (fl [wXo G.2.1 (ad 0) (xF ad) svx K, wSh G.2.1 (ad 1) S, wHo G.2.1 (ad 3) cu ct hs, hsL G.2.1 hs]) (fun r9 w1 => r9 = cdE E ∧ NoW G ad svx K S cu ct hs w1) := by
  refine CXH.of g (by decide) rfl (Nat.le_of_ble_eq_true rfl) (List.mem_of_getElem? (i := 609) (by decide +kernel)) (by rfl) ?_
  intro p l e s m below meth cm A ls hst htab F hr hlocks w hl
  generalize ([.ref ((ad 0) 0), .int x1, .int x2, .int x3, .int x4] : List Value).toArray = args
  have hl : lv_has ls 6 [(0, .ref ((ad 0) 0)), (1, .int x1), (2, .int x2), (3, .int x3), (4, .int x4)] := hl
  have w : Wd G A s.heap (fl [wXo G.2.1 (ad 0) (xF ad) svx K, wSh G.2.1 (ad 1) S, wHo G.2.1 (ad 3) cu ct hs, hsL G.2.1 hs]) _ _ := w
  refine lv_aload_n F.x F.b dL_addLot_0 rfl (lv_at hl 0 rfl) ?_
  refine lv_iload_n F.x F.b dL_addLot_1 rfl (lv_at hl 1 rfl) ?_
  refine lv_iload_n F.x F.b dL_addLot_2 rfl (lv_at hl 2 rfl) ?_
  refine lv_iload_n F.x F.b dL_addLot_3 rfl (lv_at hl 3 rfl) ?_
  refine lv_iload F.x F.b dL_addLot_4 (lv_at hl 4 rfl) ?_
  refine kXi F w hst (LC := [wXo G.2.1 (ad 0) (xF ad) svx K, wSh G.2.1 (ad 1) S, wHo G.2.1 (ad 3) cu ct hs, hsL G.2.1 hs]) (LR := []) (As := [.int x1, .int x2, .int x3, .int x4]) (rest := []) (k_addLot_no F.1 gM k1 hcp e1 (by revert hE; exact fun hE => (by decide +kernel : ∀ x ∈ ([eIOB, eIAE, eISE, eUOE] : List String), x ∈ excL) _ hE)) m_X6_addLot v_X6_addLot q612 (ci := 10) (q0 := 0) rfl rfl rfl 4 [0, 1, 2, 3] rfl rfl rfl ⟨Nat.le_of_ble_eq_true rfl, Nat.le_of_ble_eq_true rfl⟩ rfl hl.1 rfl (Nat.le_of_ble_eq_true rfl) dL_addLot_6 ⟨Nat.le_of_ble_eq_true rfl, Nat.le_of_ble_eq_true rfl⟩ (fun E9 w1 ce q H locs hx w hce hcv hcl => ?_) (fun r9 w1 H locs h9 w => ?_)
  · obtain ⟨rfl, hx⟩ := hx
    rw [show fl ([] : List va_W) = [] from rfl, List.append_nil] at w
    simp only [List.mem_cons, List.not_mem_nil, or_false] at hE
    rcases hE with rfl | rfl | rfl | rfl
    · refine vx_catch F.o (name := eIOB) (tableOf []) ⟨0, 9, 10, 20⟩ (tableOf [(0, 9, 15, 22), (0, 9, 20, 24), (0, 9, 25, 26)]) htab pass_nil rfl (by decide) (F.t _ (List.mem_of_getElem? (i := 363) (by decide +kernel)) rfl _) (F.t _ (List.mem_of_getElem? (i := 452) (by decide +kernel)) rfl _) hce hcv hcl ?_
      refine lv_astore (lv' := [(5, .ref q), (0, .ref ((ad 0) 0)), (1, .int x1), (2, .int x2), (3, .int x3), (4, .int x4)]) F.x F.b dL_addLot_10 hl (by decide) rfl (fun ls hl => ?_)
      refine lv_bipush (v := (-77)) F.x F.b dL_addLot_12 (by decide) ?_
      exact eiX F w hr hlocks rfl ⟨by decide +kernel, hx⟩ (Nat.le_of_ble_eq_true rfl) (Nat.le_of_ble_eq_true rfl) dL_addLot_14
    · refine vx_catch F.o (name := eIAE) (tableOf [(0, 9, 10, 20)]) ⟨0, 9, 15, 22⟩ (tableOf [(0, 9, 20, 24), (0, 9, 25, 26)]) htab (pass_cons F hNC (by decide) (T := eIOB) (List.mem_of_getElem? (i := 363) (by decide +kernel)) (by decide +kernel : eIAE ∈ allE) (by decide +kernel : eIOB ∈ allE) (by decide +kernel) pass_nil) rfl (by decide) (F.t _ (List.mem_of_getElem? (i := 521) (by decide +kernel)) rfl _) (F.t _ (List.mem_of_getElem? (i := 528) (by decide +kernel)) rfl _) hce hcv hcl ?_
      refine lv_astore (lv' := [(5, .ref q), (0, .ref ((ad 0) 0)), (1, .int x1), (2, .int x2), (3, .int x3), (4, .int x4)]) F.x F.b dL_addLot_15 hl (by decide) rfl (fun ls hl => ?_)
      refine lv_bipush (v := (-78)) F.x F.b dL_addLot_17 (by decide) ?_
      exact eiX F w hr hlocks rfl ⟨by decide +kernel, hx⟩ (Nat.le_of_ble_eq_true rfl) (Nat.le_of_ble_eq_true rfl) dL_addLot_19
    · refine vx_catch F.o (name := eISE) (tableOf [(0, 9, 10, 20), (0, 9, 15, 22)]) ⟨0, 9, 20, 24⟩ (tableOf [(0, 9, 25, 26)]) htab (pass_cons F hNC (by decide) (T := eIOB) (List.mem_of_getElem? (i := 363) (by decide +kernel)) (by decide +kernel : eISE ∈ allE) (by decide +kernel : eIOB ∈ allE) (by decide +kernel) (pass_cons F hNC (by decide) (T := eIAE) (List.mem_of_getElem? (i := 521) (by decide +kernel)) (by decide +kernel : eISE ∈ allE) (by decide +kernel : eIAE ∈ allE) (by decide +kernel) pass_nil)) rfl (by decide) (F.t _ (List.mem_of_getElem? (i := 610) (by decide +kernel)) rfl _) (F.t _ (List.mem_of_getElem? (i := 655) (by decide +kernel)) rfl _) hce hcv hcl ?_
      refine lv_astore (lv' := [(5, .ref q), (0, .ref ((ad 0) 0)), (1, .int x1), (2, .int x2), (3, .int x3), (4, .int x4)]) F.x F.b dL_addLot_20 hl (by decide) rfl (fun ls hl => ?_)
      refine lv_bipush (v := (-79)) F.x F.b dL_addLot_22 (by decide) ?_
      exact eiX F w hr hlocks rfl ⟨by decide +kernel, hx⟩ (Nat.le_of_ble_eq_true rfl) (Nat.le_of_ble_eq_true rfl) dL_addLot_24
    · refine vx_catch F.o (name := eUOE) (tableOf [(0, 9, 10, 20), (0, 9, 15, 22), (0, 9, 20, 24)]) ⟨0, 9, 25, 26⟩ (tableOf []) htab (pass_cons F hNC (by decide) (T := eIOB) (List.mem_of_getElem? (i := 363) (by decide +kernel)) (by decide +kernel : eUOE ∈ allE) (by decide +kernel : eIOB ∈ allE) (by decide +kernel) (pass_cons F hNC (by decide) (T := eIAE) (List.mem_of_getElem? (i := 521) (by decide +kernel)) (by decide +kernel : eUOE ∈ allE) (by decide +kernel : eIAE ∈ allE) (by decide +kernel) (pass_cons F hNC (by decide) (T := eISE) (List.mem_of_getElem? (i := 610) (by decide +kernel)) (by decide +kernel : eUOE ∈ allE) (by decide +kernel : eISE ∈ allE) (by decide +kernel) pass_nil))) rfl (by decide) (F.t _ (List.mem_of_getElem? (i := 611) (by decide +kernel)) rfl _) (F.t _ (List.mem_of_getElem? (i := 670) (by decide +kernel)) rfl _) hce hcv hcl ?_
      refine lv_astore (lv' := [(5, .ref q), (0, .ref ((ad 0) 0)), (1, .int x1), (2, .int x2), (3, .int x3), (4, .int x4)]) F.x F.b dL_addLot_25 hl (by decide) rfl (fun ls hl => ?_)
      refine lv_bipush (v := (-76)) F.x F.b dL_addLot_27 (by decide) ?_
      exact eiX F w hr hlocks rfl ⟨by decide +kernel, hx⟩ (Nat.le_of_ble_eq_true rfl) (Nat.le_of_ble_eq_true rfl) dL_addLot_29
  · exact False.elim h9
set_option maxRecDepth 100000 in
set_option maxHeartbeats 4000000 in
theorem l_addLot_ok {G : cG} (g : GOK G) {ad : Nat → Nat → Nat} {svx : Value} {K S S' : Mem} {cu ct : Nat} {hs : hS} {x1 x2 x3 x4 : Int32} {r : Nat} (k1 : cu < 9) (hcp : ∀ P0, ∃ P, f_X4_copyFrom P0 S = some P) (k2 : ct ≤ 8) (hr9 : r < 2 ^ 31) (e1 : f_X4_takeIn S x1 x2 x3 x4 = some (nI r, S')) : CXH G yL_addLot cL_addLot 6 [(0, 9, 10, 20), (0, 9, 15, 22), (0, 9, 20, 24), (0, 9, 25, 26)] 5 112 14 161 [.ref ((ad 0) 0), .int x1, .int x2, .int x3, .int x4] (fl [wXo G.2.1 (ad 0) (xF ad) svx K, wSh G.2.1 (ad 1) S, wHo G.2.1 (ad 3) cu ct hs, hsL G.2.1 hs]) (fun r9 w1 => r9 = nI r ∧ YeW G ad svx K S S' cu ct hs w1) := by
  refine CXH.of g (by decide) rfl (Nat.le_of_ble_eq_true rfl) (List.mem_of_getElem? (i := 609) (by decide +kernel)) (by rfl) ?_
  intro p l e s m below meth cm A ls hst htab F hr hlocks w hl
  generalize ([.ref ((ad 0) 0), .int x1, .int x2, .int x3, .int x4] : List Value).toArray = args
  have hl : lv_has ls 6 [(0, .ref ((ad 0) 0)), (1, .int x1), (2, .int x2), (3, .int x3), (4, .int x4)] := hl
  have w : Wd G A s.heap (fl [wXo G.2.1 (ad 0) (xF ad) svx K, wSh G.2.1 (ad 1) S, wHo G.2.1 (ad 3) cu ct hs, hsL G.2.1 hs]) _ _ := w
  refine lv_aload_n F.x F.b dL_addLot_0 rfl (lv_at hl 0 rfl) ?_
  refine lv_iload_n F.x F.b dL_addLot_1 rfl (lv_at hl 1 rfl) ?_
  refine lv_iload_n F.x F.b dL_addLot_2 rfl (lv_at hl 2 rfl) ?_
  refine lv_iload_n F.x F.b dL_addLot_3 rfl (lv_at hl 3 rfl) ?_
  refine lv_iload F.x F.b dL_addLot_4 (lv_at hl 4 rfl) ?_
  refine kXi F w hst (LC := [wXo G.2.1 (ad 0) (xF ad) svx K, wSh G.2.1 (ad 1) S, wHo G.2.1 (ad 3) cu ct hs, hsL G.2.1 hs]) (LR := []) (As := [.int x1, .int x2, .int x3, .int x4]) (rest := []) (k_addLot_ok F.1 k1 hcp k2 hr9 e1) m_X6_addLot v_X6_addLot q612 (ci := 10) (q0 := 0) rfl rfl rfl 4 [0, 1, 2, 3] rfl rfl rfl ⟨Nat.le_of_ble_eq_true rfl, Nat.le_of_ble_eq_true rfl⟩ rfl hl.1 rfl (Nat.le_of_ble_eq_true rfl) dL_addLot_6 ⟨Nat.le_of_ble_eq_true rfl, Nat.le_of_ble_eq_true rfl⟩ (fun _ _ _ _ _ _ hx => False.elim hx) (fun r9 w1 H locs h9 w => ?_)
  rw [show fl ([] : List va_W) = [] from rfl, List.append_nil] at w
  exact eiX F w hr hlocks rfl h9 (Nat.le_of_ble_eq_true rfl) (Nat.le_of_ble_eq_true rfl) dL_addLot_9
set_option maxRecDepth 100000 in
set_option maxHeartbeats 4000000 in
theorem l_seal_no {G : cG} (g : GOK G) (gM : MG G) (hNC : NcG G) {ad : Nat → Nat → Nat} {svx : Value} {K S : Mem} {cu ct : Nat} {hs : hS} {x1 : Int32} {E : String} (k1 : cu < 9) (hcp : ∀ P0, ∃ P, f_X4_copyFrom P0 S = some P) (e1 : f_X4_sealLot S x1 = some (numE E, S)) (hE : E ∈ [eNSE, eISE, eUOE]) : CXH G yL_seal cL_seal 3 [(0, 5, 6, 32), (0, 5, 10, 24), (0, 5, 14, 26)] 9 144 15 167 [.ref ((ad 0) 0), .int x1] (fl [wXo G.2.1 (ad 0) (xF ad) svx K, wSh G.2.1 (ad 1) S, wHo G.2.1 (ad 3) cu ct hs, hsL G.2.1 hs]) (fun r9 w1 => r9 = cdE E ∧ NoW G ad svx K S cu ct hs w1) := by
  refine CXH.of g (by decide) rfl (Nat.le_of_ble_eq_true rfl) (List.mem_of_getElem? (i := 712) (by decide +kernel)) (by rfl) ?_
  intro p l e s m below meth cm A ls hst htab F hr hlocks w hl
  generalize ([.ref ((ad 0) 0), .int x1] : List Value).toArray = args
  have hl : lv_has ls 3 [(0, .ref ((ad 0) 0)), (1, .int x1)] := hl
  have w : Wd G A s.heap (fl [wXo G.2.1 (ad 0) (xF ad) svx K, wSh G.2.1 (ad 1) S, wHo G.2.1 (ad 3) cu ct hs, hsL G.2.1 hs]) _ _ := w
  refine lv_aload_n F.x F.b dL_seal_0 rfl (lv_at hl 0 rfl) ?_
  refine lv_iload_n F.x F.b dL_seal_1 rfl (lv_at hl 1 rfl) ?_
  refine kXi F w hst (LC := [wXo G.2.1 (ad 0) (xF ad) svx K, wSh G.2.1 (ad 1) S, wHo G.2.1 (ad 3) cu ct hs, hsL G.2.1 hs]) (LR := []) (As := [.int x1]) (rest := []) (k_seal_no F.1 gM k1 hcp e1 (by revert hE; exact fun hE => (by decide +kernel : ∀ x ∈ ([eNSE, eISE, eUOE] : List String), x ∈ excL) _ hE)) m_X6_seal v_X6_seal q713 (ci := 10) (q0 := 0) rfl rfl rfl 4 [0, 1, 2, 3] rfl rfl rfl ⟨Nat.le_of_ble_eq_true rfl, Nat.le_of_ble_eq_true rfl⟩ rfl hl.1 rfl (Nat.le_of_ble_eq_true rfl) dL_seal_2 ⟨Nat.le_of_ble_eq_true rfl, Nat.le_of_ble_eq_true rfl⟩ (fun E9 w1 ce q H locs hx w hce hcv hcl => ?_) (fun r9 w1 H locs h9 w => ?_)
  · obtain ⟨rfl, hx⟩ := hx
    rw [show fl ([] : List va_W) = [] from rfl, List.append_nil] at w
    simp only [List.mem_cons, List.not_mem_nil, or_false] at hE
    rcases hE with rfl | rfl | rfl
    · refine vx_catch F.o (name := eNSE) (tableOf []) ⟨0, 5, 6, 32⟩ (tableOf [(0, 5, 10, 24), (0, 5, 14, 26)]) htab pass_nil rfl (by decide) (F.t _ (List.mem_of_getElem? (i := 474) (by decide +kernel)) rfl _) (F.t _ (List.mem_of_getElem? (i := 489) (by decide +kernel)) rfl _) hce hcv hcl ?_
      refine lv_astore_n (lv' := [(2, .ref q), (0, .ref ((ad 0) 0)), (1, .int x1)]) F.x F.b dL_seal_6 rfl hl (by decide) rfl (fun ls hl => ?_)
      refine lv_bipush (v := (-75)) F.x F.b dL_seal_7 (by decide) ?_
      exact eiX F w hr hlocks rfl ⟨by decide +kernel, hx⟩ (Nat.le_of_ble_eq_true rfl) (Nat.le_of_ble_eq_true rfl) dL_seal_9
    · refine vx_catch F.o (name := eISE) (tableOf [(0, 5, 6, 32)]) ⟨0, 5, 10, 24⟩ (tableOf [(0, 5, 14, 26)]) htab (pass_cons F hNC (by decide) (T := eNSE) (List.mem_of_getElem? (i := 474) (by decide +kernel)) (by decide +kernel : eISE ∈ allE) (by decide +kernel : eNSE ∈ allE) (by decide +kernel) pass_nil) rfl (by decide) (F.t _ (List.mem_of_getElem? (i := 610) (by decide +kernel)) rfl _) (F.t _ (List.mem_of_getElem? (i := 655) (by decide +kernel)) rfl _) hce hcv hcl ?_
      refine lv_astore_n (lv' := [(2, .ref q), (0, .ref ((ad 0) 0)), (1, .int x1)]) F.x F.b dL_seal_10 rfl hl (by decide) rfl (fun ls hl => ?_)
      refine lv_bipush (v := (-79)) F.x F.b dL_seal_11 (by decide) ?_
      exact eiX F w hr hlocks rfl ⟨by decide +kernel, hx⟩ (Nat.le_of_ble_eq_true rfl) (Nat.le_of_ble_eq_true rfl) dL_seal_13
    · refine vx_catch F.o (name := eUOE) (tableOf [(0, 5, 6, 32), (0, 5, 10, 24)]) ⟨0, 5, 14, 26⟩ (tableOf []) htab (pass_cons F hNC (by decide) (T := eNSE) (List.mem_of_getElem? (i := 474) (by decide +kernel)) (by decide +kernel : eUOE ∈ allE) (by decide +kernel : eNSE ∈ allE) (by decide +kernel) (pass_cons F hNC (by decide) (T := eISE) (List.mem_of_getElem? (i := 610) (by decide +kernel)) (by decide +kernel : eUOE ∈ allE) (by decide +kernel : eISE ∈ allE) (by decide +kernel) pass_nil)) rfl (by decide) (F.t _ (List.mem_of_getElem? (i := 611) (by decide +kernel)) rfl _) (F.t _ (List.mem_of_getElem? (i := 670) (by decide +kernel)) rfl _) hce hcv hcl ?_
      refine lv_astore_n (lv' := [(2, .ref q), (0, .ref ((ad 0) 0)), (1, .int x1)]) F.x F.b dL_seal_14 rfl hl (by decide) rfl (fun ls hl => ?_)
      refine lv_bipush (v := (-76)) F.x F.b dL_seal_15 (by decide) ?_
      exact eiX F w hr hlocks rfl ⟨by decide +kernel, hx⟩ (Nat.le_of_ble_eq_true rfl) (Nat.le_of_ble_eq_true rfl) dL_seal_17
  · exact False.elim h9

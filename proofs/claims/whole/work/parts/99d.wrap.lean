/-! printed by wip/whole/tools/gen99d.py -/
theorem q872 : Cond.methodLink "CustomsShedLaw" 7 yX6_addLot ∈ lw_tbl := List.mem_of_getElem? (i := 872) (by decide +kernel)
theorem q980 : Cond.methodLink "CustomsShedLaw" 21 yX6_seal ∈ lw_tbl := List.mem_of_getElem? (i := 980) (by decide +kernel)
theorem q999 : Cond.methodLink "CustomsShedLaw" 27 yX6_open ∈ lw_tbl := List.mem_of_getElem? (i := 999) (by decide +kernel)
theorem q1010 : Cond.methodLink "CustomsShedLaw" 30 yX6_wet ∈ lw_tbl := List.mem_of_getElem? (i := 1010) (by decide +kernel)
theorem q1022 : Cond.methodLink "CustomsShedLaw" 33 yX6_move ∈ lw_tbl := List.mem_of_getElem? (i := 1022) (by decide +kernel)
theorem q1033 : Cond.methodLink "CustomsShedLaw" 37 yX6_lot ∈ lw_tbl := List.mem_of_getElem? (i := 1033) (by decide +kernel)
theorem q1043 : Cond.methodLink "CustomsShedLaw" 40 yX6_kind ∈ lw_tbl := List.mem_of_getElem? (i := 1043) (by decide +kernel)
theorem q1060 : Cond.methodLink "CustomsShedLaw" 44 yX6_quantity ∈ lw_tbl := List.mem_of_getElem? (i := 1060) (by decide +kernel)
theorem q1067 : Cond.methodLink "CustomsShedLaw" 47 yX6_price ∈ lw_tbl := List.mem_of_getElem? (i := 1067) (by decide +kernel)
theorem q1074 : Cond.methodLink "CustomsShedLaw" 50 yX6_value ∈ lw_tbl := List.mem_of_getElem? (i := 1074) (by decide +kernel)
theorem q1082 : Cond.methodLink "CustomsShedLaw" 53 yX6_bay ∈ lw_tbl := List.mem_of_getElem? (i := 1082) (by decide +kernel)
theorem q1089 : Cond.methodLink "CustomsShedLaw" 56 yX6_isSealed ∈ lw_tbl := List.mem_of_getElem? (i := 1089) (by decide +kernel)
theorem q1096 : Cond.methodLink "CustomsShedLaw" 60 yX6_isDamp ∈ lw_tbl := List.mem_of_getElem? (i := 1096) (by decide +kernel)
theorem q1103 : Cond.methodLink "CustomsShedLaw" 63 yX6_lotAt ∈ lw_tbl := List.mem_of_getElem? (i := 1103) (by decide +kernel)
theorem q1112 : Cond.methodLink "CustomsShedLaw" 66 yX6_nextEmptyBay ∈ lw_tbl := List.mem_of_getElem? (i := 1112) (by decide +kernel)
theorem q1120 : Cond.methodLink "CustomsShedLaw" 69 yX6_quantityOfKind ∈ lw_tbl := List.mem_of_getElem? (i := 1120) (by decide +kernel)
theorem q1134 : Cond.methodLink "CustomsShedLaw" 73 yX6_lotByValue ∈ lw_tbl := List.mem_of_getElem? (i := 1134) (by decide +kernel)
theorem q1152 : Cond.methodLink "CustomsShedLaw" 76 yX6_addStep ∈ lw_tbl := List.mem_of_getElem? (i := 1152) (by decide +kernel)
theorem q1167 : Cond.methodLink "CustomsShedLaw" 79 yX6_removeStep ∈ lw_tbl := List.mem_of_getElem? (i := 1167) (by decide +kernel)
theorem q1178 : Cond.methodLink "CustomsShedLaw" 82 yX6_threshold ∈ lw_tbl := List.mem_of_getElem? (i := 1178) (by decide +kernel)
theorem q1185 : Cond.methodLink "CustomsShedLaw" 85 yX6_rate ∈ lw_tbl := List.mem_of_getElem? (i := 1185) (by decide +kernel)
theorem q1192 : Cond.methodLink "CustomsShedLaw" 88 yX6_dutyOn ∈ lw_tbl := List.mem_of_getElem? (i := 1192) (by decide +kernel)
theorem q1204 : Cond.methodLink "CustomsShedLaw" 91 yX6_dutyOnByCoins ∈ lw_tbl := List.mem_of_getElem? (i := 1204) (by decide +kernel)
theorem q1212 : Cond.methodLink "CustomsShedLaw" 94 yX6_duty ∈ lw_tbl := List.mem_of_getElem? (i := 1212) (by decide +kernel)
theorem q1220 : Cond.methodLink "CustomsShedLaw" 97 yX6_passDays ∈ lw_tbl := List.mem_of_getElem? (i := 1220) (by decide +kernel)
theorem q1253 : Cond.methodLink "CustomsShedLaw" 100 yX6_dampAfter ∈ lw_tbl := List.mem_of_getElem? (i := 1253) (by decide +kernel)
theorem q1261 : Cond.methodLink "CustomsShedLaw" 103 yX6_enqueue ∈ lw_tbl := List.mem_of_getElem? (i := 1261) (by decide +kernel)
theorem q1280 : Cond.methodLink "CustomsShedLaw" 106 yX6_audit ∈ lw_tbl := List.mem_of_getElem? (i := 1280) (by decide +kernel)
theorem q1291 : Cond.methodLink "CustomsShedLaw" 110 yX6_queued ∈ lw_tbl := List.mem_of_getElem? (i := 1291) (by decide +kernel)
theorem q1298 : Cond.methodLink "CustomsShedLaw" 113 yX6_deposit ∈ lw_tbl := List.mem_of_getElem? (i := 1298) (by decide +kernel)
theorem q1309 : Cond.methodLink "CustomsShedLaw" 116 yX6_release ∈ lw_tbl := List.mem_of_getElem? (i := 1309) (by decide +kernel)
theorem q1356 : Cond.methodLink "CustomsShedLaw" 129 yX6_writeLot ∈ lw_tbl := List.mem_of_getElem? (i := 1356) (by decide +kernel)
theorem q1365 : Cond.methodLink "CustomsShedLaw" 132 yX6_outputCharacter ∈ lw_tbl := List.mem_of_getElem? (i := 1365) (by decide +kernel)
theorem q1382 : Cond.methodLink "CustomsShedLaw" 135 yX6_feed ∈ lw_tbl := List.mem_of_getElem? (i := 1382) (by decide +kernel)
theorem q1398 : Cond.methodLink "CustomsShedLaw" 138 yX6_execute ∈ lw_tbl := List.mem_of_getElem? (i := 1398) (by decide +kernel)
theorem q1503 : Cond.methodLink "CustomsShedLaw" 141 yX6_errorPosition ∈ lw_tbl := List.mem_of_getElem? (i := 1503) (by decide +kernel)
theorem q1511 : Cond.methodLink "CustomsShedLaw" 144 yX6_failedCommand ∈ lw_tbl := List.mem_of_getElem? (i := 1511) (by decide +kernel)
theorem q1519 : Cond.methodLink "CustomsShedLaw" 147 yX6_undo ∈ lw_tbl := List.mem_of_getElem? (i := 1519) (by decide +kernel)
theorem q1532 : Cond.methodLink "CustomsShedLaw" 150 yX6_restore ∈ lw_tbl := List.mem_of_getElem? (i := 1532) (by decide +kernel)
theorem m_X6_addLot : YM yX6_addLot cX6_addLot 5 (some (.int)) 4 := ⟨⟨List.mem_of_getElem? (i := 875) (by decide +kernel), by decide +kernel⟩, List.mem_of_getElem? (i := 55) (by decide +kernel), ⟨by decide, by decide⟩, by decide +kernel⟩
theorem v_X6_addLot : YV yX6_addLot := ⟨(List.mem_of_getElem? (i := 873) (by decide +kernel)), List.mem_of_getElem? (i := 874) (by decide +kernel)⟩
theorem m_X6_seal : YM yX6_seal cX6_seal 2 (some (.int)) 1 := ⟨⟨List.mem_of_getElem? (i := 983) (by decide +kernel), by decide +kernel⟩, List.mem_of_getElem? (i := 55) (by decide +kernel), ⟨by decide, by decide⟩, by decide +kernel⟩
theorem v_X6_seal : YV yX6_seal := ⟨(List.mem_of_getElem? (i := 981) (by decide +kernel)), List.mem_of_getElem? (i := 982) (by decide +kernel)⟩
theorem m_X6_open : YM yX6_open cX6_open 2 (some (.int)) 1 := ⟨⟨List.mem_of_getElem? (i := 1002) (by decide +kernel), by decide +kernel⟩, List.mem_of_getElem? (i := 55) (by decide +kernel), ⟨by decide, by decide⟩, by decide +kernel⟩
theorem v_X6_open : YV yX6_open := ⟨(List.mem_of_getElem? (i := 1000) (by decide +kernel)), List.mem_of_getElem? (i := 1001) (by decide +kernel)⟩
theorem m_X6_wet : YM yX6_wet cX6_wet 2 (some (.int)) 1 := ⟨⟨List.mem_of_getElem? (i := 1013) (by decide +kernel), by decide +kernel⟩, List.mem_of_getElem? (i := 55) (by decide +kernel), ⟨by decide, by decide⟩, by decide +kernel⟩
theorem v_X6_wet : YV yX6_wet := ⟨(List.mem_of_getElem? (i := 1011) (by decide +kernel)), List.mem_of_getElem? (i := 1012) (by decide +kernel)⟩
theorem m_X6_move : YM yX6_move cX6_move 3 (some (.int)) 2 := ⟨⟨List.mem_of_getElem? (i := 1025) (by decide +kernel), by decide +kernel⟩, List.mem_of_getElem? (i := 55) (by decide +kernel), ⟨by decide, by decide⟩, by decide +kernel⟩
theorem v_X6_move : YV yX6_move := ⟨(List.mem_of_getElem? (i := 1023) (by decide +kernel)), List.mem_of_getElem? (i := 1024) (by decide +kernel)⟩
theorem m_X6_lot : YM yX6_lot cX6_lot 2 (some (.int)) 1 := ⟨⟨List.mem_of_getElem? (i := 1036) (by decide +kernel), by decide +kernel⟩, List.mem_of_getElem? (i := 55) (by decide +kernel), ⟨by decide, by decide⟩, by decide +kernel⟩
theorem v_X6_lot : YV yX6_lot := ⟨(List.mem_of_getElem? (i := 1034) (by decide +kernel)), List.mem_of_getElem? (i := 1035) (by decide +kernel)⟩
theorem m_X6_kind : YM yX6_kind cX6_kind 2 (some (.char)) 1 := ⟨⟨List.mem_of_getElem? (i := 1046) (by decide +kernel), by decide +kernel⟩, List.mem_of_getElem? (i := 55) (by decide +kernel), ⟨by decide, by decide⟩, by decide +kernel⟩
theorem v_X6_kind : YV yX6_kind := ⟨(List.mem_of_getElem? (i := 1044) (by decide +kernel)), List.mem_of_getElem? (i := 1045) (by decide +kernel)⟩
theorem m_X6_quantity : YM yX6_quantity cX6_quantity 2 (some (.int)) 1 := ⟨⟨List.mem_of_getElem? (i := 1063) (by decide +kernel), by decide +kernel⟩, List.mem_of_getElem? (i := 55) (by decide +kernel), ⟨by decide, by decide⟩, by decide +kernel⟩
theorem v_X6_quantity : YV yX6_quantity := ⟨(List.mem_of_getElem? (i := 1061) (by decide +kernel)), List.mem_of_getElem? (i := 1062) (by decide +kernel)⟩
theorem m_X6_price : YM yX6_price cX6_price 2 (some (.int)) 1 := ⟨⟨List.mem_of_getElem? (i := 1070) (by decide +kernel), by decide +kernel⟩, List.mem_of_getElem? (i := 55) (by decide +kernel), ⟨by decide, by decide⟩, by decide +kernel⟩
theorem v_X6_price : YV yX6_price := ⟨(List.mem_of_getElem? (i := 1068) (by decide +kernel)), List.mem_of_getElem? (i := 1069) (by decide +kernel)⟩
theorem m_X6_value : YM yX6_value cX6_value 2 (some (.int)) 1 := ⟨⟨List.mem_of_getElem? (i := 1077) (by decide +kernel), by decide +kernel⟩, List.mem_of_getElem? (i := 55) (by decide +kernel), ⟨by decide, by decide⟩, by decide +kernel⟩
theorem v_X6_value : YV yX6_value := ⟨(List.mem_of_getElem? (i := 1075) (by decide +kernel)), List.mem_of_getElem? (i := 1076) (by decide +kernel)⟩
theorem m_X6_bay : YM yX6_bay cX6_bay 2 (some (.int)) 1 := ⟨⟨List.mem_of_getElem? (i := 1085) (by decide +kernel), by decide +kernel⟩, List.mem_of_getElem? (i := 55) (by decide +kernel), ⟨by decide, by decide⟩, by decide +kernel⟩
theorem v_X6_bay : YV yX6_bay := ⟨(List.mem_of_getElem? (i := 1083) (by decide +kernel)), List.mem_of_getElem? (i := 1084) (by decide +kernel)⟩
theorem m_X6_isSealed : YM yX6_isSealed cX6_isSealed 2 (some (.boolean)) 1 := ⟨⟨List.mem_of_getElem? (i := 1092) (by decide +kernel), by decide +kernel⟩, List.mem_of_getElem? (i := 55) (by decide +kernel), ⟨by decide, by decide⟩, by decide +kernel⟩
theorem v_X6_isSealed : YV yX6_isSealed := ⟨(List.mem_of_getElem? (i := 1090) (by decide +kernel)), List.mem_of_getElem? (i := 1091) (by decide +kernel)⟩
theorem m_X6_isDamp : YM yX6_isDamp cX6_isDamp 2 (some (.boolean)) 1 := ⟨⟨List.mem_of_getElem? (i := 1099) (by decide +kernel), by decide +kernel⟩, List.mem_of_getElem? (i := 55) (by decide +kernel), ⟨by decide, by decide⟩, by decide +kernel⟩
theorem v_X6_isDamp : YV yX6_isDamp := ⟨(List.mem_of_getElem? (i := 1097) (by decide +kernel)), List.mem_of_getElem? (i := 1098) (by decide +kernel)⟩
theorem m_X6_lotAt : YM yX6_lotAt cX6_lotAt 3 (some (.int)) 1 := ⟨⟨List.mem_of_getElem? (i := 1106) (by decide +kernel), by decide +kernel⟩, List.mem_of_getElem? (i := 55) (by decide +kernel), ⟨by decide, by decide⟩, by decide +kernel⟩
theorem v_X6_lotAt : YV yX6_lotAt := ⟨(List.mem_of_getElem? (i := 1104) (by decide +kernel)), List.mem_of_getElem? (i := 1105) (by decide +kernel)⟩
theorem m_X6_nextEmptyBay : YM yX6_nextEmptyBay cX6_nextEmptyBay 3 (some (.int)) 1 := ⟨⟨List.mem_of_getElem? (i := 1115) (by decide +kernel), by decide +kernel⟩, List.mem_of_getElem? (i := 55) (by decide +kernel), ⟨by decide, by decide⟩, by decide +kernel⟩
theorem v_X6_nextEmptyBay : YV yX6_nextEmptyBay := ⟨(List.mem_of_getElem? (i := 1113) (by decide +kernel)), List.mem_of_getElem? (i := 1114) (by decide +kernel)⟩
theorem m_X6_quantityOfKind : YM yX6_quantityOfKind cX6_quantityOfKind 2 (some (.int)) 1 := ⟨⟨List.mem_of_getElem? (i := 1123) (by decide +kernel), by decide +kernel⟩, List.mem_of_getElem? (i := 55) (by decide +kernel), ⟨by decide, by decide⟩, by decide +kernel⟩
theorem v_X6_quantityOfKind : YV yX6_quantityOfKind := ⟨(List.mem_of_getElem? (i := 1121) (by decide +kernel)), List.mem_of_getElem? (i := 1122) (by decide +kernel)⟩
theorem m_X6_lotByValue : YM yX6_lotByValue cX6_lotByValue 3 (some (.int)) 1 := ⟨⟨List.mem_of_getElem? (i := 1137) (by decide +kernel), by decide +kernel⟩, List.mem_of_getElem? (i := 55) (by decide +kernel), ⟨by decide, by decide⟩, by decide +kernel⟩
theorem v_X6_lotByValue : YV yX6_lotByValue := ⟨(List.mem_of_getElem? (i := 1135) (by decide +kernel)), List.mem_of_getElem? (i := 1136) (by decide +kernel)⟩
theorem m_X6_addStep : YM yX6_addStep cX6_addStep 3 (some (.int)) 2 := ⟨⟨List.mem_of_getElem? (i := 1155) (by decide +kernel), by decide +kernel⟩, List.mem_of_getElem? (i := 55) (by decide +kernel), ⟨by decide, by decide⟩, by decide +kernel⟩
theorem v_X6_addStep : YV yX6_addStep := ⟨(List.mem_of_getElem? (i := 1153) (by decide +kernel)), List.mem_of_getElem? (i := 1154) (by decide +kernel)⟩
theorem m_X6_removeStep : YM yX6_removeStep cX6_removeStep 2 (some (.int)) 1 := ⟨⟨List.mem_of_getElem? (i := 1170) (by decide +kernel), by decide +kernel⟩, List.mem_of_getElem? (i := 55) (by decide +kernel), ⟨by decide, by decide⟩, by decide +kernel⟩
theorem v_X6_removeStep : YV yX6_removeStep := ⟨(List.mem_of_getElem? (i := 1168) (by decide +kernel)), List.mem_of_getElem? (i := 1169) (by decide +kernel)⟩
theorem m_X6_threshold : YM yX6_threshold cX6_threshold 2 (some (.int)) 1 := ⟨⟨List.mem_of_getElem? (i := 1181) (by decide +kernel), by decide +kernel⟩, List.mem_of_getElem? (i := 55) (by decide +kernel), ⟨by decide, by decide⟩, by decide +kernel⟩
theorem v_X6_threshold : YV yX6_threshold := ⟨(List.mem_of_getElem? (i := 1179) (by decide +kernel)), List.mem_of_getElem? (i := 1180) (by decide +kernel)⟩
theorem m_X6_rate : YM yX6_rate cX6_rate 2 (some (.int)) 1 := ⟨⟨List.mem_of_getElem? (i := 1188) (by decide +kernel), by decide +kernel⟩, List.mem_of_getElem? (i := 55) (by decide +kernel), ⟨by decide, by decide⟩, by decide +kernel⟩
theorem v_X6_rate : YV yX6_rate := ⟨(List.mem_of_getElem? (i := 1186) (by decide +kernel)), List.mem_of_getElem? (i := 1187) (by decide +kernel)⟩
theorem m_X6_dutyOn : YM yX6_dutyOn cX6_dutyOn 2 (some (.int)) 1 := ⟨⟨List.mem_of_getElem? (i := 1195) (by decide +kernel), by decide +kernel⟩, List.mem_of_getElem? (i := 55) (by decide +kernel), ⟨by decide, by decide⟩, by decide +kernel⟩
theorem v_X6_dutyOn : YV yX6_dutyOn := ⟨(List.mem_of_getElem? (i := 1193) (by decide +kernel)), List.mem_of_getElem? (i := 1194) (by decide +kernel)⟩
theorem m_X6_dutyOnByCoins : YM yX6_dutyOnByCoins cX6_dutyOnByCoins 2 (some (.int)) 1 := ⟨⟨List.mem_of_getElem? (i := 1207) (by decide +kernel), by decide +kernel⟩, List.mem_of_getElem? (i := 55) (by decide +kernel), ⟨by decide, by decide⟩, by decide +kernel⟩
theorem v_X6_dutyOnByCoins : YV yX6_dutyOnByCoins := ⟨(List.mem_of_getElem? (i := 1205) (by decide +kernel)), List.mem_of_getElem? (i := 1206) (by decide +kernel)⟩
theorem m_X6_duty : YM yX6_duty cX6_duty 2 (some (.int)) 1 := ⟨⟨List.mem_of_getElem? (i := 1215) (by decide +kernel), by decide +kernel⟩, List.mem_of_getElem? (i := 55) (by decide +kernel), ⟨by decide, by decide⟩, by decide +kernel⟩
theorem v_X6_duty : YV yX6_duty := ⟨(List.mem_of_getElem? (i := 1213) (by decide +kernel)), List.mem_of_getElem? (i := 1214) (by decide +kernel)⟩
theorem m_X6_passDays : YM yX6_passDays cX6_passDays 2 (some (.int)) 1 := ⟨⟨List.mem_of_getElem? (i := 1223) (by decide +kernel), by decide +kernel⟩, List.mem_of_getElem? (i := 55) (by decide +kernel), ⟨by decide, by decide⟩, by decide +kernel⟩
theorem v_X6_passDays : YV yX6_passDays := ⟨(List.mem_of_getElem? (i := 1221) (by decide +kernel)), List.mem_of_getElem? (i := 1222) (by decide +kernel)⟩
theorem m_X6_dampAfter : YM yX6_dampAfter cX6_dampAfter 2 (some (.int)) 1 := ⟨⟨List.mem_of_getElem? (i := 1256) (by decide +kernel), by decide +kernel⟩, List.mem_of_getElem? (i := 55) (by decide +kernel), ⟨by decide, by decide⟩, by decide +kernel⟩
theorem v_X6_dampAfter : YV yX6_dampAfter := ⟨(List.mem_of_getElem? (i := 1254) (by decide +kernel)), List.mem_of_getElem? (i := 1255) (by decide +kernel)⟩
theorem m_X6_enqueue : YM yX6_enqueue cX6_enqueue 2 (some (.int)) 1 := ⟨⟨List.mem_of_getElem? (i := 1264) (by decide +kernel), by decide +kernel⟩, List.mem_of_getElem? (i := 55) (by decide +kernel), ⟨by decide, by decide⟩, by decide +kernel⟩
theorem v_X6_enqueue : YV yX6_enqueue := ⟨(List.mem_of_getElem? (i := 1262) (by decide +kernel)), List.mem_of_getElem? (i := 1263) (by decide +kernel)⟩
theorem m_X6_audit : YM yX6_audit cX6_audit 1 (some (.int)) 0 := ⟨⟨List.mem_of_getElem? (i := 1283) (by decide +kernel), by decide +kernel⟩, List.mem_of_getElem? (i := 55) (by decide +kernel), ⟨by decide, by decide⟩, by decide +kernel⟩
theorem v_X6_audit : YV yX6_audit := ⟨(List.mem_of_getElem? (i := 1281) (by decide +kernel)), List.mem_of_getElem? (i := 1282) (by decide +kernel)⟩
theorem m_X6_queued : YM yX6_queued cX6_queued 2 (some (.int)) 1 := ⟨⟨List.mem_of_getElem? (i := 1294) (by decide +kernel), by decide +kernel⟩, List.mem_of_getElem? (i := 55) (by decide +kernel), ⟨by decide, by decide⟩, by decide +kernel⟩
theorem v_X6_queued : YV yX6_queued := ⟨(List.mem_of_getElem? (i := 1292) (by decide +kernel)), List.mem_of_getElem? (i := 1293) (by decide +kernel)⟩
theorem m_X6_deposit : YM yX6_deposit cX6_deposit 2 (some (.int)) 1 := ⟨⟨List.mem_of_getElem? (i := 1301) (by decide +kernel), by decide +kernel⟩, List.mem_of_getElem? (i := 55) (by decide +kernel), ⟨by decide, by decide⟩, by decide +kernel⟩
theorem v_X6_deposit : YV yX6_deposit := ⟨(List.mem_of_getElem? (i := 1299) (by decide +kernel)), List.mem_of_getElem? (i := 1300) (by decide +kernel)⟩
theorem m_X6_release : YM yX6_release cX6_release 2 (some (.int)) 1 := ⟨⟨List.mem_of_getElem? (i := 1312) (by decide +kernel), by decide +kernel⟩, List.mem_of_getElem? (i := 55) (by decide +kernel), ⟨by decide, by decide⟩, by decide +kernel⟩
theorem v_X6_release : YV yX6_release := ⟨(List.mem_of_getElem? (i := 1310) (by decide +kernel)), List.mem_of_getElem? (i := 1311) (by decide +kernel)⟩
theorem m_X6_writeLot : YM yX6_writeLot cX6_writeLot 4 (some (.int)) 1 := ⟨⟨List.mem_of_getElem? (i := 1359) (by decide +kernel), by decide +kernel⟩, List.mem_of_getElem? (i := 55) (by decide +kernel), ⟨by decide, by decide⟩, by decide +kernel⟩
theorem v_X6_writeLot : YV yX6_writeLot := ⟨(List.mem_of_getElem? (i := 1357) (by decide +kernel)), List.mem_of_getElem? (i := 1358) (by decide +kernel)⟩
theorem m_X6_outputCharacter : YM yX6_outputCharacter cX6_outputCharacter 2 (some (.char)) 1 := ⟨⟨List.mem_of_getElem? (i := 1368) (by decide +kernel), by decide +kernel⟩, List.mem_of_getElem? (i := 55) (by decide +kernel), ⟨by decide, by decide⟩, by decide +kernel⟩
theorem v_X6_outputCharacter : YV yX6_outputCharacter := ⟨(List.mem_of_getElem? (i := 1366) (by decide +kernel)), List.mem_of_getElem? (i := 1367) (by decide +kernel)⟩
theorem m_X6_feed : YM yX6_feed cX6_feed 2 (some (.int)) 1 := ⟨⟨List.mem_of_getElem? (i := 1385) (by decide +kernel), by decide +kernel⟩, List.mem_of_getElem? (i := 55) (by decide +kernel), ⟨by decide, by decide⟩, by decide +kernel⟩
theorem v_X6_feed : YV yX6_feed := ⟨(List.mem_of_getElem? (i := 1383) (by decide +kernel)), List.mem_of_getElem? (i := 1384) (by decide +kernel)⟩
theorem m_X6_execute : YM yX6_execute cX6_execute 3 (some (.int)) 0 := ⟨⟨List.mem_of_getElem? (i := 1401) (by decide +kernel), by decide +kernel⟩, List.mem_of_getElem? (i := 55) (by decide +kernel), ⟨by decide, by decide⟩, by decide +kernel⟩
theorem v_X6_execute : YV yX6_execute := ⟨(List.mem_of_getElem? (i := 1399) (by decide +kernel)), List.mem_of_getElem? (i := 1400) (by decide +kernel)⟩
theorem m_X6_errorPosition : YM yX6_errorPosition cX6_errorPosition 1 (some (.int)) 0 := ⟨⟨List.mem_of_getElem? (i := 1506) (by decide +kernel), by decide +kernel⟩, List.mem_of_getElem? (i := 55) (by decide +kernel), ⟨by decide, by decide⟩, by decide +kernel⟩
theorem v_X6_errorPosition : YV yX6_errorPosition := ⟨(List.mem_of_getElem? (i := 1504) (by decide +kernel)), List.mem_of_getElem? (i := 1505) (by decide +kernel)⟩
theorem m_X6_failedCommand : YM yX6_failedCommand cX6_failedCommand 1 (some (.int)) 0 := ⟨⟨List.mem_of_getElem? (i := 1514) (by decide +kernel), by decide +kernel⟩, List.mem_of_getElem? (i := 55) (by decide +kernel), ⟨by decide, by decide⟩, by decide +kernel⟩
theorem v_X6_failedCommand : YV yX6_failedCommand := ⟨(List.mem_of_getElem? (i := 1512) (by decide +kernel)), List.mem_of_getElem? (i := 1513) (by decide +kernel)⟩
theorem m_X6_undo : YM yX6_undo cX6_undo 1 (some (.int)) 0 := ⟨⟨List.mem_of_getElem? (i := 1522) (by decide +kernel), by decide +kernel⟩, List.mem_of_getElem? (i := 55) (by decide +kernel), ⟨by decide, by decide⟩, by decide +kernel⟩
theorem v_X6_undo : YV yX6_undo := ⟨(List.mem_of_getElem? (i := 1520) (by decide +kernel)), List.mem_of_getElem? (i := 1521) (by decide +kernel)⟩
theorem m_X6_restore : YM yX6_restore cX6_restore 2 (some (.int)) 0 := ⟨⟨List.mem_of_getElem? (i := 1535) (by decide +kernel), by decide +kernel⟩, List.mem_of_getElem? (i := 55) (by decide +kernel), ⟨by decide, by decide⟩, by decide +kernel⟩
theorem v_X6_restore : YV yX6_restore := ⟨(List.mem_of_getElem? (i := 1533) (by decide +kernel)), List.mem_of_getElem? (i := 1534) (by decide +kernel)⟩
theorem flag_isSealed {M M' : Mem} {x r : Int32} (h : f_X7_isSealed M x = some (r, M')) : r = 0 ∨ r = 1 := by
  unfold f_X7_isSealed at h
  cases hq : f_X7_asked M x 5 with
  | none => rw [hq] at h; cases h
  | some z =>
    rw [hq, ob] at h
    dsimp only at h
    split at h
    · exact Or.inr (congrArg Prod.fst (Option.some.inj h)).symm
    · exact Or.inl (congrArg Prod.fst (Option.some.inj h)).symm
theorem flag_isDamp {M M' : Mem} {x r : Int32} (h : f_X7_isDamp M x = some (r, M')) : r = 0 ∨ r = 1 := by
  unfold f_X7_isDamp at h
  cases hq : f_X7_asked M x 6 with
  | none => rw [hq] at h; cases h
  | some z =>
    rw [hq, ob] at h
    dsimp only at h
    split at h
    · exact Or.inr (congrArg Prod.fst (Option.some.inj h)).symm
    · exact Or.inl (congrArg Prod.fst (Option.some.inj h)).symm
set_option maxRecDepth 100000 in
set_option maxHeartbeats 4000000 in
theorem l_addLot {G : cG} (g : GOK G) (gM : MG G) (hNC : NcG G) {ad : Nat → Nat → Nat} {fo : Nat} {f0 : Nat → Int64} {N : Nat} {K S Fc C D B : Mem} {cu ct : Nat} {hs : hS} {sv : sV} {ou : oB} {M : Mem} {x1 x2 x3 x4 : Int32} (h : Top N K S C cu ct hs sv ou M) (hN : N < 2 ^ 29) : CXH G yL_addLot cL_addLot 7 [(0, 14, 17, 13), (0, 14, 21, 15), (0, 14, 25, 17), (0, 14, 29, 19)] 41 1600 20 200 [.ref ((ad 0) 0), .int x1, .int x2, .int x3, .int x4, .ref fo] (fl (wLaw G.2.1 ad K S Fc C D B cu ct hs sv ou [(fo, .inl (G.2.1 4, 1, .inr (.inl f0)))])) (LOK G ad fo N (f_X7_addLot M x1 x2 x3 x4)) := by
  refine CXH.of g (by decide) rfl (Nat.le_of_ble_eq_true rfl) (List.mem_of_getElem? (i := 865) (by decide +kernel)) (by rfl) ?_
  intro p l e s m below meth c A ls hst htab F hr hlocks w hl
  generalize ([.ref ((ad 0) 0), .int x1, .int x2, .int x3, .int x4, .ref fo] : List Value).toArray = args
  have hl : lv_has ls 7 [(0, .ref ((ad 0) 0)), (1, .int x1), (2, .int x2), (3, .int x3), (4, .int x4), (5, .ref fo)] := hl
  have w : Wd G A s.heap (fl [wXo G.2.1 (ad 0) (xF ad) (svV sv) K, wSh G.2.1 (ad 1) S, wSh G.2.1 (ad 2) Fc, wTe G.2.1 (ad 4) C, wSb G.2.1 (ad 5) ou, wAd G.2.1 (ad 6) D, wAb G.2.1 (ad 7) B, wHo G.2.1 (ad 3) cu ct hs, [(fo, .inl (G.2.1 4, 1, .inr (.inl f0)))], hsL G.2.1 hs, blk G.2.1 sv]) _ _ := w
  refine lv_aload F.x F.b dL_addLot_0 (lv_at hl 5 rfl) ?_
  refine lv_iconst (v := 0) F.x F.b dL_addLot_2 (by decide) ?_
  refine lv_aload_n F.x F.b dL_addLot_3 rfl (lv_at hl 0 rfl) ?_
  refine lv_iload_n F.x F.b dL_addLot_4 rfl (lv_at hl 1 rfl) ?_
  refine lv_iload_n F.x F.b dL_addLot_5 rfl (lv_at hl 2 rfl) ?_
  refine lv_iload_n F.x F.b dL_addLot_6 rfl (lv_at hl 3 rfl) ?_
  refine lv_iload F.x F.b dL_addLot_7 (lv_at hl 4 rfl) ?_
  refine kXi F w hst (LC := [wXo G.2.1 (ad 0) (xF ad) (svV sv) K, wSh G.2.1 (ad 1) S, wSh G.2.1 (ad 2) Fc, wTe G.2.1 (ad 4) C, wSb G.2.1 (ad 5) ou, wAd G.2.1 (ad 6) D, wAb G.2.1 (ad 7) B, wHo G.2.1 (ad 3) cu ct hs, hsL G.2.1 hs, blk G.2.1 sv]) (LR := [[(fo, .inl (G.2.1 4, 1, .inr (.inl f0)))]]) (As := [.int x1, .int x2, .int x3, .int x4]) (rest := [.int 0, .ref fo]) (k_addLot F.1 gM h hN) m_X6_addLot v_X6_addLot q872 (ci := 10) (q0 := 0) rfl rfl rfl 11 [0, 1, 2, 3, 4, 5, 6, 7, 9, 10, 8] rfl rfl rfl ⟨Nat.le_of_ble_eq_true rfl, Nat.le_of_ble_eq_true rfl⟩ rfl hl.1 rfl (Nat.le_of_ble_eq_true rfl) dL_addLot_9 ⟨Nat.le_of_ble_eq_true rfl, Nat.le_of_ble_eq_true rfl⟩ (fun E w1 ce q H locs hx w hce hcv hcl => ?_) (fun r9 w1 H locs h9 w => ?_)
  · obtain ⟨K1, S1, Fc1, C1, D1, B1, cu1, ct1, hs1, sv1, ou1, M1, b1, k1, h9, e2, e3, hm, e4⟩ := hx
    have w := w.jn (L1 := [wXo G.2.1 (ad 0) (xF ad) (svV sv1) K1, wSh G.2.1 (ad 1) S1, wSh G.2.1 (ad 2) Fc1, wTe G.2.1 (ad 4) C1, wSb G.2.1 (ad 5) ou1, wAd G.2.1 (ad 6) D1, wAb G.2.1 (ad 7) B1, wHo G.2.1 (ad 3) cu1 ct1 hs1, hsL G.2.1 hs1, blk G.2.1 sv1]) (L' := [wXo G.2.1 (ad 0) (xF ad) (svV sv1) K1, wSh G.2.1 (ad 1) S1, wSh G.2.1 (ad 2) Fc1, wTe G.2.1 (ad 4) C1, wSb G.2.1 (ad 5) ou1, wAd G.2.1 (ad 6) D1, wAb G.2.1 (ad 7) B1, wHo G.2.1 (ad 3) cu1 ct1 hs1, [(fo, .inl (G.2.1 4, 1, .inr (.inl f0)))], hsL G.2.1 hs1, blk G.2.1 sv1]) h9 11 [0, 1, 2, 3, 4, 5, 6, 7, 10, 8, 9] rfl rfl rfl
    simp only [List.mem_cons, List.not_mem_nil, or_false, Prod.mk.injEq] at hm
    rcases hm with ⟨rfl, rfl⟩ | ⟨rfl, rfl⟩ | ⟨rfl, rfl⟩ | ⟨rfl, rfl⟩
    · refine vx_catch F.o (name := eIOB) (tableOf []) ⟨0, 14, 17, 13⟩ (tableOf [(0, 14, 21, 15), (0, 14, 25, 17), (0, 14, 29, 19)]) htab pass_nil rfl (by decide) (F.t _ (List.mem_of_getElem? (i := 866) (by decide +kernel)) rfl _) (F.t _ (List.mem_of_getElem? (i := 924) (by decide +kernel)) rfl _) hce hcv hcl ?_
      refine lv_astore (lv' := [(6, .ref q), (0, .ref ((ad 0) 0)), (1, .int x1), (2, .int x2), (3, .int x3), (4, .int x4), (5, .ref fo)]) F.x F.b dL_addLot_17 hl (by decide) rfl (fun ls hl => ?_)
      refine lv_iconst (v := 1) F.x F.b dL_addLot_19 (by decide) ?_
      exact eiX F w hr hlocks rfl ⟨K1, S1, Fc1, C1, D1, B1, cu1, ct1, hs1, sv1, ou1, M1, b1, f0, rfl, e2, e3, e4, fun z => absurd z (by decide)⟩ (Nat.le_of_ble_eq_true rfl) (Nat.le_of_ble_eq_true rfl) dL_addLot_20
    · refine vx_catch F.o (name := eIAE) (tableOf [(0, 14, 17, 13)]) ⟨0, 14, 21, 15⟩ (tableOf [(0, 14, 25, 17), (0, 14, 29, 19)]) htab (pass_cons F hNC (by decide) (T := eIOB) (List.mem_of_getElem? (i := 866) (by decide +kernel)) (by decide +kernel : eIAE ∈ allE) (by decide +kernel : eIOB ∈ allE) (by decide +kernel) pass_nil) rfl (by decide) (F.t _ (List.mem_of_getElem? (i := 869) (by decide +kernel)) rfl _) (F.t _ (List.mem_of_getElem? (i := 647) (by decide +kernel)) rfl _) hce hcv hcl ?_
      refine lv_astore (lv' := [(6, .ref q), (0, .ref ((ad 0) 0)), (1, .int x1), (2, .int x2), (3, .int x3), (4, .int x4), (5, .ref fo)]) F.x F.b dL_addLot_21 hl (by decide) rfl (fun ls hl => ?_)
      refine lv_iconst (v := 2) F.x F.b dL_addLot_23 (by decide) ?_
      exact eiX F w hr hlocks rfl ⟨K1, S1, Fc1, C1, D1, B1, cu1, ct1, hs1, sv1, ou1, M1, b1, f0, rfl, e2, e3, e4, fun z => absurd z (by decide)⟩ (Nat.le_of_ble_eq_true rfl) (Nat.le_of_ble_eq_true rfl) dL_addLot_24
    · refine vx_catch F.o (name := eISE) (tableOf [(0, 14, 17, 13), (0, 14, 21, 15)]) ⟨0, 14, 25, 17⟩ (tableOf [(0, 14, 29, 19)]) htab (pass_cons F hNC (by decide) (T := eIOB) (List.mem_of_getElem? (i := 866) (by decide +kernel)) (by decide +kernel : eISE ∈ allE) (by decide +kernel : eIOB ∈ allE) (by decide +kernel) (pass_cons F hNC (by decide) (T := eIAE) (List.mem_of_getElem? (i := 869) (by decide +kernel)) (by decide +kernel : eISE ∈ allE) (by decide +kernel : eIAE ∈ allE) (by decide +kernel) pass_nil)) rfl (by decide) (F.t _ (List.mem_of_getElem? (i := 870) (by decide +kernel)) rfl _) (F.t _ (List.mem_of_getElem? (i := 944) (by decide +kernel)) rfl _) hce hcv hcl ?_
      refine lv_astore (lv' := [(6, .ref q), (0, .ref ((ad 0) 0)), (1, .int x1), (2, .int x2), (3, .int x3), (4, .int x4), (5, .ref fo)]) F.x F.b dL_addLot_25 hl (by decide) rfl (fun ls hl => ?_)
      refine lv_iconst (v := 3) F.x F.b dL_addLot_27 (by decide) ?_
      exact eiX F w hr hlocks rfl ⟨K1, S1, Fc1, C1, D1, B1, cu1, ct1, hs1, sv1, ou1, M1, b1, f0, rfl, e2, e3, e4, fun z => absurd z (by decide)⟩ (Nat.le_of_ble_eq_true rfl) (Nat.le_of_ble_eq_true rfl) dL_addLot_28
    · refine vx_catch F.o (name := eUOE) (tableOf [(0, 14, 17, 13), (0, 14, 21, 15), (0, 14, 25, 17)]) ⟨0, 14, 29, 19⟩ (tableOf []) htab (pass_cons F hNC (by decide) (T := eIOB) (List.mem_of_getElem? (i := 866) (by decide +kernel)) (by decide +kernel : eUOE ∈ allE) (by decide +kernel : eIOB ∈ allE) (by decide +kernel) (pass_cons F hNC (by decide) (T := eIAE) (List.mem_of_getElem? (i := 869) (by decide +kernel)) (by decide +kernel : eUOE ∈ allE) (by decide +kernel : eIAE ∈ allE) (by decide +kernel) (pass_cons F hNC (by decide) (T := eISE) (List.mem_of_getElem? (i := 870) (by decide +kernel)) (by decide +kernel : eUOE ∈ allE) (by decide +kernel : eISE ∈ allE) (by decide +kernel) pass_nil))) rfl (by decide) (F.t _ (List.mem_of_getElem? (i := 871) (by decide +kernel)) rfl _) (F.t _ (List.mem_of_getElem? (i := 959) (by decide +kernel)) rfl _) hce hcv hcl ?_
      refine lv_astore (lv' := [(6, .ref q), (0, .ref ((ad 0) 0)), (1, .int x1), (2, .int x2), (3, .int x3), (4, .int x4), (5, .ref fo)]) F.x F.b dL_addLot_29 hl (by decide) rfl (fun ls hl => ?_)
      refine lv_iconst (v := 4) F.x F.b dL_addLot_31 (by decide) ?_
      exact eiX F w hr hlocks rfl ⟨K1, S1, Fc1, C1, D1, B1, cu1, ct1, hs1, sv1, ou1, M1, b1, f0, rfl, e2, e3, e4, fun z => absurd z (by decide)⟩ (Nat.le_of_ble_eq_true rfl) (Nat.le_of_ble_eq_true rfl) dL_addLot_32
  · obtain ⟨K1, S1, Fc1, C1, D1, B1, cu1, ct1, hs1, sv1, ou1, M1, h9, e2, e3, e4⟩ := h9
    have w := w.jn (L1 := [wXo G.2.1 (ad 0) (xF ad) (svV sv1) K1, wSh G.2.1 (ad 1) S1, wSh G.2.1 (ad 2) Fc1, wTe G.2.1 (ad 4) C1, wSb G.2.1 (ad 5) ou1, wAd G.2.1 (ad 6) D1, wAb G.2.1 (ad 7) B1, wHo G.2.1 (ad 3) cu1 ct1 hs1, hsL G.2.1 hs1, blk G.2.1 sv1]) (L' := [wXo G.2.1 (ad 0) (xF ad) (svV sv1) K1, wSh G.2.1 (ad 1) S1, wSh G.2.1 (ad 2) Fc1, wTe G.2.1 (ad 4) C1, wSb G.2.1 (ad 5) ou1, wAd G.2.1 (ad 6) D1, wAb G.2.1 (ad 7) B1, wHo G.2.1 (ad 3) cu1 ct1 hs1, [(fo, .inl (G.2.1 4, 1, .inr (.inl f0)))], hsL G.2.1 hs1, blk G.2.1 sv1]) h9 11 [0, 1, 2, 3, 4, 5, 6, 7, 10, 8, 9] rfl rfl rfl
    refine lv_i2l (v := (Int32.toInt64 r9)) F.x F.b dL_addLot_12 rfl ?_
    refine rLs F w (ws' := fl [wXo G.2.1 (ad 0) (xF ad) (svV sv1) K1, wSh G.2.1 (ad 1) S1, wSh G.2.1 (ad 2) Fc1, wTe G.2.1 (ad 4) C1, wSb G.2.1 (ad 5) ou1, wAd G.2.1 (ad 6) D1, wAb G.2.1 (ad 7) B1, wHo G.2.1 (ad 3) cu1 ct1 hs1, [(fo, .inl (G.2.1 4, 1, .inr (.inl (vp_updL f0 (Int32.toNatClampNeg 0) (Int32.toInt64 r9)))))], hsL G.2.1 hs1, blk G.2.1 sv1]) 38 rfl (by decide) rfl dL_addLot_13 (fun H locs w => ?_)
    refine lv_goto (tgt := 33) F.x F.b dL_addLot_14 (by decide) ?_
    refine lv_iconst (v := 0) F.x F.b dL_addLot_33 (by decide) ?_
    exact eiX F w hr hlocks rfl ⟨K1, S1, Fc1, C1, D1, B1, cu1, ct1, hs1, sv1, ou1, M1, r9, _, rfl, e2, e3, e4, fun _ => updL0 _ _⟩ (Nat.le_of_ble_eq_true rfl) (Nat.le_of_ble_eq_true rfl) dL_addLot_34
set_option maxRecDepth 100000 in
set_option maxHeartbeats 4000000 in
theorem l_seal {G : cG} (g : GOK G) (gM : MG G) (hNC : NcG G) {ad : Nat → Nat → Nat} {fo : Nat} {f0 : Nat → Int64} {N : Nat} {K S Fc C D B : Mem} {cu ct : Nat} {hs : hS} {sv : sV} {ou : oB} {M : Mem} {x1 : Int32} (h : Top N K S C cu ct hs sv ou M) (hN : N < 2 ^ 29) : CXH G yL_seal cL_seal 4 [(0, 9, 12, 25), (0, 9, 15, 17), (0, 9, 18, 19)] 41 1600 20 200 [.ref ((ad 0) 0), .int x1, .ref fo] (fl (wLaw G.2.1 ad K S Fc C D B cu ct hs sv ou [(fo, .inl (G.2.1 4, 1, .inr (.inl f0)))])) (LOK G ad fo N (f_X7_seal M x1)) := by
  refine CXH.of g (by decide) rfl (Nat.le_of_ble_eq_true rfl) (List.mem_of_getElem? (i := 978) (by decide +kernel)) (by rfl) ?_
  intro p l e s m below meth c A ls hst htab F hr hlocks w hl
  generalize ([.ref ((ad 0) 0), .int x1, .ref fo] : List Value).toArray = args
  have hl : lv_has ls 4 [(0, .ref ((ad 0) 0)), (1, .int x1), (2, .ref fo)] := hl
  have w : Wd G A s.heap (fl [wXo G.2.1 (ad 0) (xF ad) (svV sv) K, wSh G.2.1 (ad 1) S, wSh G.2.1 (ad 2) Fc, wTe G.2.1 (ad 4) C, wSb G.2.1 (ad 5) ou, wAd G.2.1 (ad 6) D, wAb G.2.1 (ad 7) B, wHo G.2.1 (ad 3) cu ct hs, [(fo, .inl (G.2.1 4, 1, .inr (.inl f0)))], hsL G.2.1 hs, blk G.2.1 sv]) _ _ := w
  refine lv_aload_n F.x F.b dL_seal_0 rfl (lv_at hl 2 rfl) ?_
  refine lv_iconst (v := 0) F.x F.b dL_seal_1 (by decide) ?_
  refine lv_aload_n F.x F.b dL_seal_2 rfl (lv_at hl 0 rfl) ?_
  refine lv_iload_n F.x F.b dL_seal_3 rfl (lv_at hl 1 rfl) ?_
  refine kXi F w hst (LC := [wXo G.2.1 (ad 0) (xF ad) (svV sv) K, wSh G.2.1 (ad 1) S, wSh G.2.1 (ad 2) Fc, wTe G.2.1 (ad 4) C, wSb G.2.1 (ad 5) ou, wAd G.2.1 (ad 6) D, wAb G.2.1 (ad 7) B, wHo G.2.1 (ad 3) cu ct hs, hsL G.2.1 hs, blk G.2.1 sv]) (LR := [[(fo, .inl (G.2.1 4, 1, .inr (.inl f0)))]]) (As := [.int x1]) (rest := [.int 0, .ref fo]) (k_seal F.1 gM h hN) m_X6_seal v_X6_seal q980 (ci := 10) (q0 := 0) rfl rfl rfl 11 [0, 1, 2, 3, 4, 5, 6, 7, 9, 10, 8] rfl rfl rfl ⟨Nat.le_of_ble_eq_true rfl, Nat.le_of_ble_eq_true rfl⟩ rfl hl.1 rfl (Nat.le_of_ble_eq_true rfl) dL_seal_4 ⟨Nat.le_of_ble_eq_true rfl, Nat.le_of_ble_eq_true rfl⟩ (fun E w1 ce q H locs hx w hce hcv hcl => ?_) (fun r9 w1 H locs h9 w => ?_)
  · obtain ⟨K1, S1, Fc1, C1, D1, B1, cu1, ct1, hs1, sv1, ou1, M1, b1, k1, h9, e2, e3, hm, e4⟩ := hx
    have w := w.jn (L1 := [wXo G.2.1 (ad 0) (xF ad) (svV sv1) K1, wSh G.2.1 (ad 1) S1, wSh G.2.1 (ad 2) Fc1, wTe G.2.1 (ad 4) C1, wSb G.2.1 (ad 5) ou1, wAd G.2.1 (ad 6) D1, wAb G.2.1 (ad 7) B1, wHo G.2.1 (ad 3) cu1 ct1 hs1, hsL G.2.1 hs1, blk G.2.1 sv1]) (L' := [wXo G.2.1 (ad 0) (xF ad) (svV sv1) K1, wSh G.2.1 (ad 1) S1, wSh G.2.1 (ad 2) Fc1, wTe G.2.1 (ad 4) C1, wSb G.2.1 (ad 5) ou1, wAd G.2.1 (ad 6) D1, wAb G.2.1 (ad 7) B1, wHo G.2.1 (ad 3) cu1 ct1 hs1, [(fo, .inl (G.2.1 4, 1, .inr (.inl f0)))], hsL G.2.1 hs1, blk G.2.1 sv1]) h9 11 [0, 1, 2, 3, 4, 5, 6, 7, 10, 8, 9] rfl rfl rfl
    simp only [List.mem_cons, List.not_mem_nil, or_false, Prod.mk.injEq] at hm
    rcases hm with ⟨rfl, rfl⟩ | ⟨rfl, rfl⟩ | ⟨rfl, rfl⟩
    · refine vx_catch F.o (name := eNSE) (tableOf []) ⟨0, 9, 12, 25⟩ (tableOf [(0, 9, 15, 17), (0, 9, 18, 19)]) htab pass_nil rfl (by decide) (F.t _ (List.mem_of_getElem? (i := 979) (by decide +kernel)) rfl _) (F.t _ (List.mem_of_getElem? (i := 903) (by decide +kernel)) rfl _) hce hcv hcl ?_
      refine lv_astore_n (lv' := [(3, .ref q), (0, .ref ((ad 0) 0)), (1, .int x1), (2, .ref fo)]) F.x F.b dL_seal_12 rfl hl (by decide) rfl (fun ls hl => ?_)
      refine lv_iconst (v := 1) F.x F.b dL_seal_13 (by decide) ?_
      exact eiX F w hr hlocks rfl ⟨K1, S1, Fc1, C1, D1, B1, cu1, ct1, hs1, sv1, ou1, M1, b1, f0, rfl, e2, e3, e4, fun z => absurd z (by decide)⟩ (Nat.le_of_ble_eq_true rfl) (Nat.le_of_ble_eq_true rfl) dL_seal_14
    · refine vx_catch F.o (name := eISE) (tableOf [(0, 9, 12, 25)]) ⟨0, 9, 15, 17⟩ (tableOf [(0, 9, 18, 19)]) htab (pass_cons F hNC (by decide) (T := eNSE) (List.mem_of_getElem? (i := 979) (by decide +kernel)) (by decide +kernel : eISE ∈ allE) (by decide +kernel : eNSE ∈ allE) (by decide +kernel) pass_nil) rfl (by decide) (F.t _ (List.mem_of_getElem? (i := 870) (by decide +kernel)) rfl _) (F.t _ (List.mem_of_getElem? (i := 944) (by decide +kernel)) rfl _) hce hcv hcl ?_
      refine lv_astore_n (lv' := [(3, .ref q), (0, .ref ((ad 0) 0)), (1, .int x1), (2, .ref fo)]) F.x F.b dL_seal_15 rfl hl (by decide) rfl (fun ls hl => ?_)
      refine lv_iconst (v := 2) F.x F.b dL_seal_16 (by decide) ?_
      exact eiX F w hr hlocks rfl ⟨K1, S1, Fc1, C1, D1, B1, cu1, ct1, hs1, sv1, ou1, M1, b1, f0, rfl, e2, e3, e4, fun z => absurd z (by decide)⟩ (Nat.le_of_ble_eq_true rfl) (Nat.le_of_ble_eq_true rfl) dL_seal_17
    · refine vx_catch F.o (name := eUOE) (tableOf [(0, 9, 12, 25), (0, 9, 15, 17)]) ⟨0, 9, 18, 19⟩ (tableOf []) htab (pass_cons F hNC (by decide) (T := eNSE) (List.mem_of_getElem? (i := 979) (by decide +kernel)) (by decide +kernel : eUOE ∈ allE) (by decide +kernel : eNSE ∈ allE) (by decide +kernel) (pass_cons F hNC (by decide) (T := eISE) (List.mem_of_getElem? (i := 870) (by decide +kernel)) (by decide +kernel : eUOE ∈ allE) (by decide +kernel : eISE ∈ allE) (by decide +kernel) pass_nil)) rfl (by decide) (F.t _ (List.mem_of_getElem? (i := 871) (by decide +kernel)) rfl _) (F.t _ (List.mem_of_getElem? (i := 959) (by decide +kernel)) rfl _) hce hcv hcl ?_
      refine lv_astore_n (lv' := [(3, .ref q), (0, .ref ((ad 0) 0)), (1, .int x1), (2, .ref fo)]) F.x F.b dL_seal_18 rfl hl (by decide) rfl (fun ls hl => ?_)
      refine lv_iconst (v := 3) F.x F.b dL_seal_19 (by decide) ?_
      exact eiX F w hr hlocks rfl ⟨K1, S1, Fc1, C1, D1, B1, cu1, ct1, hs1, sv1, ou1, M1, b1, f0, rfl, e2, e3, e4, fun z => absurd z (by decide)⟩ (Nat.le_of_ble_eq_true rfl) (Nat.le_of_ble_eq_true rfl) dL_seal_20
  · obtain ⟨K1, S1, Fc1, C1, D1, B1, cu1, ct1, hs1, sv1, ou1, M1, h9, e2, e3, e4⟩ := h9
    have w := w.jn (L1 := [wXo G.2.1 (ad 0) (xF ad) (svV sv1) K1, wSh G.2.1 (ad 1) S1, wSh G.2.1 (ad 2) Fc1, wTe G.2.1 (ad 4) C1, wSb G.2.1 (ad 5) ou1, wAd G.2.1 (ad 6) D1, wAb G.2.1 (ad 7) B1, wHo G.2.1 (ad 3) cu1 ct1 hs1, hsL G.2.1 hs1, blk G.2.1 sv1]) (L' := [wXo G.2.1 (ad 0) (xF ad) (svV sv1) K1, wSh G.2.1 (ad 1) S1, wSh G.2.1 (ad 2) Fc1, wTe G.2.1 (ad 4) C1, wSb G.2.1 (ad 5) ou1, wAd G.2.1 (ad 6) D1, wAb G.2.1 (ad 7) B1, wHo G.2.1 (ad 3) cu1 ct1 hs1, [(fo, .inl (G.2.1 4, 1, .inr (.inl f0)))], hsL G.2.1 hs1, blk G.2.1 sv1]) h9 11 [0, 1, 2, 3, 4, 5, 6, 7, 10, 8, 9] rfl rfl rfl
    refine lv_i2l (v := (Int32.toInt64 r9)) F.x F.b dL_seal_7 rfl ?_
    refine rLs F w (ws' := fl [wXo G.2.1 (ad 0) (xF ad) (svV sv1) K1, wSh G.2.1 (ad 1) S1, wSh G.2.1 (ad 2) Fc1, wTe G.2.1 (ad 4) C1, wSb G.2.1 (ad 5) ou1, wAd G.2.1 (ad 6) D1, wAb G.2.1 (ad 7) B1, wHo G.2.1 (ad 3) cu1 ct1 hs1, [(fo, .inl (G.2.1 4, 1, .inr (.inl (vp_updL f0 (Int32.toNatClampNeg 0) (Int32.toInt64 r9)))))], hsL G.2.1 hs1, blk G.2.1 sv1]) 38 rfl (by decide) rfl dL_seal_8 (fun H locs w => ?_)
    refine lv_goto (tgt := 21) F.x F.b dL_seal_9 (by decide) ?_
    refine lv_iconst (v := 0) F.x F.b dL_seal_21 (by decide) ?_
    exact eiX F w hr hlocks rfl ⟨K1, S1, Fc1, C1, D1, B1, cu1, ct1, hs1, sv1, ou1, M1, r9, _, rfl, e2, e3, e4, fun _ => updL0 _ _⟩ (Nat.le_of_ble_eq_true rfl) (Nat.le_of_ble_eq_true rfl) dL_seal_22
set_option maxRecDepth 100000 in
set_option maxHeartbeats 4000000 in
theorem l_open {G : cG} (g : GOK G) (gM : MG G) (hNC : NcG G) {ad : Nat → Nat → Nat} {fo : Nat} {f0 : Nat → Int64} {N : Nat} {K S Fc C D B : Mem} {cu ct : Nat} {hs : hS} {sv : sV} {ou : oB} {M : Mem} {x1 : Int32} (h : Top N K S C cu ct hs sv ou M) (hN : N < 2 ^ 29) : CXH G yL_open cL_open 4 [(0, 9, 12, 25), (0, 9, 15, 17)] 41 1600 20 200 [.ref ((ad 0) 0), .int x1, .ref fo] (fl (wLaw G.2.1 ad K S Fc C D B cu ct hs sv ou [(fo, .inl (G.2.1 4, 1, .inr (.inl f0)))])) (LOK G ad fo N (f_X7_open M x1)) := by
  refine CXH.of g (by decide) rfl (Nat.le_of_ble_eq_true rfl) (List.mem_of_getElem? (i := 998) (by decide +kernel)) (by rfl) ?_
  intro p l e s m below meth c A ls hst htab F hr hlocks w hl
  generalize ([.ref ((ad 0) 0), .int x1, .ref fo] : List Value).toArray = args
  have hl : lv_has ls 4 [(0, .ref ((ad 0) 0)), (1, .int x1), (2, .ref fo)] := hl
  have w : Wd G A s.heap (fl [wXo G.2.1 (ad 0) (xF ad) (svV sv) K, wSh G.2.1 (ad 1) S, wSh G.2.1 (ad 2) Fc, wTe G.2.1 (ad 4) C, wSb G.2.1 (ad 5) ou, wAd G.2.1 (ad 6) D, wAb G.2.1 (ad 7) B, wHo G.2.1 (ad 3) cu ct hs, [(fo, .inl (G.2.1 4, 1, .inr (.inl f0)))], hsL G.2.1 hs, blk G.2.1 sv]) _ _ := w
  refine lv_aload_n F.x F.b dL_open_0 rfl (lv_at hl 2 rfl) ?_
  refine lv_iconst (v := 0) F.x F.b dL_open_1 (by decide) ?_
  refine lv_aload_n F.x F.b dL_open_2 rfl (lv_at hl 0 rfl) ?_
  refine lv_iload_n F.x F.b dL_open_3 rfl (lv_at hl 1 rfl) ?_
  refine kXi F w hst (LC := [wXo G.2.1 (ad 0) (xF ad) (svV sv) K, wSh G.2.1 (ad 1) S, wSh G.2.1 (ad 2) Fc, wTe G.2.1 (ad 4) C, wSb G.2.1 (ad 5) ou, wAd G.2.1 (ad 6) D, wAb G.2.1 (ad 7) B, wHo G.2.1 (ad 3) cu ct hs, hsL G.2.1 hs, blk G.2.1 sv]) (LR := [[(fo, .inl (G.2.1 4, 1, .inr (.inl f0)))]]) (As := [.int x1]) (rest := [.int 0, .ref fo]) (k_open F.1 gM h hN) m_X6_open v_X6_open q999 (ci := 10) (q0 := 0) rfl rfl rfl 11 [0, 1, 2, 3, 4, 5, 6, 7, 9, 10, 8] rfl rfl rfl ⟨Nat.le_of_ble_eq_true rfl, Nat.le_of_ble_eq_true rfl⟩ rfl hl.1 rfl (Nat.le_of_ble_eq_true rfl) dL_open_4 ⟨Nat.le_of_ble_eq_true rfl, Nat.le_of_ble_eq_true rfl⟩ (fun E w1 ce q H locs hx w hce hcv hcl => ?_) (fun r9 w1 H locs h9 w => ?_)
  · obtain ⟨K1, S1, Fc1, C1, D1, B1, cu1, ct1, hs1, sv1, ou1, M1, b1, k1, h9, e2, e3, hm, e4⟩ := hx
    have w := w.jn (L1 := [wXo G.2.1 (ad 0) (xF ad) (svV sv1) K1, wSh G.2.1 (ad 1) S1, wSh G.2.1 (ad 2) Fc1, wTe G.2.1 (ad 4) C1, wSb G.2.1 (ad 5) ou1, wAd G.2.1 (ad 6) D1, wAb G.2.1 (ad 7) B1, wHo G.2.1 (ad 3) cu1 ct1 hs1, hsL G.2.1 hs1, blk G.2.1 sv1]) (L' := [wXo G.2.1 (ad 0) (xF ad) (svV sv1) K1, wSh G.2.1 (ad 1) S1, wSh G.2.1 (ad 2) Fc1, wTe G.2.1 (ad 4) C1, wSb G.2.1 (ad 5) ou1, wAd G.2.1 (ad 6) D1, wAb G.2.1 (ad 7) B1, wHo G.2.1 (ad 3) cu1 ct1 hs1, [(fo, .inl (G.2.1 4, 1, .inr (.inl f0)))], hsL G.2.1 hs1, blk G.2.1 sv1]) h9 11 [0, 1, 2, 3, 4, 5, 6, 7, 10, 8, 9] rfl rfl rfl
    simp only [List.mem_cons, List.not_mem_nil, or_false, Prod.mk.injEq] at hm
    rcases hm with ⟨rfl, rfl⟩ | ⟨rfl, rfl⟩
    · refine vx_catch F.o (name := eNSE) (tableOf []) ⟨0, 9, 12, 25⟩ (tableOf [(0, 9, 15, 17)]) htab pass_nil rfl (by decide) (F.t _ (List.mem_of_getElem? (i := 979) (by decide +kernel)) rfl _) (F.t _ (List.mem_of_getElem? (i := 903) (by decide +kernel)) rfl _) hce hcv hcl ?_
      refine lv_astore_n (lv' := [(3, .ref q), (0, .ref ((ad 0) 0)), (1, .int x1), (2, .ref fo)]) F.x F.b dL_open_12 rfl hl (by decide) rfl (fun ls hl => ?_)
      refine lv_iconst (v := 1) F.x F.b dL_open_13 (by decide) ?_
      exact eiX F w hr hlocks rfl ⟨K1, S1, Fc1, C1, D1, B1, cu1, ct1, hs1, sv1, ou1, M1, b1, f0, rfl, e2, e3, e4, fun z => absurd z (by decide)⟩ (Nat.le_of_ble_eq_true rfl) (Nat.le_of_ble_eq_true rfl) dL_open_14
    · refine vx_catch F.o (name := eISE) (tableOf [(0, 9, 12, 25)]) ⟨0, 9, 15, 17⟩ (tableOf []) htab (pass_cons F hNC (by decide) (T := eNSE) (List.mem_of_getElem? (i := 979) (by decide +kernel)) (by decide +kernel : eISE ∈ allE) (by decide +kernel : eNSE ∈ allE) (by decide +kernel) pass_nil) rfl (by decide) (F.t _ (List.mem_of_getElem? (i := 870) (by decide +kernel)) rfl _) (F.t _ (List.mem_of_getElem? (i := 944) (by decide +kernel)) rfl _) hce hcv hcl ?_
      refine lv_astore_n (lv' := [(3, .ref q), (0, .ref ((ad 0) 0)), (1, .int x1), (2, .ref fo)]) F.x F.b dL_open_15 rfl hl (by decide) rfl (fun ls hl => ?_)
      refine lv_iconst (v := 2) F.x F.b dL_open_16 (by decide) ?_
      exact eiX F w hr hlocks rfl ⟨K1, S1, Fc1, C1, D1, B1, cu1, ct1, hs1, sv1, ou1, M1, b1, f0, rfl, e2, e3, e4, fun z => absurd z (by decide)⟩ (Nat.le_of_ble_eq_true rfl) (Nat.le_of_ble_eq_true rfl) dL_open_17
  · obtain ⟨K1, S1, Fc1, C1, D1, B1, cu1, ct1, hs1, sv1, ou1, M1, h9, e2, e3, e4⟩ := h9
    have w := w.jn (L1 := [wXo G.2.1 (ad 0) (xF ad) (svV sv1) K1, wSh G.2.1 (ad 1) S1, wSh G.2.1 (ad 2) Fc1, wTe G.2.1 (ad 4) C1, wSb G.2.1 (ad 5) ou1, wAd G.2.1 (ad 6) D1, wAb G.2.1 (ad 7) B1, wHo G.2.1 (ad 3) cu1 ct1 hs1, hsL G.2.1 hs1, blk G.2.1 sv1]) (L' := [wXo G.2.1 (ad 0) (xF ad) (svV sv1) K1, wSh G.2.1 (ad 1) S1, wSh G.2.1 (ad 2) Fc1, wTe G.2.1 (ad 4) C1, wSb G.2.1 (ad 5) ou1, wAd G.2.1 (ad 6) D1, wAb G.2.1 (ad 7) B1, wHo G.2.1 (ad 3) cu1 ct1 hs1, [(fo, .inl (G.2.1 4, 1, .inr (.inl f0)))], hsL G.2.1 hs1, blk G.2.1 sv1]) h9 11 [0, 1, 2, 3, 4, 5, 6, 7, 10, 8, 9] rfl rfl rfl
    refine lv_i2l (v := (Int32.toInt64 r9)) F.x F.b dL_open_7 rfl ?_
    refine rLs F w (ws' := fl [wXo G.2.1 (ad 0) (xF ad) (svV sv1) K1, wSh G.2.1 (ad 1) S1, wSh G.2.1 (ad 2) Fc1, wTe G.2.1 (ad 4) C1, wSb G.2.1 (ad 5) ou1, wAd G.2.1 (ad 6) D1, wAb G.2.1 (ad 7) B1, wHo G.2.1 (ad 3) cu1 ct1 hs1, [(fo, .inl (G.2.1 4, 1, .inr (.inl (vp_updL f0 (Int32.toNatClampNeg 0) (Int32.toInt64 r9)))))], hsL G.2.1 hs1, blk G.2.1 sv1]) 38 rfl (by decide) rfl dL_open_8 (fun H locs w => ?_)
    refine lv_goto (tgt := 18) F.x F.b dL_open_9 (by decide) ?_
    refine lv_iconst (v := 0) F.x F.b dL_open_18 (by decide) ?_
    exact eiX F w hr hlocks rfl ⟨K1, S1, Fc1, C1, D1, B1, cu1, ct1, hs1, sv1, ou1, M1, r9, _, rfl, e2, e3, e4, fun _ => updL0 _ _⟩ (Nat.le_of_ble_eq_true rfl) (Nat.le_of_ble_eq_true rfl) dL_open_19
set_option maxRecDepth 100000 in
set_option maxHeartbeats 4000000 in
theorem l_wet {G : cG} (g : GOK G) (gM : MG G) (hNC : NcG G) {ad : Nat → Nat → Nat} {fo : Nat} {f0 : Nat → Int64} {N : Nat} {K S Fc C D B : Mem} {cu ct : Nat} {hs : hS} {sv : sV} {ou : oB} {M : Mem} {x1 : Int32} (h : Top N K S C cu ct hs sv ou M) (hN : N < 2 ^ 29) : CXH G yL_wet cL_wet 4 [(0, 9, 12, 25), (0, 9, 15, 17)] 41 1600 20 200 [.ref ((ad 0) 0), .int x1, .ref fo] (fl (wLaw G.2.1 ad K S Fc C D B cu ct hs sv ou [(fo, .inl (G.2.1 4, 1, .inr (.inl f0)))])) (LOK G ad fo N (f_X7_wet M x1)) := by
  refine CXH.of g (by decide) rfl (Nat.le_of_ble_eq_true rfl) (List.mem_of_getElem? (i := 1009) (by decide +kernel)) (by rfl) ?_
  intro p l e s m below meth c A ls hst htab F hr hlocks w hl
  generalize ([.ref ((ad 0) 0), .int x1, .ref fo] : List Value).toArray = args
  have hl : lv_has ls 4 [(0, .ref ((ad 0) 0)), (1, .int x1), (2, .ref fo)] := hl
  have w : Wd G A s.heap (fl [wXo G.2.1 (ad 0) (xF ad) (svV sv) K, wSh G.2.1 (ad 1) S, wSh G.2.1 (ad 2) Fc, wTe G.2.1 (ad 4) C, wSb G.2.1 (ad 5) ou, wAd G.2.1 (ad 6) D, wAb G.2.1 (ad 7) B, wHo G.2.1 (ad 3) cu ct hs, [(fo, .inl (G.2.1 4, 1, .inr (.inl f0)))], hsL G.2.1 hs, blk G.2.1 sv]) _ _ := w
  refine lv_aload_n F.x F.b dL_wet_0 rfl (lv_at hl 2 rfl) ?_
  refine lv_iconst (v := 0) F.x F.b dL_wet_1 (by decide) ?_
  refine lv_aload_n F.x F.b dL_wet_2 rfl (lv_at hl 0 rfl) ?_
  refine lv_iload_n F.x F.b dL_wet_3 rfl (lv_at hl 1 rfl) ?_
  refine kXi F w hst (LC := [wXo G.2.1 (ad 0) (xF ad) (svV sv) K, wSh G.2.1 (ad 1) S, wSh G.2.1 (ad 2) Fc, wTe G.2.1 (ad 4) C, wSb G.2.1 (ad 5) ou, wAd G.2.1 (ad 6) D, wAb G.2.1 (ad 7) B, wHo G.2.1 (ad 3) cu ct hs, hsL G.2.1 hs, blk G.2.1 sv]) (LR := [[(fo, .inl (G.2.1 4, 1, .inr (.inl f0)))]]) (As := [.int x1]) (rest := [.int 0, .ref fo]) (k_wet F.1 gM h hN) m_X6_wet v_X6_wet q1010 (ci := 10) (q0 := 0) rfl rfl rfl 11 [0, 1, 2, 3, 4, 5, 6, 7, 9, 10, 8] rfl rfl rfl ⟨Nat.le_of_ble_eq_true rfl, Nat.le_of_ble_eq_true rfl⟩ rfl hl.1 rfl (Nat.le_of_ble_eq_true rfl) dL_wet_4 ⟨Nat.le_of_ble_eq_true rfl, Nat.le_of_ble_eq_true rfl⟩ (fun E w1 ce q H locs hx w hce hcv hcl => ?_) (fun r9 w1 H locs h9 w => ?_)
  · obtain ⟨K1, S1, Fc1, C1, D1, B1, cu1, ct1, hs1, sv1, ou1, M1, b1, k1, h9, e2, e3, hm, e4⟩ := hx
    have w := w.jn (L1 := [wXo G.2.1 (ad 0) (xF ad) (svV sv1) K1, wSh G.2.1 (ad 1) S1, wSh G.2.1 (ad 2) Fc1, wTe G.2.1 (ad 4) C1, wSb G.2.1 (ad 5) ou1, wAd G.2.1 (ad 6) D1, wAb G.2.1 (ad 7) B1, wHo G.2.1 (ad 3) cu1 ct1 hs1, hsL G.2.1 hs1, blk G.2.1 sv1]) (L' := [wXo G.2.1 (ad 0) (xF ad) (svV sv1) K1, wSh G.2.1 (ad 1) S1, wSh G.2.1 (ad 2) Fc1, wTe G.2.1 (ad 4) C1, wSb G.2.1 (ad 5) ou1, wAd G.2.1 (ad 6) D1, wAb G.2.1 (ad 7) B1, wHo G.2.1 (ad 3) cu1 ct1 hs1, [(fo, .inl (G.2.1 4, 1, .inr (.inl f0)))], hsL G.2.1 hs1, blk G.2.1 sv1]) h9 11 [0, 1, 2, 3, 4, 5, 6, 7, 10, 8, 9] rfl rfl rfl
    simp only [List.mem_cons, List.not_mem_nil, or_false, Prod.mk.injEq] at hm
    rcases hm with ⟨rfl, rfl⟩ | ⟨rfl, rfl⟩
    · refine vx_catch F.o (name := eNSE) (tableOf []) ⟨0, 9, 12, 25⟩ (tableOf [(0, 9, 15, 17)]) htab pass_nil rfl (by decide) (F.t _ (List.mem_of_getElem? (i := 979) (by decide +kernel)) rfl _) (F.t _ (List.mem_of_getElem? (i := 903) (by decide +kernel)) rfl _) hce hcv hcl ?_
      refine lv_astore_n (lv' := [(3, .ref q), (0, .ref ((ad 0) 0)), (1, .int x1), (2, .ref fo)]) F.x F.b dL_wet_12 rfl hl (by decide) rfl (fun ls hl => ?_)
      refine lv_iconst (v := 1) F.x F.b dL_wet_13 (by decide) ?_
      exact eiX F w hr hlocks rfl ⟨K1, S1, Fc1, C1, D1, B1, cu1, ct1, hs1, sv1, ou1, M1, b1, f0, rfl, e2, e3, e4, fun z => absurd z (by decide)⟩ (Nat.le_of_ble_eq_true rfl) (Nat.le_of_ble_eq_true rfl) dL_wet_14
    · refine vx_catch F.o (name := eISE) (tableOf [(0, 9, 12, 25)]) ⟨0, 9, 15, 17⟩ (tableOf []) htab (pass_cons F hNC (by decide) (T := eNSE) (List.mem_of_getElem? (i := 979) (by decide +kernel)) (by decide +kernel : eISE ∈ allE) (by decide +kernel : eNSE ∈ allE) (by decide +kernel) pass_nil) rfl (by decide) (F.t _ (List.mem_of_getElem? (i := 870) (by decide +kernel)) rfl _) (F.t _ (List.mem_of_getElem? (i := 944) (by decide +kernel)) rfl _) hce hcv hcl ?_
      refine lv_astore_n (lv' := [(3, .ref q), (0, .ref ((ad 0) 0)), (1, .int x1), (2, .ref fo)]) F.x F.b dL_wet_15 rfl hl (by decide) rfl (fun ls hl => ?_)
      refine lv_iconst (v := 2) F.x F.b dL_wet_16 (by decide) ?_
      exact eiX F w hr hlocks rfl ⟨K1, S1, Fc1, C1, D1, B1, cu1, ct1, hs1, sv1, ou1, M1, b1, f0, rfl, e2, e3, e4, fun z => absurd z (by decide)⟩ (Nat.le_of_ble_eq_true rfl) (Nat.le_of_ble_eq_true rfl) dL_wet_17
  · obtain ⟨K1, S1, Fc1, C1, D1, B1, cu1, ct1, hs1, sv1, ou1, M1, h9, e2, e3, e4⟩ := h9
    have w := w.jn (L1 := [wXo G.2.1 (ad 0) (xF ad) (svV sv1) K1, wSh G.2.1 (ad 1) S1, wSh G.2.1 (ad 2) Fc1, wTe G.2.1 (ad 4) C1, wSb G.2.1 (ad 5) ou1, wAd G.2.1 (ad 6) D1, wAb G.2.1 (ad 7) B1, wHo G.2.1 (ad 3) cu1 ct1 hs1, hsL G.2.1 hs1, blk G.2.1 sv1]) (L' := [wXo G.2.1 (ad 0) (xF ad) (svV sv1) K1, wSh G.2.1 (ad 1) S1, wSh G.2.1 (ad 2) Fc1, wTe G.2.1 (ad 4) C1, wSb G.2.1 (ad 5) ou1, wAd G.2.1 (ad 6) D1, wAb G.2.1 (ad 7) B1, wHo G.2.1 (ad 3) cu1 ct1 hs1, [(fo, .inl (G.2.1 4, 1, .inr (.inl f0)))], hsL G.2.1 hs1, blk G.2.1 sv1]) h9 11 [0, 1, 2, 3, 4, 5, 6, 7, 10, 8, 9] rfl rfl rfl
    refine lv_i2l (v := (Int32.toInt64 r9)) F.x F.b dL_wet_7 rfl ?_
    refine rLs F w (ws' := fl [wXo G.2.1 (ad 0) (xF ad) (svV sv1) K1, wSh G.2.1 (ad 1) S1, wSh G.2.1 (ad 2) Fc1, wTe G.2.1 (ad 4) C1, wSb G.2.1 (ad 5) ou1, wAd G.2.1 (ad 6) D1, wAb G.2.1 (ad 7) B1, wHo G.2.1 (ad 3) cu1 ct1 hs1, [(fo, .inl (G.2.1 4, 1, .inr (.inl (vp_updL f0 (Int32.toNatClampNeg 0) (Int32.toInt64 r9)))))], hsL G.2.1 hs1, blk G.2.1 sv1]) 38 rfl (by decide) rfl dL_wet_8 (fun H locs w => ?_)
    refine lv_goto (tgt := 18) F.x F.b dL_wet_9 (by decide) ?_
    refine lv_iconst (v := 0) F.x F.b dL_wet_18 (by decide) ?_
    exact eiX F w hr hlocks rfl ⟨K1, S1, Fc1, C1, D1, B1, cu1, ct1, hs1, sv1, ou1, M1, r9, _, rfl, e2, e3, e4, fun _ => updL0 _ _⟩ (Nat.le_of_ble_eq_true rfl) (Nat.le_of_ble_eq_true rfl) dL_wet_19
set_option maxRecDepth 100000 in
set_option maxHeartbeats 4000000 in
theorem l_move {G : cG} (g : GOK G) (gM : MG G) (hNC : NcG G) {ad : Nat → Nat → Nat} {fo : Nat} {f0 : Nat → Int64} {N : Nat} {K S Fc C D B : Mem} {cu ct : Nat} {hs : hS} {sv : sV} {ou : oB} {M : Mem} {x1 x2 : Int32} (h : Top N K S C cu ct hs sv ou M) (hN : N < 2 ^ 29) : CXH G yL_move cL_move 5 [(0, 10, 13, 25), (0, 10, 17, 13), (0, 10, 21, 19)] 41 1600 20 200 [.ref ((ad 0) 0), .int x1, .int x2, .ref fo] (fl (wLaw G.2.1 ad K S Fc C D B cu ct hs sv ou [(fo, .inl (G.2.1 4, 1, .inr (.inl f0)))])) (LOK G ad fo N (f_X7_move M x1 x2)) := by
  refine CXH.of g (by decide) rfl (Nat.le_of_ble_eq_true rfl) (List.mem_of_getElem? (i := 1021) (by decide +kernel)) (by rfl) ?_
  intro p l e s m below meth c A ls hst htab F hr hlocks w hl
  generalize ([.ref ((ad 0) 0), .int x1, .int x2, .ref fo] : List Value).toArray = args
  have hl : lv_has ls 5 [(0, .ref ((ad 0) 0)), (1, .int x1), (2, .int x2), (3, .ref fo)] := hl
  have w : Wd G A s.heap (fl [wXo G.2.1 (ad 0) (xF ad) (svV sv) K, wSh G.2.1 (ad 1) S, wSh G.2.1 (ad 2) Fc, wTe G.2.1 (ad 4) C, wSb G.2.1 (ad 5) ou, wAd G.2.1 (ad 6) D, wAb G.2.1 (ad 7) B, wHo G.2.1 (ad 3) cu ct hs, [(fo, .inl (G.2.1 4, 1, .inr (.inl f0)))], hsL G.2.1 hs, blk G.2.1 sv]) _ _ := w
  refine lv_aload_n F.x F.b dL_move_0 rfl (lv_at hl 3 rfl) ?_
  refine lv_iconst (v := 0) F.x F.b dL_move_1 (by decide) ?_
  refine lv_aload_n F.x F.b dL_move_2 rfl (lv_at hl 0 rfl) ?_
  refine lv_iload_n F.x F.b dL_move_3 rfl (lv_at hl 1 rfl) ?_
  refine lv_iload_n F.x F.b dL_move_4 rfl (lv_at hl 2 rfl) ?_
  refine kXi F w hst (LC := [wXo G.2.1 (ad 0) (xF ad) (svV sv) K, wSh G.2.1 (ad 1) S, wSh G.2.1 (ad 2) Fc, wTe G.2.1 (ad 4) C, wSb G.2.1 (ad 5) ou, wAd G.2.1 (ad 6) D, wAb G.2.1 (ad 7) B, wHo G.2.1 (ad 3) cu ct hs, hsL G.2.1 hs, blk G.2.1 sv]) (LR := [[(fo, .inl (G.2.1 4, 1, .inr (.inl f0)))]]) (As := [.int x1, .int x2]) (rest := [.int 0, .ref fo]) (k_move F.1 gM h hN) m_X6_move v_X6_move q1022 (ci := 10) (q0 := 0) rfl rfl rfl 11 [0, 1, 2, 3, 4, 5, 6, 7, 9, 10, 8] rfl rfl rfl ⟨Nat.le_of_ble_eq_true rfl, Nat.le_of_ble_eq_true rfl⟩ rfl hl.1 rfl (Nat.le_of_ble_eq_true rfl) dL_move_5 ⟨Nat.le_of_ble_eq_true rfl, Nat.le_of_ble_eq_true rfl⟩ (fun E w1 ce q H locs hx w hce hcv hcl => ?_) (fun r9 w1 H locs h9 w => ?_)
  · obtain ⟨K1, S1, Fc1, C1, D1, B1, cu1, ct1, hs1, sv1, ou1, M1, b1, k1, h9, e2, e3, hm, e4⟩ := hx
    have w := w.jn (L1 := [wXo G.2.1 (ad 0) (xF ad) (svV sv1) K1, wSh G.2.1 (ad 1) S1, wSh G.2.1 (ad 2) Fc1, wTe G.2.1 (ad 4) C1, wSb G.2.1 (ad 5) ou1, wAd G.2.1 (ad 6) D1, wAb G.2.1 (ad 7) B1, wHo G.2.1 (ad 3) cu1 ct1 hs1, hsL G.2.1 hs1, blk G.2.1 sv1]) (L' := [wXo G.2.1 (ad 0) (xF ad) (svV sv1) K1, wSh G.2.1 (ad 1) S1, wSh G.2.1 (ad 2) Fc1, wTe G.2.1 (ad 4) C1, wSb G.2.1 (ad 5) ou1, wAd G.2.1 (ad 6) D1, wAb G.2.1 (ad 7) B1, wHo G.2.1 (ad 3) cu1 ct1 hs1, [(fo, .inl (G.2.1 4, 1, .inr (.inl f0)))], hsL G.2.1 hs1, blk G.2.1 sv1]) h9 11 [0, 1, 2, 3, 4, 5, 6, 7, 10, 8, 9] rfl rfl rfl
    simp only [List.mem_cons, List.not_mem_nil, or_false, Prod.mk.injEq] at hm
    rcases hm with ⟨rfl, rfl⟩ | ⟨rfl, rfl⟩ | ⟨rfl, rfl⟩
    · refine vx_catch F.o (name := eNSE) (tableOf []) ⟨0, 10, 13, 25⟩ (tableOf [(0, 10, 17, 13), (0, 10, 21, 19)]) htab pass_nil rfl (by decide) (F.t _ (List.mem_of_getElem? (i := 979) (by decide +kernel)) rfl _) (F.t _ (List.mem_of_getElem? (i := 903) (by decide +kernel)) rfl _) hce hcv hcl ?_
      refine lv_astore (lv' := [(4, .ref q), (0, .ref ((ad 0) 0)), (1, .int x1), (2, .int x2), (3, .ref fo)]) F.x F.b dL_move_13 hl (by decide) rfl (fun ls hl => ?_)
      refine lv_iconst (v := 1) F.x F.b dL_move_15 (by decide) ?_
      exact eiX F w hr hlocks rfl ⟨K1, S1, Fc1, C1, D1, B1, cu1, ct1, hs1, sv1, ou1, M1, b1, f0, rfl, e2, e3, e4, fun z => absurd z (by decide)⟩ (Nat.le_of_ble_eq_true rfl) (Nat.le_of_ble_eq_true rfl) dL_move_16
    · refine vx_catch F.o (name := eIOB) (tableOf [(0, 10, 13, 25)]) ⟨0, 10, 17, 13⟩ (tableOf [(0, 10, 21, 19)]) htab (pass_cons F hNC (by decide) (T := eNSE) (List.mem_of_getElem? (i := 979) (by decide +kernel)) (by decide +kernel : eIOB ∈ allE) (by decide +kernel : eNSE ∈ allE) (by decide +kernel) pass_nil) rfl (by decide) (F.t _ (List.mem_of_getElem? (i := 866) (by decide +kernel)) rfl _) (F.t _ (List.mem_of_getElem? (i := 924) (by decide +kernel)) rfl _) hce hcv hcl ?_
      refine lv_astore (lv' := [(4, .ref q), (0, .ref ((ad 0) 0)), (1, .int x1), (2, .int x2), (3, .ref fo)]) F.x F.b dL_move_17 hl (by decide) rfl (fun ls hl => ?_)
      refine lv_iconst (v := 2) F.x F.b dL_move_19 (by decide) ?_
      exact eiX F w hr hlocks rfl ⟨K1, S1, Fc1, C1, D1, B1, cu1, ct1, hs1, sv1, ou1, M1, b1, f0, rfl, e2, e3, e4, fun z => absurd z (by decide)⟩ (Nat.le_of_ble_eq_true rfl) (Nat.le_of_ble_eq_true rfl) dL_move_20
    · refine vx_catch F.o (name := eUOE) (tableOf [(0, 10, 13, 25), (0, 10, 17, 13)]) ⟨0, 10, 21, 19⟩ (tableOf []) htab (pass_cons F hNC (by decide) (T := eNSE) (List.mem_of_getElem? (i := 979) (by decide +kernel)) (by decide +kernel : eUOE ∈ allE) (by decide +kernel : eNSE ∈ allE) (by decide +kernel) (pass_cons F hNC (by decide) (T := eIOB) (List.mem_of_getElem? (i := 866) (by decide +kernel)) (by decide +kernel : eUOE ∈ allE) (by decide +kernel : eIOB ∈ allE) (by decide +kernel) pass_nil)) rfl (by decide) (F.t _ (List.mem_of_getElem? (i := 871) (by decide +kernel)) rfl _) (F.t _ (List.mem_of_getElem? (i := 959) (by decide +kernel)) rfl _) hce hcv hcl ?_
      refine lv_astore (lv' := [(4, .ref q), (0, .ref ((ad 0) 0)), (1, .int x1), (2, .int x2), (3, .ref fo)]) F.x F.b dL_move_21 hl (by decide) rfl (fun ls hl => ?_)
      refine lv_iconst (v := 3) F.x F.b dL_move_23 (by decide) ?_
      exact eiX F w hr hlocks rfl ⟨K1, S1, Fc1, C1, D1, B1, cu1, ct1, hs1, sv1, ou1, M1, b1, f0, rfl, e2, e3, e4, fun z => absurd z (by decide)⟩ (Nat.le_of_ble_eq_true rfl) (Nat.le_of_ble_eq_true rfl) dL_move_24
  · obtain ⟨K1, S1, Fc1, C1, D1, B1, cu1, ct1, hs1, sv1, ou1, M1, h9, e2, e3, e4⟩ := h9
    have w := w.jn (L1 := [wXo G.2.1 (ad 0) (xF ad) (svV sv1) K1, wSh G.2.1 (ad 1) S1, wSh G.2.1 (ad 2) Fc1, wTe G.2.1 (ad 4) C1, wSb G.2.1 (ad 5) ou1, wAd G.2.1 (ad 6) D1, wAb G.2.1 (ad 7) B1, wHo G.2.1 (ad 3) cu1 ct1 hs1, hsL G.2.1 hs1, blk G.2.1 sv1]) (L' := [wXo G.2.1 (ad 0) (xF ad) (svV sv1) K1, wSh G.2.1 (ad 1) S1, wSh G.2.1 (ad 2) Fc1, wTe G.2.1 (ad 4) C1, wSb G.2.1 (ad 5) ou1, wAd G.2.1 (ad 6) D1, wAb G.2.1 (ad 7) B1, wHo G.2.1 (ad 3) cu1 ct1 hs1, [(fo, .inl (G.2.1 4, 1, .inr (.inl f0)))], hsL G.2.1 hs1, blk G.2.1 sv1]) h9 11 [0, 1, 2, 3, 4, 5, 6, 7, 10, 8, 9] rfl rfl rfl
    refine lv_i2l (v := (Int32.toInt64 r9)) F.x F.b dL_move_8 rfl ?_
    refine rLs F w (ws' := fl [wXo G.2.1 (ad 0) (xF ad) (svV sv1) K1, wSh G.2.1 (ad 1) S1, wSh G.2.1 (ad 2) Fc1, wTe G.2.1 (ad 4) C1, wSb G.2.1 (ad 5) ou1, wAd G.2.1 (ad 6) D1, wAb G.2.1 (ad 7) B1, wHo G.2.1 (ad 3) cu1 ct1 hs1, [(fo, .inl (G.2.1 4, 1, .inr (.inl (vp_updL f0 (Int32.toNatClampNeg 0) (Int32.toInt64 r9)))))], hsL G.2.1 hs1, blk G.2.1 sv1]) 38 rfl (by decide) rfl dL_move_9 (fun H locs w => ?_)
    refine lv_goto (tgt := 25) F.x F.b dL_move_10 (by decide) ?_
    refine lv_iconst (v := 0) F.x F.b dL_move_25 (by decide) ?_
    exact eiX F w hr hlocks rfl ⟨K1, S1, Fc1, C1, D1, B1, cu1, ct1, hs1, sv1, ou1, M1, r9, _, rfl, e2, e3, e4, fun _ => updL0 _ _⟩ (Nat.le_of_ble_eq_true rfl) (Nat.le_of_ble_eq_true rfl) dL_move_26
set_option maxRecDepth 100000 in
set_option maxHeartbeats 4000000 in
theorem l_lot {G : cG} (g : GOK G) (gM : MG G) (hNC : NcG G) {ad : Nat → Nat → Nat} {fo : Nat} {f0 : Nat → Int64} {N : Nat} {K S Fc C D B : Mem} {cu ct : Nat} {hs : hS} {sv : sV} {ou : oB} {M : Mem} {x1 : Int32} (h : Top N K S C cu ct hs sv ou M) : CXH G yL_lot cL_lot 4 [(0, 9, 12, 13)] 41 1600 20 200 [.ref ((ad 0) 0), .int x1, .ref fo] (fl (wLaw G.2.1 ad K S Fc C D B cu ct hs sv ou [(fo, .inl (G.2.1 4, 1, .inr (.inl f0)))])) (LOK G ad fo N (f_X7_lot M x1)) := by
  refine CXH.of g (by decide) rfl (Nat.le_of_ble_eq_true rfl) (List.mem_of_getElem? (i := 1032) (by decide +kernel)) (by rfl) ?_
  intro p l e s m below meth c A ls hst htab F hr hlocks w hl
  generalize ([.ref ((ad 0) 0), .int x1, .ref fo] : List Value).toArray = args
  have hl : lv_has ls 4 [(0, .ref ((ad 0) 0)), (1, .int x1), (2, .ref fo)] := hl
  have w : Wd G A s.heap (fl [wXo G.2.1 (ad 0) (xF ad) (svV sv) K, wSh G.2.1 (ad 1) S, wSh G.2.1 (ad 2) Fc, wTe G.2.1 (ad 4) C, wSb G.2.1 (ad 5) ou, wAd G.2.1 (ad 6) D, wAb G.2.1 (ad 7) B, wHo G.2.1 (ad 3) cu ct hs, [(fo, .inl (G.2.1 4, 1, .inr (.inl f0)))], hsL G.2.1 hs, blk G.2.1 sv]) _ _ := w
  refine lv_aload_n F.x F.b dL_lot_0 rfl (lv_at hl 2 rfl) ?_
  refine lv_iconst (v := 0) F.x F.b dL_lot_1 (by decide) ?_
  refine lv_aload_n F.x F.b dL_lot_2 rfl (lv_at hl 0 rfl) ?_
  refine lv_iload_n F.x F.b dL_lot_3 rfl (lv_at hl 1 rfl) ?_
  refine kXi F w hst (LC := [wXo G.2.1 (ad 0) (xF ad) (svV sv) K, wSh G.2.1 (ad 1) S, wSh G.2.1 (ad 2) Fc, wTe G.2.1 (ad 4) C, wSb G.2.1 (ad 5) ou, wAd G.2.1 (ad 6) D, wAb G.2.1 (ad 7) B, wHo G.2.1 (ad 3) cu ct hs, hsL G.2.1 hs, blk G.2.1 sv]) (LR := [[(fo, .inl (G.2.1 4, 1, .inr (.inl f0)))]]) (As := [.int x1]) (rest := [.int 0, .ref fo]) (k_lot F.1 gM h) m_X6_lot v_X6_lot q1033 (ci := 10) (q0 := 0) rfl rfl rfl 11 [0, 1, 2, 3, 4, 5, 6, 7, 9, 10, 8] rfl rfl rfl ⟨Nat.le_of_ble_eq_true rfl, Nat.le_of_ble_eq_true rfl⟩ rfl hl.1 rfl (Nat.le_of_ble_eq_true rfl) dL_lot_4 ⟨Nat.le_of_ble_eq_true rfl, Nat.le_of_ble_eq_true rfl⟩ (fun E w1 ce q H locs hx w hce hcv hcl => ?_) (fun r9 w1 H locs h9 w => ?_)
  · obtain ⟨K1, S1, Fc1, C1, D1, B1, cu1, ct1, hs1, sv1, ou1, M1, b1, k1, h9, e2, e3, hm, e4⟩ := hx
    have w := w.jn (L1 := [wXo G.2.1 (ad 0) (xF ad) (svV sv1) K1, wSh G.2.1 (ad 1) S1, wSh G.2.1 (ad 2) Fc1, wTe G.2.1 (ad 4) C1, wSb G.2.1 (ad 5) ou1, wAd G.2.1 (ad 6) D1, wAb G.2.1 (ad 7) B1, wHo G.2.1 (ad 3) cu1 ct1 hs1, hsL G.2.1 hs1, blk G.2.1 sv1]) (L' := [wXo G.2.1 (ad 0) (xF ad) (svV sv1) K1, wSh G.2.1 (ad 1) S1, wSh G.2.1 (ad 2) Fc1, wTe G.2.1 (ad 4) C1, wSb G.2.1 (ad 5) ou1, wAd G.2.1 (ad 6) D1, wAb G.2.1 (ad 7) B1, wHo G.2.1 (ad 3) cu1 ct1 hs1, [(fo, .inl (G.2.1 4, 1, .inr (.inl f0)))], hsL G.2.1 hs1, blk G.2.1 sv1]) h9 11 [0, 1, 2, 3, 4, 5, 6, 7, 10, 8, 9] rfl rfl rfl
    simp only [List.mem_cons, List.not_mem_nil, or_false, Prod.mk.injEq] at hm
    obtain ⟨rfl, rfl⟩ := hm
    refine vx_catch F.o (name := eIOB) (tableOf []) ⟨0, 9, 12, 13⟩ (tableOf []) htab pass_nil rfl (by decide) (F.t _ (List.mem_of_getElem? (i := 866) (by decide +kernel)) rfl _) (F.t _ (List.mem_of_getElem? (i := 924) (by decide +kernel)) rfl _) hce hcv hcl ?_
    refine lv_astore_n (lv' := [(3, .ref q), (0, .ref ((ad 0) 0)), (1, .int x1), (2, .ref fo)]) F.x F.b dL_lot_12 rfl hl (by decide) rfl (fun ls hl => ?_)
    refine lv_iconst (v := 1) F.x F.b dL_lot_13 (by decide) ?_
    exact eiX F w hr hlocks rfl ⟨K1, S1, Fc1, C1, D1, B1, cu1, ct1, hs1, sv1, ou1, M1, b1, f0, rfl, e2, e3, e4, fun z => absurd z (by decide)⟩ (Nat.le_of_ble_eq_true rfl) (Nat.le_of_ble_eq_true rfl) dL_lot_14
  · obtain ⟨K1, S1, Fc1, C1, D1, B1, cu1, ct1, hs1, sv1, ou1, M1, h9, e2, e3, e4⟩ := h9
    have w := w.jn (L1 := [wXo G.2.1 (ad 0) (xF ad) (svV sv1) K1, wSh G.2.1 (ad 1) S1, wSh G.2.1 (ad 2) Fc1, wTe G.2.1 (ad 4) C1, wSb G.2.1 (ad 5) ou1, wAd G.2.1 (ad 6) D1, wAb G.2.1 (ad 7) B1, wHo G.2.1 (ad 3) cu1 ct1 hs1, hsL G.2.1 hs1, blk G.2.1 sv1]) (L' := [wXo G.2.1 (ad 0) (xF ad) (svV sv1) K1, wSh G.2.1 (ad 1) S1, wSh G.2.1 (ad 2) Fc1, wTe G.2.1 (ad 4) C1, wSb G.2.1 (ad 5) ou1, wAd G.2.1 (ad 6) D1, wAb G.2.1 (ad 7) B1, wHo G.2.1 (ad 3) cu1 ct1 hs1, [(fo, .inl (G.2.1 4, 1, .inr (.inl f0)))], hsL G.2.1 hs1, blk G.2.1 sv1]) h9 11 [0, 1, 2, 3, 4, 5, 6, 7, 10, 8, 9] rfl rfl rfl
    refine lv_i2l (v := (Int32.toInt64 r9)) F.x F.b dL_lot_7 rfl ?_
    refine rLs F w (ws' := fl [wXo G.2.1 (ad 0) (xF ad) (svV sv1) K1, wSh G.2.1 (ad 1) S1, wSh G.2.1 (ad 2) Fc1, wTe G.2.1 (ad 4) C1, wSb G.2.1 (ad 5) ou1, wAd G.2.1 (ad 6) D1, wAb G.2.1 (ad 7) B1, wHo G.2.1 (ad 3) cu1 ct1 hs1, [(fo, .inl (G.2.1 4, 1, .inr (.inl (vp_updL f0 (Int32.toNatClampNeg 0) (Int32.toInt64 r9)))))], hsL G.2.1 hs1, blk G.2.1 sv1]) 38 rfl (by decide) rfl dL_lot_8 (fun H locs w => ?_)
    refine lv_goto (tgt := 15) F.x F.b dL_lot_9 (by decide) ?_
    refine lv_iconst (v := 0) F.x F.b dL_lot_15 (by decide) ?_
    exact eiX F w hr hlocks rfl ⟨K1, S1, Fc1, C1, D1, B1, cu1, ct1, hs1, sv1, ou1, M1, r9, _, rfl, e2, e3, e4, fun _ => updL0 _ _⟩ (Nat.le_of_ble_eq_true rfl) (Nat.le_of_ble_eq_true rfl) dL_lot_16
set_option maxRecDepth 100000 in
set_option maxHeartbeats 4000000 in
theorem l_kind {G : cG} (g : GOK G) (gM : MG G) (hNC : NcG G) {ad : Nat → Nat → Nat} {fo : Nat} {f0 : Nat → Int64} {N : Nat} {K S Fc C D B : Mem} {cu ct : Nat} {hs : hS} {sv : sV} {ou : oB} {M : Mem} {x1 : Int32} (h : Top N K S C cu ct hs sv ou M) : CXH G yL_kind cL_kind 4 [(0, 9, 12, 25)] 41 1600 20 200 [.ref ((ad 0) 0), .int x1, .ref fo] (fl (wLaw G.2.1 ad K S Fc C D B cu ct hs sv ou [(fo, .inl (G.2.1 4, 1, .inr (.inl f0)))])) (LOK G ad fo N (f_X7_kind M x1)) := by
  refine CXH.of g (by decide) rfl (Nat.le_of_ble_eq_true rfl) (List.mem_of_getElem? (i := 1042) (by decide +kernel)) (by rfl) ?_
  intro p l e s m below meth c A ls hst htab F hr hlocks w hl
  generalize ([.ref ((ad 0) 0), .int x1, .ref fo] : List Value).toArray = args
  have hl : lv_has ls 4 [(0, .ref ((ad 0) 0)), (1, .int x1), (2, .ref fo)] := hl
  have w : Wd G A s.heap (fl [wXo G.2.1 (ad 0) (xF ad) (svV sv) K, wSh G.2.1 (ad 1) S, wSh G.2.1 (ad 2) Fc, wTe G.2.1 (ad 4) C, wSb G.2.1 (ad 5) ou, wAd G.2.1 (ad 6) D, wAb G.2.1 (ad 7) B, wHo G.2.1 (ad 3) cu ct hs, [(fo, .inl (G.2.1 4, 1, .inr (.inl f0)))], hsL G.2.1 hs, blk G.2.1 sv]) _ _ := w
  refine lv_aload_n F.x F.b dL_kind_0 rfl (lv_at hl 2 rfl) ?_
  refine lv_iconst (v := 0) F.x F.b dL_kind_1 (by decide) ?_
  refine lv_aload_n F.x F.b dL_kind_2 rfl (lv_at hl 0 rfl) ?_
  refine lv_iload_n F.x F.b dL_kind_3 rfl (lv_at hl 1 rfl) ?_
  refine kXi F w hst (LC := [wXo G.2.1 (ad 0) (xF ad) (svV sv) K, wSh G.2.1 (ad 1) S, wSh G.2.1 (ad 2) Fc, wTe G.2.1 (ad 4) C, wSb G.2.1 (ad 5) ou, wAd G.2.1 (ad 6) D, wAb G.2.1 (ad 7) B, wHo G.2.1 (ad 3) cu ct hs, hsL G.2.1 hs, blk G.2.1 sv]) (LR := [[(fo, .inl (G.2.1 4, 1, .inr (.inl f0)))]]) (As := [.int x1]) (rest := [.int 0, .ref fo]) (k_kind F.1 gM h) m_X6_kind v_X6_kind q1043 (ci := 10) (q0 := 0) rfl rfl rfl 11 [0, 1, 2, 3, 4, 5, 6, 7, 9, 10, 8] rfl rfl rfl ⟨Nat.le_of_ble_eq_true rfl, Nat.le_of_ble_eq_true rfl⟩ rfl hl.1 rfl (Nat.le_of_ble_eq_true rfl) dL_kind_4 ⟨Nat.le_of_ble_eq_true rfl, Nat.le_of_ble_eq_true rfl⟩ (fun E w1 ce q H locs hx w hce hcv hcl => ?_) (fun r9 w1 H locs h9 w => ?_)
  · obtain ⟨K1, S1, Fc1, C1, D1, B1, cu1, ct1, hs1, sv1, ou1, M1, b1, k1, h9, e2, e3, hm, e4⟩ := hx
    have w := w.jn (L1 := [wXo G.2.1 (ad 0) (xF ad) (svV sv1) K1, wSh G.2.1 (ad 1) S1, wSh G.2.1 (ad 2) Fc1, wTe G.2.1 (ad 4) C1, wSb G.2.1 (ad 5) ou1, wAd G.2.1 (ad 6) D1, wAb G.2.1 (ad 7) B1, wHo G.2.1 (ad 3) cu1 ct1 hs1, hsL G.2.1 hs1, blk G.2.1 sv1]) (L' := [wXo G.2.1 (ad 0) (xF ad) (svV sv1) K1, wSh G.2.1 (ad 1) S1, wSh G.2.1 (ad 2) Fc1, wTe G.2.1 (ad 4) C1, wSb G.2.1 (ad 5) ou1, wAd G.2.1 (ad 6) D1, wAb G.2.1 (ad 7) B1, wHo G.2.1 (ad 3) cu1 ct1 hs1, [(fo, .inl (G.2.1 4, 1, .inr (.inl f0)))], hsL G.2.1 hs1, blk G.2.1 sv1]) h9 11 [0, 1, 2, 3, 4, 5, 6, 7, 10, 8, 9] rfl rfl rfl
    simp only [List.mem_cons, List.not_mem_nil, or_false, Prod.mk.injEq] at hm
    obtain ⟨rfl, rfl⟩ := hm
    refine vx_catch F.o (name := eNSE) (tableOf []) ⟨0, 9, 12, 25⟩ (tableOf []) htab pass_nil rfl (by decide) (F.t _ (List.mem_of_getElem? (i := 979) (by decide +kernel)) rfl _) (F.t _ (List.mem_of_getElem? (i := 903) (by decide +kernel)) rfl _) hce hcv hcl ?_
    refine lv_astore_n (lv' := [(3, .ref q), (0, .ref ((ad 0) 0)), (1, .int x1), (2, .ref fo)]) F.x F.b dL_kind_12 rfl hl (by decide) rfl (fun ls hl => ?_)
    refine lv_iconst (v := 1) F.x F.b dL_kind_13 (by decide) ?_
    exact eiX F w hr hlocks rfl ⟨K1, S1, Fc1, C1, D1, B1, cu1, ct1, hs1, sv1, ou1, M1, b1, f0, rfl, e2, e3, e4, fun z => absurd z (by decide)⟩ (Nat.le_of_ble_eq_true rfl) (Nat.le_of_ble_eq_true rfl) dL_kind_14
  · obtain ⟨K1, S1, Fc1, C1, D1, B1, cu1, ct1, hs1, sv1, ou1, M1, h9, e2, e3, e4⟩ := h9
    have w := w.jn (L1 := [wXo G.2.1 (ad 0) (xF ad) (svV sv1) K1, wSh G.2.1 (ad 1) S1, wSh G.2.1 (ad 2) Fc1, wTe G.2.1 (ad 4) C1, wSb G.2.1 (ad 5) ou1, wAd G.2.1 (ad 6) D1, wAb G.2.1 (ad 7) B1, wHo G.2.1 (ad 3) cu1 ct1 hs1, hsL G.2.1 hs1, blk G.2.1 sv1]) (L' := [wXo G.2.1 (ad 0) (xF ad) (svV sv1) K1, wSh G.2.1 (ad 1) S1, wSh G.2.1 (ad 2) Fc1, wTe G.2.1 (ad 4) C1, wSb G.2.1 (ad 5) ou1, wAd G.2.1 (ad 6) D1, wAb G.2.1 (ad 7) B1, wHo G.2.1 (ad 3) cu1 ct1 hs1, [(fo, .inl (G.2.1 4, 1, .inr (.inl f0)))], hsL G.2.1 hs1, blk G.2.1 sv1]) h9 11 [0, 1, 2, 3, 4, 5, 6, 7, 10, 8, 9] rfl rfl rfl
    refine lv_i2l (v := (Int32.toInt64 r9)) F.x F.b dL_kind_7 rfl ?_
    refine rLs F w (ws' := fl [wXo G.2.1 (ad 0) (xF ad) (svV sv1) K1, wSh G.2.1 (ad 1) S1, wSh G.2.1 (ad 2) Fc1, wTe G.2.1 (ad 4) C1, wSb G.2.1 (ad 5) ou1, wAd G.2.1 (ad 6) D1, wAb G.2.1 (ad 7) B1, wHo G.2.1 (ad 3) cu1 ct1 hs1, [(fo, .inl (G.2.1 4, 1, .inr (.inl (vp_updL f0 (Int32.toNatClampNeg 0) (Int32.toInt64 r9)))))], hsL G.2.1 hs1, blk G.2.1 sv1]) 38 rfl (by decide) rfl dL_kind_8 (fun H locs w => ?_)
    refine lv_goto (tgt := 15) F.x F.b dL_kind_9 (by decide) ?_
    refine lv_iconst (v := 0) F.x F.b dL_kind_15 (by decide) ?_
    exact eiX F w hr hlocks rfl ⟨K1, S1, Fc1, C1, D1, B1, cu1, ct1, hs1, sv1, ou1, M1, r9, _, rfl, e2, e3, e4, fun _ => updL0 _ _⟩ (Nat.le_of_ble_eq_true rfl) (Nat.le_of_ble_eq_true rfl) dL_kind_16
set_option maxRecDepth 100000 in
set_option maxHeartbeats 4000000 in
theorem l_quantity {G : cG} (g : GOK G) (gM : MG G) (hNC : NcG G) {ad : Nat → Nat → Nat} {fo : Nat} {f0 : Nat → Int64} {N : Nat} {K S Fc C D B : Mem} {cu ct : Nat} {hs : hS} {sv : sV} {ou : oB} {M : Mem} {x1 : Int32} (h : Top N K S C cu ct hs sv ou M) : CXH G yL_quantity cL_quantity 4 [(0, 9, 12, 25)] 41 1600 20 200 [.ref ((ad 0) 0), .int x1, .ref fo] (fl (wLaw G.2.1 ad K S Fc C D B cu ct hs sv ou [(fo, .inl (G.2.1 4, 1, .inr (.inl f0)))])) (LOK G ad fo N (f_X7_quantity M x1)) := by
  refine CXH.of g (by decide) rfl (Nat.le_of_ble_eq_true rfl) (List.mem_of_getElem? (i := 1059) (by decide +kernel)) (by rfl) ?_
  intro p l e s m below meth c A ls hst htab F hr hlocks w hl
  generalize ([.ref ((ad 0) 0), .int x1, .ref fo] : List Value).toArray = args
  have hl : lv_has ls 4 [(0, .ref ((ad 0) 0)), (1, .int x1), (2, .ref fo)] := hl
  have w : Wd G A s.heap (fl [wXo G.2.1 (ad 0) (xF ad) (svV sv) K, wSh G.2.1 (ad 1) S, wSh G.2.1 (ad 2) Fc, wTe G.2.1 (ad 4) C, wSb G.2.1 (ad 5) ou, wAd G.2.1 (ad 6) D, wAb G.2.1 (ad 7) B, wHo G.2.1 (ad 3) cu ct hs, [(fo, .inl (G.2.1 4, 1, .inr (.inl f0)))], hsL G.2.1 hs, blk G.2.1 sv]) _ _ := w
  refine lv_aload_n F.x F.b dL_quantity_0 rfl (lv_at hl 2 rfl) ?_
  refine lv_iconst (v := 0) F.x F.b dL_quantity_1 (by decide) ?_
  refine lv_aload_n F.x F.b dL_quantity_2 rfl (lv_at hl 0 rfl) ?_
  refine lv_iload_n F.x F.b dL_quantity_3 rfl (lv_at hl 1 rfl) ?_
  refine kXi F w hst (LC := [wXo G.2.1 (ad 0) (xF ad) (svV sv) K, wSh G.2.1 (ad 1) S, wSh G.2.1 (ad 2) Fc, wTe G.2.1 (ad 4) C, wSb G.2.1 (ad 5) ou, wAd G.2.1 (ad 6) D, wAb G.2.1 (ad 7) B, wHo G.2.1 (ad 3) cu ct hs, hsL G.2.1 hs, blk G.2.1 sv]) (LR := [[(fo, .inl (G.2.1 4, 1, .inr (.inl f0)))]]) (As := [.int x1]) (rest := [.int 0, .ref fo]) (k_quantity F.1 gM h) m_X6_quantity v_X6_quantity q1060 (ci := 10) (q0 := 0) rfl rfl rfl 11 [0, 1, 2, 3, 4, 5, 6, 7, 9, 10, 8] rfl rfl rfl ⟨Nat.le_of_ble_eq_true rfl, Nat.le_of_ble_eq_true rfl⟩ rfl hl.1 rfl (Nat.le_of_ble_eq_true rfl) dL_quantity_4 ⟨Nat.le_of_ble_eq_true rfl, Nat.le_of_ble_eq_true rfl⟩ (fun E w1 ce q H locs hx w hce hcv hcl => ?_) (fun r9 w1 H locs h9 w => ?_)
  · obtain ⟨K1, S1, Fc1, C1, D1, B1, cu1, ct1, hs1, sv1, ou1, M1, b1, k1, h9, e2, e3, hm, e4⟩ := hx
    have w := w.jn (L1 := [wXo G.2.1 (ad 0) (xF ad) (svV sv1) K1, wSh G.2.1 (ad 1) S1, wSh G.2.1 (ad 2) Fc1, wTe G.2.1 (ad 4) C1, wSb G.2.1 (ad 5) ou1, wAd G.2.1 (ad 6) D1, wAb G.2.1 (ad 7) B1, wHo G.2.1 (ad 3) cu1 ct1 hs1, hsL G.2.1 hs1, blk G.2.1 sv1]) (L' := [wXo G.2.1 (ad 0) (xF ad) (svV sv1) K1, wSh G.2.1 (ad 1) S1, wSh G.2.1 (ad 2) Fc1, wTe G.2.1 (ad 4) C1, wSb G.2.1 (ad 5) ou1, wAd G.2.1 (ad 6) D1, wAb G.2.1 (ad 7) B1, wHo G.2.1 (ad 3) cu1 ct1 hs1, [(fo, .inl (G.2.1 4, 1, .inr (.inl f0)))], hsL G.2.1 hs1, blk G.2.1 sv1]) h9 11 [0, 1, 2, 3, 4, 5, 6, 7, 10, 8, 9] rfl rfl rfl
    simp only [List.mem_cons, List.not_mem_nil, or_false, Prod.mk.injEq] at hm
    obtain ⟨rfl, rfl⟩ := hm
    refine vx_catch F.o (name := eNSE) (tableOf []) ⟨0, 9, 12, 25⟩ (tableOf []) htab pass_nil rfl (by decide) (F.t _ (List.mem_of_getElem? (i := 979) (by decide +kernel)) rfl _) (F.t _ (List.mem_of_getElem? (i := 903) (by decide +kernel)) rfl _) hce hcv hcl ?_
    refine lv_astore_n (lv' := [(3, .ref q), (0, .ref ((ad 0) 0)), (1, .int x1), (2, .ref fo)]) F.x F.b dL_quantity_12 rfl hl (by decide) rfl (fun ls hl => ?_)
    refine lv_iconst (v := 1) F.x F.b dL_quantity_13 (by decide) ?_
    exact eiX F w hr hlocks rfl ⟨K1, S1, Fc1, C1, D1, B1, cu1, ct1, hs1, sv1, ou1, M1, b1, f0, rfl, e2, e3, e4, fun z => absurd z (by decide)⟩ (Nat.le_of_ble_eq_true rfl) (Nat.le_of_ble_eq_true rfl) dL_quantity_14
  · obtain ⟨K1, S1, Fc1, C1, D1, B1, cu1, ct1, hs1, sv1, ou1, M1, h9, e2, e3, e4⟩ := h9
    have w := w.jn (L1 := [wXo G.2.1 (ad 0) (xF ad) (svV sv1) K1, wSh G.2.1 (ad 1) S1, wSh G.2.1 (ad 2) Fc1, wTe G.2.1 (ad 4) C1, wSb G.2.1 (ad 5) ou1, wAd G.2.1 (ad 6) D1, wAb G.2.1 (ad 7) B1, wHo G.2.1 (ad 3) cu1 ct1 hs1, hsL G.2.1 hs1, blk G.2.1 sv1]) (L' := [wXo G.2.1 (ad 0) (xF ad) (svV sv1) K1, wSh G.2.1 (ad 1) S1, wSh G.2.1 (ad 2) Fc1, wTe G.2.1 (ad 4) C1, wSb G.2.1 (ad 5) ou1, wAd G.2.1 (ad 6) D1, wAb G.2.1 (ad 7) B1, wHo G.2.1 (ad 3) cu1 ct1 hs1, [(fo, .inl (G.2.1 4, 1, .inr (.inl f0)))], hsL G.2.1 hs1, blk G.2.1 sv1]) h9 11 [0, 1, 2, 3, 4, 5, 6, 7, 10, 8, 9] rfl rfl rfl
    refine lv_i2l (v := (Int32.toInt64 r9)) F.x F.b dL_quantity_7 rfl ?_
    refine rLs F w (ws' := fl [wXo G.2.1 (ad 0) (xF ad) (svV sv1) K1, wSh G.2.1 (ad 1) S1, wSh G.2.1 (ad 2) Fc1, wTe G.2.1 (ad 4) C1, wSb G.2.1 (ad 5) ou1, wAd G.2.1 (ad 6) D1, wAb G.2.1 (ad 7) B1, wHo G.2.1 (ad 3) cu1 ct1 hs1, [(fo, .inl (G.2.1 4, 1, .inr (.inl (vp_updL f0 (Int32.toNatClampNeg 0) (Int32.toInt64 r9)))))], hsL G.2.1 hs1, blk G.2.1 sv1]) 38 rfl (by decide) rfl dL_quantity_8 (fun H locs w => ?_)
    refine lv_goto (tgt := 15) F.x F.b dL_quantity_9 (by decide) ?_
    refine lv_iconst (v := 0) F.x F.b dL_quantity_15 (by decide) ?_
    exact eiX F w hr hlocks rfl ⟨K1, S1, Fc1, C1, D1, B1, cu1, ct1, hs1, sv1, ou1, M1, r9, _, rfl, e2, e3, e4, fun _ => updL0 _ _⟩ (Nat.le_of_ble_eq_true rfl) (Nat.le_of_ble_eq_true rfl) dL_quantity_16
set_option maxRecDepth 100000 in
set_option maxHeartbeats 4000000 in
theorem l_price {G : cG} (g : GOK G) (gM : MG G) (hNC : NcG G) {ad : Nat → Nat → Nat} {fo : Nat} {f0 : Nat → Int64} {N : Nat} {K S Fc C D B : Mem} {cu ct : Nat} {hs : hS} {sv : sV} {ou : oB} {M : Mem} {x1 : Int32} (h : Top N K S C cu ct hs sv ou M) : CXH G yL_price cL_price 4 [(0, 9, 12, 25)] 41 1600 20 200 [.ref ((ad 0) 0), .int x1, .ref fo] (fl (wLaw G.2.1 ad K S Fc C D B cu ct hs sv ou [(fo, .inl (G.2.1 4, 1, .inr (.inl f0)))])) (LOK G ad fo N (f_X7_price M x1)) := by
  refine CXH.of g (by decide) rfl (Nat.le_of_ble_eq_true rfl) (List.mem_of_getElem? (i := 1066) (by decide +kernel)) (by rfl) ?_
  intro p l e s m below meth c A ls hst htab F hr hlocks w hl
  generalize ([.ref ((ad 0) 0), .int x1, .ref fo] : List Value).toArray = args
  have hl : lv_has ls 4 [(0, .ref ((ad 0) 0)), (1, .int x1), (2, .ref fo)] := hl
  have w : Wd G A s.heap (fl [wXo G.2.1 (ad 0) (xF ad) (svV sv) K, wSh G.2.1 (ad 1) S, wSh G.2.1 (ad 2) Fc, wTe G.2.1 (ad 4) C, wSb G.2.1 (ad 5) ou, wAd G.2.1 (ad 6) D, wAb G.2.1 (ad 7) B, wHo G.2.1 (ad 3) cu ct hs, [(fo, .inl (G.2.1 4, 1, .inr (.inl f0)))], hsL G.2.1 hs, blk G.2.1 sv]) _ _ := w
  refine lv_aload_n F.x F.b dL_price_0 rfl (lv_at hl 2 rfl) ?_
  refine lv_iconst (v := 0) F.x F.b dL_price_1 (by decide) ?_
  refine lv_aload_n F.x F.b dL_price_2 rfl (lv_at hl 0 rfl) ?_
  refine lv_iload_n F.x F.b dL_price_3 rfl (lv_at hl 1 rfl) ?_
  refine kXi F w hst (LC := [wXo G.2.1 (ad 0) (xF ad) (svV sv) K, wSh G.2.1 (ad 1) S, wSh G.2.1 (ad 2) Fc, wTe G.2.1 (ad 4) C, wSb G.2.1 (ad 5) ou, wAd G.2.1 (ad 6) D, wAb G.2.1 (ad 7) B, wHo G.2.1 (ad 3) cu ct hs, hsL G.2.1 hs, blk G.2.1 sv]) (LR := [[(fo, .inl (G.2.1 4, 1, .inr (.inl f0)))]]) (As := [.int x1]) (rest := [.int 0, .ref fo]) (k_price F.1 gM h) m_X6_price v_X6_price q1067 (ci := 10) (q0 := 0) rfl rfl rfl 11 [0, 1, 2, 3, 4, 5, 6, 7, 9, 10, 8] rfl rfl rfl ⟨Nat.le_of_ble_eq_true rfl, Nat.le_of_ble_eq_true rfl⟩ rfl hl.1 rfl (Nat.le_of_ble_eq_true rfl) dL_price_4 ⟨Nat.le_of_ble_eq_true rfl, Nat.le_of_ble_eq_true rfl⟩ (fun E w1 ce q H locs hx w hce hcv hcl => ?_) (fun r9 w1 H locs h9 w => ?_)
  · obtain ⟨K1, S1, Fc1, C1, D1, B1, cu1, ct1, hs1, sv1, ou1, M1, b1, k1, h9, e2, e3, hm, e4⟩ := hx
    have w := w.jn (L1 := [wXo G.2.1 (ad 0) (xF ad) (svV sv1) K1, wSh G.2.1 (ad 1) S1, wSh G.2.1 (ad 2) Fc1, wTe G.2.1 (ad 4) C1, wSb G.2.1 (ad 5) ou1, wAd G.2.1 (ad 6) D1, wAb G.2.1 (ad 7) B1, wHo G.2.1 (ad 3) cu1 ct1 hs1, hsL G.2.1 hs1, blk G.2.1 sv1]) (L' := [wXo G.2.1 (ad 0) (xF ad) (svV sv1) K1, wSh G.2.1 (ad 1) S1, wSh G.2.1 (ad 2) Fc1, wTe G.2.1 (ad 4) C1, wSb G.2.1 (ad 5) ou1, wAd G.2.1 (ad 6) D1, wAb G.2.1 (ad 7) B1, wHo G.2.1 (ad 3) cu1 ct1 hs1, [(fo, .inl (G.2.1 4, 1, .inr (.inl f0)))], hsL G.2.1 hs1, blk G.2.1 sv1]) h9 11 [0, 1, 2, 3, 4, 5, 6, 7, 10, 8, 9] rfl rfl rfl
    simp only [List.mem_cons, List.not_mem_nil, or_false, Prod.mk.injEq] at hm
    obtain ⟨rfl, rfl⟩ := hm
    refine vx_catch F.o (name := eNSE) (tableOf []) ⟨0, 9, 12, 25⟩ (tableOf []) htab pass_nil rfl (by decide) (F.t _ (List.mem_of_getElem? (i := 979) (by decide +kernel)) rfl _) (F.t _ (List.mem_of_getElem? (i := 903) (by decide +kernel)) rfl _) hce hcv hcl ?_
    refine lv_astore_n (lv' := [(3, .ref q), (0, .ref ((ad 0) 0)), (1, .int x1), (2, .ref fo)]) F.x F.b dL_price_12 rfl hl (by decide) rfl (fun ls hl => ?_)
    refine lv_iconst (v := 1) F.x F.b dL_price_13 (by decide) ?_
    exact eiX F w hr hlocks rfl ⟨K1, S1, Fc1, C1, D1, B1, cu1, ct1, hs1, sv1, ou1, M1, b1, f0, rfl, e2, e3, e4, fun z => absurd z (by decide)⟩ (Nat.le_of_ble_eq_true rfl) (Nat.le_of_ble_eq_true rfl) dL_price_14
  · obtain ⟨K1, S1, Fc1, C1, D1, B1, cu1, ct1, hs1, sv1, ou1, M1, h9, e2, e3, e4⟩ := h9
    have w := w.jn (L1 := [wXo G.2.1 (ad 0) (xF ad) (svV sv1) K1, wSh G.2.1 (ad 1) S1, wSh G.2.1 (ad 2) Fc1, wTe G.2.1 (ad 4) C1, wSb G.2.1 (ad 5) ou1, wAd G.2.1 (ad 6) D1, wAb G.2.1 (ad 7) B1, wHo G.2.1 (ad 3) cu1 ct1 hs1, hsL G.2.1 hs1, blk G.2.1 sv1]) (L' := [wXo G.2.1 (ad 0) (xF ad) (svV sv1) K1, wSh G.2.1 (ad 1) S1, wSh G.2.1 (ad 2) Fc1, wTe G.2.1 (ad 4) C1, wSb G.2.1 (ad 5) ou1, wAd G.2.1 (ad 6) D1, wAb G.2.1 (ad 7) B1, wHo G.2.1 (ad 3) cu1 ct1 hs1, [(fo, .inl (G.2.1 4, 1, .inr (.inl f0)))], hsL G.2.1 hs1, blk G.2.1 sv1]) h9 11 [0, 1, 2, 3, 4, 5, 6, 7, 10, 8, 9] rfl rfl rfl
    refine lv_i2l (v := (Int32.toInt64 r9)) F.x F.b dL_price_7 rfl ?_
    refine rLs F w (ws' := fl [wXo G.2.1 (ad 0) (xF ad) (svV sv1) K1, wSh G.2.1 (ad 1) S1, wSh G.2.1 (ad 2) Fc1, wTe G.2.1 (ad 4) C1, wSb G.2.1 (ad 5) ou1, wAd G.2.1 (ad 6) D1, wAb G.2.1 (ad 7) B1, wHo G.2.1 (ad 3) cu1 ct1 hs1, [(fo, .inl (G.2.1 4, 1, .inr (.inl (vp_updL f0 (Int32.toNatClampNeg 0) (Int32.toInt64 r9)))))], hsL G.2.1 hs1, blk G.2.1 sv1]) 38 rfl (by decide) rfl dL_price_8 (fun H locs w => ?_)
    refine lv_goto (tgt := 15) F.x F.b dL_price_9 (by decide) ?_
    refine lv_iconst (v := 0) F.x F.b dL_price_15 (by decide) ?_
    exact eiX F w hr hlocks rfl ⟨K1, S1, Fc1, C1, D1, B1, cu1, ct1, hs1, sv1, ou1, M1, r9, _, rfl, e2, e3, e4, fun _ => updL0 _ _⟩ (Nat.le_of_ble_eq_true rfl) (Nat.le_of_ble_eq_true rfl) dL_price_16
set_option maxRecDepth 100000 in
set_option maxHeartbeats 4000000 in
theorem l_value {G : cG} (g : GOK G) (gM : MG G) (hNC : NcG G) {ad : Nat → Nat → Nat} {fo : Nat} {f0 : Nat → Int64} {N : Nat} {K S Fc C D B : Mem} {cu ct : Nat} {hs : hS} {sv : sV} {ou : oB} {M : Mem} {x1 : Int32} (h : Top N K S C cu ct hs sv ou M) : CXH G yL_value cL_value 4 [(0, 9, 12, 25)] 41 1600 20 200 [.ref ((ad 0) 0), .int x1, .ref fo] (fl (wLaw G.2.1 ad K S Fc C D B cu ct hs sv ou [(fo, .inl (G.2.1 4, 1, .inr (.inl f0)))])) (LOK G ad fo N (f_X7_value M x1)) := by
  refine CXH.of g (by decide) rfl (Nat.le_of_ble_eq_true rfl) (List.mem_of_getElem? (i := 1073) (by decide +kernel)) (by rfl) ?_
  intro p l e s m below meth c A ls hst htab F hr hlocks w hl
  generalize ([.ref ((ad 0) 0), .int x1, .ref fo] : List Value).toArray = args
  have hl : lv_has ls 4 [(0, .ref ((ad 0) 0)), (1, .int x1), (2, .ref fo)] := hl
  have w : Wd G A s.heap (fl [wXo G.2.1 (ad 0) (xF ad) (svV sv) K, wSh G.2.1 (ad 1) S, wSh G.2.1 (ad 2) Fc, wTe G.2.1 (ad 4) C, wSb G.2.1 (ad 5) ou, wAd G.2.1 (ad 6) D, wAb G.2.1 (ad 7) B, wHo G.2.1 (ad 3) cu ct hs, [(fo, .inl (G.2.1 4, 1, .inr (.inl f0)))], hsL G.2.1 hs, blk G.2.1 sv]) _ _ := w
  refine lv_aload_n F.x F.b dL_value_0 rfl (lv_at hl 2 rfl) ?_
  refine lv_iconst (v := 0) F.x F.b dL_value_1 (by decide) ?_
  refine lv_aload_n F.x F.b dL_value_2 rfl (lv_at hl 0 rfl) ?_
  refine lv_iload_n F.x F.b dL_value_3 rfl (lv_at hl 1 rfl) ?_
  refine kXi F w hst (LC := [wXo G.2.1 (ad 0) (xF ad) (svV sv) K, wSh G.2.1 (ad 1) S, wSh G.2.1 (ad 2) Fc, wTe G.2.1 (ad 4) C, wSb G.2.1 (ad 5) ou, wAd G.2.1 (ad 6) D, wAb G.2.1 (ad 7) B, wHo G.2.1 (ad 3) cu ct hs, hsL G.2.1 hs, blk G.2.1 sv]) (LR := [[(fo, .inl (G.2.1 4, 1, .inr (.inl f0)))]]) (As := [.int x1]) (rest := [.int 0, .ref fo]) (k_value F.1 gM h) m_X6_value v_X6_value q1074 (ci := 10) (q0 := 0) rfl rfl rfl 11 [0, 1, 2, 3, 4, 5, 6, 7, 9, 10, 8] rfl rfl rfl ⟨Nat.le_of_ble_eq_true rfl, Nat.le_of_ble_eq_true rfl⟩ rfl hl.1 rfl (Nat.le_of_ble_eq_true rfl) dL_value_4 ⟨Nat.le_of_ble_eq_true rfl, Nat.le_of_ble_eq_true rfl⟩ (fun E w1 ce q H locs hx w hce hcv hcl => ?_) (fun r9 w1 H locs h9 w => ?_)
  · obtain ⟨K1, S1, Fc1, C1, D1, B1, cu1, ct1, hs1, sv1, ou1, M1, b1, k1, h9, e2, e3, hm, e4⟩ := hx
    have w := w.jn (L1 := [wXo G.2.1 (ad 0) (xF ad) (svV sv1) K1, wSh G.2.1 (ad 1) S1, wSh G.2.1 (ad 2) Fc1, wTe G.2.1 (ad 4) C1, wSb G.2.1 (ad 5) ou1, wAd G.2.1 (ad 6) D1, wAb G.2.1 (ad 7) B1, wHo G.2.1 (ad 3) cu1 ct1 hs1, hsL G.2.1 hs1, blk G.2.1 sv1]) (L' := [wXo G.2.1 (ad 0) (xF ad) (svV sv1) K1, wSh G.2.1 (ad 1) S1, wSh G.2.1 (ad 2) Fc1, wTe G.2.1 (ad 4) C1, wSb G.2.1 (ad 5) ou1, wAd G.2.1 (ad 6) D1, wAb G.2.1 (ad 7) B1, wHo G.2.1 (ad 3) cu1 ct1 hs1, [(fo, .inl (G.2.1 4, 1, .inr (.inl f0)))], hsL G.2.1 hs1, blk G.2.1 sv1]) h9 11 [0, 1, 2, 3, 4, 5, 6, 7, 10, 8, 9] rfl rfl rfl
    simp only [List.mem_cons, List.not_mem_nil, or_false, Prod.mk.injEq] at hm
    obtain ⟨rfl, rfl⟩ := hm
    refine vx_catch F.o (name := eNSE) (tableOf []) ⟨0, 9, 12, 25⟩ (tableOf []) htab pass_nil rfl (by decide) (F.t _ (List.mem_of_getElem? (i := 979) (by decide +kernel)) rfl _) (F.t _ (List.mem_of_getElem? (i := 903) (by decide +kernel)) rfl _) hce hcv hcl ?_
    refine lv_astore_n (lv' := [(3, .ref q), (0, .ref ((ad 0) 0)), (1, .int x1), (2, .ref fo)]) F.x F.b dL_value_12 rfl hl (by decide) rfl (fun ls hl => ?_)
    refine lv_iconst (v := 1) F.x F.b dL_value_13 (by decide) ?_
    exact eiX F w hr hlocks rfl ⟨K1, S1, Fc1, C1, D1, B1, cu1, ct1, hs1, sv1, ou1, M1, b1, f0, rfl, e2, e3, e4, fun z => absurd z (by decide)⟩ (Nat.le_of_ble_eq_true rfl) (Nat.le_of_ble_eq_true rfl) dL_value_14
  · obtain ⟨K1, S1, Fc1, C1, D1, B1, cu1, ct1, hs1, sv1, ou1, M1, h9, e2, e3, e4⟩ := h9
    have w := w.jn (L1 := [wXo G.2.1 (ad 0) (xF ad) (svV sv1) K1, wSh G.2.1 (ad 1) S1, wSh G.2.1 (ad 2) Fc1, wTe G.2.1 (ad 4) C1, wSb G.2.1 (ad 5) ou1, wAd G.2.1 (ad 6) D1, wAb G.2.1 (ad 7) B1, wHo G.2.1 (ad 3) cu1 ct1 hs1, hsL G.2.1 hs1, blk G.2.1 sv1]) (L' := [wXo G.2.1 (ad 0) (xF ad) (svV sv1) K1, wSh G.2.1 (ad 1) S1, wSh G.2.1 (ad 2) Fc1, wTe G.2.1 (ad 4) C1, wSb G.2.1 (ad 5) ou1, wAd G.2.1 (ad 6) D1, wAb G.2.1 (ad 7) B1, wHo G.2.1 (ad 3) cu1 ct1 hs1, [(fo, .inl (G.2.1 4, 1, .inr (.inl f0)))], hsL G.2.1 hs1, blk G.2.1 sv1]) h9 11 [0, 1, 2, 3, 4, 5, 6, 7, 10, 8, 9] rfl rfl rfl
    refine lv_i2l (v := (Int32.toInt64 r9)) F.x F.b dL_value_7 rfl ?_
    refine rLs F w (ws' := fl [wXo G.2.1 (ad 0) (xF ad) (svV sv1) K1, wSh G.2.1 (ad 1) S1, wSh G.2.1 (ad 2) Fc1, wTe G.2.1 (ad 4) C1, wSb G.2.1 (ad 5) ou1, wAd G.2.1 (ad 6) D1, wAb G.2.1 (ad 7) B1, wHo G.2.1 (ad 3) cu1 ct1 hs1, [(fo, .inl (G.2.1 4, 1, .inr (.inl (vp_updL f0 (Int32.toNatClampNeg 0) (Int32.toInt64 r9)))))], hsL G.2.1 hs1, blk G.2.1 sv1]) 38 rfl (by decide) rfl dL_value_8 (fun H locs w => ?_)
    refine lv_goto (tgt := 15) F.x F.b dL_value_9 (by decide) ?_
    refine lv_iconst (v := 0) F.x F.b dL_value_15 (by decide) ?_
    exact eiX F w hr hlocks rfl ⟨K1, S1, Fc1, C1, D1, B1, cu1, ct1, hs1, sv1, ou1, M1, r9, _, rfl, e2, e3, e4, fun _ => updL0 _ _⟩ (Nat.le_of_ble_eq_true rfl) (Nat.le_of_ble_eq_true rfl) dL_value_16
set_option maxRecDepth 100000 in
set_option maxHeartbeats 4000000 in
theorem l_bay {G : cG} (g : GOK G) (gM : MG G) (hNC : NcG G) {ad : Nat → Nat → Nat} {fo : Nat} {f0 : Nat → Int64} {N : Nat} {K S Fc C D B : Mem} {cu ct : Nat} {hs : hS} {sv : sV} {ou : oB} {M : Mem} {x1 : Int32} (h : Top N K S C cu ct hs sv ou M) : CXH G yL_bay cL_bay 4 [(0, 9, 12, 25)] 41 1600 20 200 [.ref ((ad 0) 0), .int x1, .ref fo] (fl (wLaw G.2.1 ad K S Fc C D B cu ct hs sv ou [(fo, .inl (G.2.1 4, 1, .inr (.inl f0)))])) (LOK G ad fo N (f_X7_bay M x1)) := by
  refine CXH.of g (by decide) rfl (Nat.le_of_ble_eq_true rfl) (List.mem_of_getElem? (i := 1081) (by decide +kernel)) (by rfl) ?_
  intro p l e s m below meth c A ls hst htab F hr hlocks w hl
  generalize ([.ref ((ad 0) 0), .int x1, .ref fo] : List Value).toArray = args
  have hl : lv_has ls 4 [(0, .ref ((ad 0) 0)), (1, .int x1), (2, .ref fo)] := hl
  have w : Wd G A s.heap (fl [wXo G.2.1 (ad 0) (xF ad) (svV sv) K, wSh G.2.1 (ad 1) S, wSh G.2.1 (ad 2) Fc, wTe G.2.1 (ad 4) C, wSb G.2.1 (ad 5) ou, wAd G.2.1 (ad 6) D, wAb G.2.1 (ad 7) B, wHo G.2.1 (ad 3) cu ct hs, [(fo, .inl (G.2.1 4, 1, .inr (.inl f0)))], hsL G.2.1 hs, blk G.2.1 sv]) _ _ := w
  refine lv_aload_n F.x F.b dL_bay_0 rfl (lv_at hl 2 rfl) ?_
  refine lv_iconst (v := 0) F.x F.b dL_bay_1 (by decide) ?_
  refine lv_aload_n F.x F.b dL_bay_2 rfl (lv_at hl 0 rfl) ?_
  refine lv_iload_n F.x F.b dL_bay_3 rfl (lv_at hl 1 rfl) ?_
  refine kXi F w hst (LC := [wXo G.2.1 (ad 0) (xF ad) (svV sv) K, wSh G.2.1 (ad 1) S, wSh G.2.1 (ad 2) Fc, wTe G.2.1 (ad 4) C, wSb G.2.1 (ad 5) ou, wAd G.2.1 (ad 6) D, wAb G.2.1 (ad 7) B, wHo G.2.1 (ad 3) cu ct hs, hsL G.2.1 hs, blk G.2.1 sv]) (LR := [[(fo, .inl (G.2.1 4, 1, .inr (.inl f0)))]]) (As := [.int x1]) (rest := [.int 0, .ref fo]) (k_bay F.1 gM h) m_X6_bay v_X6_bay q1082 (ci := 10) (q0 := 0) rfl rfl rfl 11 [0, 1, 2, 3, 4, 5, 6, 7, 9, 10, 8] rfl rfl rfl ⟨Nat.le_of_ble_eq_true rfl, Nat.le_of_ble_eq_true rfl⟩ rfl hl.1 rfl (Nat.le_of_ble_eq_true rfl) dL_bay_4 ⟨Nat.le_of_ble_eq_true rfl, Nat.le_of_ble_eq_true rfl⟩ (fun E w1 ce q H locs hx w hce hcv hcl => ?_) (fun r9 w1 H locs h9 w => ?_)
  · obtain ⟨K1, S1, Fc1, C1, D1, B1, cu1, ct1, hs1, sv1, ou1, M1, b1, k1, h9, e2, e3, hm, e4⟩ := hx
    have w := w.jn (L1 := [wXo G.2.1 (ad 0) (xF ad) (svV sv1) K1, wSh G.2.1 (ad 1) S1, wSh G.2.1 (ad 2) Fc1, wTe G.2.1 (ad 4) C1, wSb G.2.1 (ad 5) ou1, wAd G.2.1 (ad 6) D1, wAb G.2.1 (ad 7) B1, wHo G.2.1 (ad 3) cu1 ct1 hs1, hsL G.2.1 hs1, blk G.2.1 sv1]) (L' := [wXo G.2.1 (ad 0) (xF ad) (svV sv1) K1, wSh G.2.1 (ad 1) S1, wSh G.2.1 (ad 2) Fc1, wTe G.2.1 (ad 4) C1, wSb G.2.1 (ad 5) ou1, wAd G.2.1 (ad 6) D1, wAb G.2.1 (ad 7) B1, wHo G.2.1 (ad 3) cu1 ct1 hs1, [(fo, .inl (G.2.1 4, 1, .inr (.inl f0)))], hsL G.2.1 hs1, blk G.2.1 sv1]) h9 11 [0, 1, 2, 3, 4, 5, 6, 7, 10, 8, 9] rfl rfl rfl
    simp only [List.mem_cons, List.not_mem_nil, or_false, Prod.mk.injEq] at hm
    obtain ⟨rfl, rfl⟩ := hm
    refine vx_catch F.o (name := eNSE) (tableOf []) ⟨0, 9, 12, 25⟩ (tableOf []) htab pass_nil rfl (by decide) (F.t _ (List.mem_of_getElem? (i := 979) (by decide +kernel)) rfl _) (F.t _ (List.mem_of_getElem? (i := 903) (by decide +kernel)) rfl _) hce hcv hcl ?_
    refine lv_astore_n (lv' := [(3, .ref q), (0, .ref ((ad 0) 0)), (1, .int x1), (2, .ref fo)]) F.x F.b dL_bay_12 rfl hl (by decide) rfl (fun ls hl => ?_)
    refine lv_iconst (v := 1) F.x F.b dL_bay_13 (by decide) ?_
    exact eiX F w hr hlocks rfl ⟨K1, S1, Fc1, C1, D1, B1, cu1, ct1, hs1, sv1, ou1, M1, b1, f0, rfl, e2, e3, e4, fun z => absurd z (by decide)⟩ (Nat.le_of_ble_eq_true rfl) (Nat.le_of_ble_eq_true rfl) dL_bay_14
  · obtain ⟨K1, S1, Fc1, C1, D1, B1, cu1, ct1, hs1, sv1, ou1, M1, h9, e2, e3, e4⟩ := h9
    have w := w.jn (L1 := [wXo G.2.1 (ad 0) (xF ad) (svV sv1) K1, wSh G.2.1 (ad 1) S1, wSh G.2.1 (ad 2) Fc1, wTe G.2.1 (ad 4) C1, wSb G.2.1 (ad 5) ou1, wAd G.2.1 (ad 6) D1, wAb G.2.1 (ad 7) B1, wHo G.2.1 (ad 3) cu1 ct1 hs1, hsL G.2.1 hs1, blk G.2.1 sv1]) (L' := [wXo G.2.1 (ad 0) (xF ad) (svV sv1) K1, wSh G.2.1 (ad 1) S1, wSh G.2.1 (ad 2) Fc1, wTe G.2.1 (ad 4) C1, wSb G.2.1 (ad 5) ou1, wAd G.2.1 (ad 6) D1, wAb G.2.1 (ad 7) B1, wHo G.2.1 (ad 3) cu1 ct1 hs1, [(fo, .inl (G.2.1 4, 1, .inr (.inl f0)))], hsL G.2.1 hs1, blk G.2.1 sv1]) h9 11 [0, 1, 2, 3, 4, 5, 6, 7, 10, 8, 9] rfl rfl rfl
    refine lv_i2l (v := (Int32.toInt64 r9)) F.x F.b dL_bay_7 rfl ?_
    refine rLs F w (ws' := fl [wXo G.2.1 (ad 0) (xF ad) (svV sv1) K1, wSh G.2.1 (ad 1) S1, wSh G.2.1 (ad 2) Fc1, wTe G.2.1 (ad 4) C1, wSb G.2.1 (ad 5) ou1, wAd G.2.1 (ad 6) D1, wAb G.2.1 (ad 7) B1, wHo G.2.1 (ad 3) cu1 ct1 hs1, [(fo, .inl (G.2.1 4, 1, .inr (.inl (vp_updL f0 (Int32.toNatClampNeg 0) (Int32.toInt64 r9)))))], hsL G.2.1 hs1, blk G.2.1 sv1]) 38 rfl (by decide) rfl dL_bay_8 (fun H locs w => ?_)
    refine lv_goto (tgt := 15) F.x F.b dL_bay_9 (by decide) ?_
    refine lv_iconst (v := 0) F.x F.b dL_bay_15 (by decide) ?_
    exact eiX F w hr hlocks rfl ⟨K1, S1, Fc1, C1, D1, B1, cu1, ct1, hs1, sv1, ou1, M1, r9, _, rfl, e2, e3, e4, fun _ => updL0 _ _⟩ (Nat.le_of_ble_eq_true rfl) (Nat.le_of_ble_eq_true rfl) dL_bay_16
set_option maxRecDepth 100000 in
set_option maxHeartbeats 4000000 in
theorem l_isSealed {G : cG} (g : GOK G) (gM : MG G) (hNC : NcG G) {ad : Nat → Nat → Nat} {fo : Nat} {f0 : Nat → Int64} {N : Nat} {K S Fc C D B : Mem} {cu ct : Nat} {hs : hS} {sv : sV} {ou : oB} {M : Mem} {x1 : Int32} (h : Top N K S C cu ct hs sv ou M) : CXH G yL_isSealed cL_isSealed 4 [(0, 16, 19, 25)] 41 1600 20 200 [.ref ((ad 0) 0), .int x1, .ref fo] (fl (wLaw G.2.1 ad K S Fc C D B cu ct hs sv ou [(fo, .inl (G.2.1 4, 1, .inr (.inl f0)))])) (LOK G ad fo N (f_X7_isSealed M x1)) := by
  refine CXH.of g (by decide) rfl (Nat.le_of_ble_eq_true rfl) (List.mem_of_getElem? (i := 1088) (by decide +kernel)) (by rfl) ?_
  intro p l e s m below meth c A ls hst htab F hr hlocks w hl
  generalize ([.ref ((ad 0) 0), .int x1, .ref fo] : List Value).toArray = args
  have hl : lv_has ls 4 [(0, .ref ((ad 0) 0)), (1, .int x1), (2, .ref fo)] := hl
  have w : Wd G A s.heap (fl [wXo G.2.1 (ad 0) (xF ad) (svV sv) K, wSh G.2.1 (ad 1) S, wSh G.2.1 (ad 2) Fc, wTe G.2.1 (ad 4) C, wSb G.2.1 (ad 5) ou, wAd G.2.1 (ad 6) D, wAb G.2.1 (ad 7) B, wHo G.2.1 (ad 3) cu ct hs, [(fo, .inl (G.2.1 4, 1, .inr (.inl f0)))], hsL G.2.1 hs, blk G.2.1 sv]) _ _ := w
  refine lv_aload_n F.x F.b dL_isSealed_0 rfl (lv_at hl 2 rfl) ?_
  refine lv_iconst (v := 0) F.x F.b dL_isSealed_1 (by decide) ?_
  refine lv_aload_n F.x F.b dL_isSealed_2 rfl (lv_at hl 0 rfl) ?_
  refine lv_iload_n F.x F.b dL_isSealed_3 rfl (lv_at hl 1 rfl) ?_
  refine kXi F w hst (LC := [wXo G.2.1 (ad 0) (xF ad) (svV sv) K, wSh G.2.1 (ad 1) S, wSh G.2.1 (ad 2) Fc, wTe G.2.1 (ad 4) C, wSb G.2.1 (ad 5) ou, wAd G.2.1 (ad 6) D, wAb G.2.1 (ad 7) B, wHo G.2.1 (ad 3) cu ct hs, hsL G.2.1 hs, blk G.2.1 sv]) (LR := [[(fo, .inl (G.2.1 4, 1, .inr (.inl f0)))]]) (As := [.int x1]) (rest := [.int 0, .ref fo]) (k_isSealed F.1 gM h) m_X6_isSealed v_X6_isSealed q1089 (ci := 10) (q0 := 0) rfl rfl rfl 11 [0, 1, 2, 3, 4, 5, 6, 7, 9, 10, 8] rfl rfl rfl ⟨Nat.le_of_ble_eq_true rfl, Nat.le_of_ble_eq_true rfl⟩ rfl hl.1 rfl (Nat.le_of_ble_eq_true rfl) dL_isSealed_4 ⟨Nat.le_of_ble_eq_true rfl, Nat.le_of_ble_eq_true rfl⟩ (fun E w1 ce q H locs hx w hce hcv hcl => ?_) (fun r9 w1 H locs h9 w => ?_)
  · obtain ⟨K1, S1, Fc1, C1, D1, B1, cu1, ct1, hs1, sv1, ou1, M1, b1, k1, h9, e2, e3, hm, e4⟩ := hx
    have w := w.jn (L1 := [wXo G.2.1 (ad 0) (xF ad) (svV sv1) K1, wSh G.2.1 (ad 1) S1, wSh G.2.1 (ad 2) Fc1, wTe G.2.1 (ad 4) C1, wSb G.2.1 (ad 5) ou1, wAd G.2.1 (ad 6) D1, wAb G.2.1 (ad 7) B1, wHo G.2.1 (ad 3) cu1 ct1 hs1, hsL G.2.1 hs1, blk G.2.1 sv1]) (L' := [wXo G.2.1 (ad 0) (xF ad) (svV sv1) K1, wSh G.2.1 (ad 1) S1, wSh G.2.1 (ad 2) Fc1, wTe G.2.1 (ad 4) C1, wSb G.2.1 (ad 5) ou1, wAd G.2.1 (ad 6) D1, wAb G.2.1 (ad 7) B1, wHo G.2.1 (ad 3) cu1 ct1 hs1, [(fo, .inl (G.2.1 4, 1, .inr (.inl f0)))], hsL G.2.1 hs1, blk G.2.1 sv1]) h9 11 [0, 1, 2, 3, 4, 5, 6, 7, 10, 8, 9] rfl rfl rfl
    simp only [List.mem_cons, List.not_mem_nil, or_false, Prod.mk.injEq] at hm
    obtain ⟨rfl, rfl⟩ := hm
    refine vx_catch F.o (name := eNSE) (tableOf []) ⟨0, 16, 19, 25⟩ (tableOf []) htab pass_nil rfl (by decide) (F.t _ (List.mem_of_getElem? (i := 979) (by decide +kernel)) rfl _) (F.t _ (List.mem_of_getElem? (i := 903) (by decide +kernel)) rfl _) hce hcv hcl ?_
    refine lv_astore_n (lv' := [(3, .ref q), (0, .ref ((ad 0) 0)), (1, .int x1), (2, .ref fo)]) F.x F.b dL_isSealed_19 rfl hl (by decide) rfl (fun ls hl => ?_)
    refine lv_iconst (v := 1) F.x F.b dL_isSealed_20 (by decide) ?_
    exact eiX F w hr hlocks rfl ⟨K1, S1, Fc1, C1, D1, B1, cu1, ct1, hs1, sv1, ou1, M1, b1, f0, rfl, e2, e3, e4, fun z => absurd z (by decide)⟩ (Nat.le_of_ble_eq_true rfl) (Nat.le_of_ble_eq_true rfl) dL_isSealed_21
  · obtain ⟨K1, S1, Fc1, C1, D1, B1, cu1, ct1, hs1, sv1, ou1, M1, h9, e2, e3, e4⟩ := h9
    have w := w.jn (L1 := [wXo G.2.1 (ad 0) (xF ad) (svV sv1) K1, wSh G.2.1 (ad 1) S1, wSh G.2.1 (ad 2) Fc1, wTe G.2.1 (ad 4) C1, wSb G.2.1 (ad 5) ou1, wAd G.2.1 (ad 6) D1, wAb G.2.1 (ad 7) B1, wHo G.2.1 (ad 3) cu1 ct1 hs1, hsL G.2.1 hs1, blk G.2.1 sv1]) (L' := [wXo G.2.1 (ad 0) (xF ad) (svV sv1) K1, wSh G.2.1 (ad 1) S1, wSh G.2.1 (ad 2) Fc1, wTe G.2.1 (ad 4) C1, wSb G.2.1 (ad 5) ou1, wAd G.2.1 (ad 6) D1, wAb G.2.1 (ad 7) B1, wHo G.2.1 (ad 3) cu1 ct1 hs1, [(fo, .inl (G.2.1 4, 1, .inr (.inl f0)))], hsL G.2.1 hs1, blk G.2.1 sv1]) h9 11 [0, 1, 2, 3, 4, 5, 6, 7, 10, 8, 9] rfl rfl rfl
    rcases flag_isSealed e2 with rfl | rfl
    · refine lv_if_eq (tgt := 14) F.x F.b dL_isSealed_7 (by decide) (fun _ => ?_) (fun c9 => absurd rfl c9)
      refine lv_lconst (v := 0) F.x F.b dL_isSealed_14 (by decide) ?_
      refine rLs F w (ws' := fl [wXo G.2.1 (ad 0) (xF ad) (svV sv1) K1, wSh G.2.1 (ad 1) S1, wSh G.2.1 (ad 2) Fc1, wTe G.2.1 (ad 4) C1, wSb G.2.1 (ad 5) ou1, wAd G.2.1 (ad 6) D1, wAb G.2.1 (ad 7) B1, wHo G.2.1 (ad 3) cu1 ct1 hs1, [(fo, .inl (G.2.1 4, 1, .inr (.inl (vp_updL f0 (Int32.toNatClampNeg 0) 0))))], hsL G.2.1 hs1, blk G.2.1 sv1]) 38 rfl (by decide) rfl dL_isSealed_15 (fun H locs w => ?_)
      refine lv_goto (tgt := 22) F.x F.b dL_isSealed_16 (by decide) ?_
      refine lv_iconst (v := 0) F.x F.b dL_isSealed_22 (by decide) ?_
      exact eiX F w hr hlocks rfl ⟨K1, S1, Fc1, C1, D1, B1, cu1, ct1, hs1, sv1, ou1, M1, 0, _, rfl, e2, e3, e4, fun _ => updL0 _ _⟩ (Nat.le_of_ble_eq_true rfl) (Nat.le_of_ble_eq_true rfl) dL_isSealed_23
    · refine lv_if_eq (tgt := 14) F.x F.b dL_isSealed_7 (by decide) (fun c9 => absurd c9 (by decide)) (fun _ => ?_)
      refine lv_lconst (v := 1) F.x F.b dL_isSealed_10 (by decide) ?_
      refine lv_goto (tgt := 15) F.x F.b dL_isSealed_11 (by decide) ?_
      refine rLs F w (ws' := fl [wXo G.2.1 (ad 0) (xF ad) (svV sv1) K1, wSh G.2.1 (ad 1) S1, wSh G.2.1 (ad 2) Fc1, wTe G.2.1 (ad 4) C1, wSb G.2.1 (ad 5) ou1, wAd G.2.1 (ad 6) D1, wAb G.2.1 (ad 7) B1, wHo G.2.1 (ad 3) cu1 ct1 hs1, [(fo, .inl (G.2.1 4, 1, .inr (.inl (vp_updL f0 (Int32.toNatClampNeg 0) 1))))], hsL G.2.1 hs1, blk G.2.1 sv1]) 38 rfl (by decide) rfl dL_isSealed_15 (fun H locs w => ?_)
      refine lv_goto (tgt := 22) F.x F.b dL_isSealed_16 (by decide) ?_
      refine lv_iconst (v := 0) F.x F.b dL_isSealed_22 (by decide) ?_
      exact eiX F w hr hlocks rfl ⟨K1, S1, Fc1, C1, D1, B1, cu1, ct1, hs1, sv1, ou1, M1, 1, _, rfl, e2, e3, e4, fun _ => updL0 _ _⟩ (Nat.le_of_ble_eq_true rfl) (Nat.le_of_ble_eq_true rfl) dL_isSealed_23
set_option maxRecDepth 100000 in
set_option maxHeartbeats 4000000 in
theorem l_isDamp {G : cG} (g : GOK G) (gM : MG G) (hNC : NcG G) {ad : Nat → Nat → Nat} {fo : Nat} {f0 : Nat → Int64} {N : Nat} {K S Fc C D B : Mem} {cu ct : Nat} {hs : hS} {sv : sV} {ou : oB} {M : Mem} {x1 : Int32} (h : Top N K S C cu ct hs sv ou M) : CXH G yL_isDamp cL_isDamp 4 [(0, 16, 19, 25)] 41 1600 20 200 [.ref ((ad 0) 0), .int x1, .ref fo] (fl (wLaw G.2.1 ad K S Fc C D B cu ct hs sv ou [(fo, .inl (G.2.1 4, 1, .inr (.inl f0)))])) (LOK G ad fo N (f_X7_isDamp M x1)) := by
  refine CXH.of g (by decide) rfl (Nat.le_of_ble_eq_true rfl) (List.mem_of_getElem? (i := 1095) (by decide +kernel)) (by rfl) ?_
  intro p l e s m below meth c A ls hst htab F hr hlocks w hl
  generalize ([.ref ((ad 0) 0), .int x1, .ref fo] : List Value).toArray = args
  have hl : lv_has ls 4 [(0, .ref ((ad 0) 0)), (1, .int x1), (2, .ref fo)] := hl
  have w : Wd G A s.heap (fl [wXo G.2.1 (ad 0) (xF ad) (svV sv) K, wSh G.2.1 (ad 1) S, wSh G.2.1 (ad 2) Fc, wTe G.2.1 (ad 4) C, wSb G.2.1 (ad 5) ou, wAd G.2.1 (ad 6) D, wAb G.2.1 (ad 7) B, wHo G.2.1 (ad 3) cu ct hs, [(fo, .inl (G.2.1 4, 1, .inr (.inl f0)))], hsL G.2.1 hs, blk G.2.1 sv]) _ _ := w
  refine lv_aload_n F.x F.b dL_isDamp_0 rfl (lv_at hl 2 rfl) ?_
  refine lv_iconst (v := 0) F.x F.b dL_isDamp_1 (by decide) ?_
  refine lv_aload_n F.x F.b dL_isDamp_2 rfl (lv_at hl 0 rfl) ?_
  refine lv_iload_n F.x F.b dL_isDamp_3 rfl (lv_at hl 1 rfl) ?_
  refine kXi F w hst (LC := [wXo G.2.1 (ad 0) (xF ad) (svV sv) K, wSh G.2.1 (ad 1) S, wSh G.2.1 (ad 2) Fc, wTe G.2.1 (ad 4) C, wSb G.2.1 (ad 5) ou, wAd G.2.1 (ad 6) D, wAb G.2.1 (ad 7) B, wHo G.2.1 (ad 3) cu ct hs, hsL G.2.1 hs, blk G.2.1 sv]) (LR := [[(fo, .inl (G.2.1 4, 1, .inr (.inl f0)))]]) (As := [.int x1]) (rest := [.int 0, .ref fo]) (k_isDamp F.1 gM h) m_X6_isDamp v_X6_isDamp q1096 (ci := 10) (q0 := 0) rfl rfl rfl 11 [0, 1, 2, 3, 4, 5, 6, 7, 9, 10, 8] rfl rfl rfl ⟨Nat.le_of_ble_eq_true rfl, Nat.le_of_ble_eq_true rfl⟩ rfl hl.1 rfl (Nat.le_of_ble_eq_true rfl) dL_isDamp_4 ⟨Nat.le_of_ble_eq_true rfl, Nat.le_of_ble_eq_true rfl⟩ (fun E w1 ce q H locs hx w hce hcv hcl => ?_) (fun r9 w1 H locs h9 w => ?_)
  · obtain ⟨K1, S1, Fc1, C1, D1, B1, cu1, ct1, hs1, sv1, ou1, M1, b1, k1, h9, e2, e3, hm, e4⟩ := hx
    have w := w.jn (L1 := [wXo G.2.1 (ad 0) (xF ad) (svV sv1) K1, wSh G.2.1 (ad 1) S1, wSh G.2.1 (ad 2) Fc1, wTe G.2.1 (ad 4) C1, wSb G.2.1 (ad 5) ou1, wAd G.2.1 (ad 6) D1, wAb G.2.1 (ad 7) B1, wHo G.2.1 (ad 3) cu1 ct1 hs1, hsL G.2.1 hs1, blk G.2.1 sv1]) (L' := [wXo G.2.1 (ad 0) (xF ad) (svV sv1) K1, wSh G.2.1 (ad 1) S1, wSh G.2.1 (ad 2) Fc1, wTe G.2.1 (ad 4) C1, wSb G.2.1 (ad 5) ou1, wAd G.2.1 (ad 6) D1, wAb G.2.1 (ad 7) B1, wHo G.2.1 (ad 3) cu1 ct1 hs1, [(fo, .inl (G.2.1 4, 1, .inr (.inl f0)))], hsL G.2.1 hs1, blk G.2.1 sv1]) h9 11 [0, 1, 2, 3, 4, 5, 6, 7, 10, 8, 9] rfl rfl rfl
    simp only [List.mem_cons, List.not_mem_nil, or_false, Prod.mk.injEq] at hm
    obtain ⟨rfl, rfl⟩ := hm
    refine vx_catch F.o (name := eNSE) (tableOf []) ⟨0, 16, 19, 25⟩ (tableOf []) htab pass_nil rfl (by decide) (F.t _ (List.mem_of_getElem? (i := 979) (by decide +kernel)) rfl _) (F.t _ (List.mem_of_getElem? (i := 903) (by decide +kernel)) rfl _) hce hcv hcl ?_
    refine lv_astore_n (lv' := [(3, .ref q), (0, .ref ((ad 0) 0)), (1, .int x1), (2, .ref fo)]) F.x F.b dL_isDamp_19 rfl hl (by decide) rfl (fun ls hl => ?_)
    refine lv_iconst (v := 1) F.x F.b dL_isDamp_20 (by decide) ?_
    exact eiX F w hr hlocks rfl ⟨K1, S1, Fc1, C1, D1, B1, cu1, ct1, hs1, sv1, ou1, M1, b1, f0, rfl, e2, e3, e4, fun z => absurd z (by decide)⟩ (Nat.le_of_ble_eq_true rfl) (Nat.le_of_ble_eq_true rfl) dL_isDamp_21
  · obtain ⟨K1, S1, Fc1, C1, D1, B1, cu1, ct1, hs1, sv1, ou1, M1, h9, e2, e3, e4⟩ := h9
    have w := w.jn (L1 := [wXo G.2.1 (ad 0) (xF ad) (svV sv1) K1, wSh G.2.1 (ad 1) S1, wSh G.2.1 (ad 2) Fc1, wTe G.2.1 (ad 4) C1, wSb G.2.1 (ad 5) ou1, wAd G.2.1 (ad 6) D1, wAb G.2.1 (ad 7) B1, wHo G.2.1 (ad 3) cu1 ct1 hs1, hsL G.2.1 hs1, blk G.2.1 sv1]) (L' := [wXo G.2.1 (ad 0) (xF ad) (svV sv1) K1, wSh G.2.1 (ad 1) S1, wSh G.2.1 (ad 2) Fc1, wTe G.2.1 (ad 4) C1, wSb G.2.1 (ad 5) ou1, wAd G.2.1 (ad 6) D1, wAb G.2.1 (ad 7) B1, wHo G.2.1 (ad 3) cu1 ct1 hs1, [(fo, .inl (G.2.1 4, 1, .inr (.inl f0)))], hsL G.2.1 hs1, blk G.2.1 sv1]) h9 11 [0, 1, 2, 3, 4, 5, 6, 7, 10, 8, 9] rfl rfl rfl
    rcases flag_isDamp e2 with rfl | rfl
    · refine lv_if_eq (tgt := 14) F.x F.b dL_isDamp_7 (by decide) (fun _ => ?_) (fun c9 => absurd rfl c9)
      refine lv_lconst (v := 0) F.x F.b dL_isDamp_14 (by decide) ?_
      refine rLs F w (ws' := fl [wXo G.2.1 (ad 0) (xF ad) (svV sv1) K1, wSh G.2.1 (ad 1) S1, wSh G.2.1 (ad 2) Fc1, wTe G.2.1 (ad 4) C1, wSb G.2.1 (ad 5) ou1, wAd G.2.1 (ad 6) D1, wAb G.2.1 (ad 7) B1, wHo G.2.1 (ad 3) cu1 ct1 hs1, [(fo, .inl (G.2.1 4, 1, .inr (.inl (vp_updL f0 (Int32.toNatClampNeg 0) 0))))], hsL G.2.1 hs1, blk G.2.1 sv1]) 38 rfl (by decide) rfl dL_isDamp_15 (fun H locs w => ?_)
      refine lv_goto (tgt := 22) F.x F.b dL_isDamp_16 (by decide) ?_
      refine lv_iconst (v := 0) F.x F.b dL_isDamp_22 (by decide) ?_
      exact eiX F w hr hlocks rfl ⟨K1, S1, Fc1, C1, D1, B1, cu1, ct1, hs1, sv1, ou1, M1, 0, _, rfl, e2, e3, e4, fun _ => updL0 _ _⟩ (Nat.le_of_ble_eq_true rfl) (Nat.le_of_ble_eq_true rfl) dL_isDamp_23
    · refine lv_if_eq (tgt := 14) F.x F.b dL_isDamp_7 (by decide) (fun c9 => absurd c9 (by decide)) (fun _ => ?_)
      refine lv_lconst (v := 1) F.x F.b dL_isDamp_10 (by decide) ?_
      refine lv_goto (tgt := 15) F.x F.b dL_isDamp_11 (by decide) ?_
      refine rLs F w (ws' := fl [wXo G.2.1 (ad 0) (xF ad) (svV sv1) K1, wSh G.2.1 (ad 1) S1, wSh G.2.1 (ad 2) Fc1, wTe G.2.1 (ad 4) C1, wSb G.2.1 (ad 5) ou1, wAd G.2.1 (ad 6) D1, wAb G.2.1 (ad 7) B1, wHo G.2.1 (ad 3) cu1 ct1 hs1, [(fo, .inl (G.2.1 4, 1, .inr (.inl (vp_updL f0 (Int32.toNatClampNeg 0) 1))))], hsL G.2.1 hs1, blk G.2.1 sv1]) 38 rfl (by decide) rfl dL_isDamp_15 (fun H locs w => ?_)
      refine lv_goto (tgt := 22) F.x F.b dL_isDamp_16 (by decide) ?_
      refine lv_iconst (v := 0) F.x F.b dL_isDamp_22 (by decide) ?_
      exact eiX F w hr hlocks rfl ⟨K1, S1, Fc1, C1, D1, B1, cu1, ct1, hs1, sv1, ou1, M1, 1, _, rfl, e2, e3, e4, fun _ => updL0 _ _⟩ (Nat.le_of_ble_eq_true rfl) (Nat.le_of_ble_eq_true rfl) dL_isDamp_23
set_option maxRecDepth 100000 in
set_option maxHeartbeats 4000000 in
theorem l_lotAt {G : cG} (g : GOK G) (gM : MG G) (hNC : NcG G) {ad : Nat → Nat → Nat} {fo : Nat} {f0 : Nat → Int64} {N : Nat} {K S Fc C D B : Mem} {cu ct : Nat} {hs : hS} {sv : sV} {ou : oB} {M : Mem} {x1 : Int32} (h : Top N K S C cu ct hs sv ou M) : CXH G yL_lotAt cL_lotAt 4 [(0, 9, 12, 13), (0, 9, 15, 25)] 41 1600 20 200 [.ref ((ad 0) 0), .int x1, .ref fo] (fl (wLaw G.2.1 ad K S Fc C D B cu ct hs sv ou [(fo, .inl (G.2.1 4, 1, .inr (.inl f0)))])) (LOK G ad fo N (f_X7_lotAt M x1)) := by
  refine CXH.of g (by decide) rfl (Nat.le_of_ble_eq_true rfl) (List.mem_of_getElem? (i := 1102) (by decide +kernel)) (by rfl) ?_
  intro p l e s m below meth c A ls hst htab F hr hlocks w hl
  generalize ([.ref ((ad 0) 0), .int x1, .ref fo] : List Value).toArray = args
  have hl : lv_has ls 4 [(0, .ref ((ad 0) 0)), (1, .int x1), (2, .ref fo)] := hl
  have w : Wd G A s.heap (fl [wXo G.2.1 (ad 0) (xF ad) (svV sv) K, wSh G.2.1 (ad 1) S, wSh G.2.1 (ad 2) Fc, wTe G.2.1 (ad 4) C, wSb G.2.1 (ad 5) ou, wAd G.2.1 (ad 6) D, wAb G.2.1 (ad 7) B, wHo G.2.1 (ad 3) cu ct hs, [(fo, .inl (G.2.1 4, 1, .inr (.inl f0)))], hsL G.2.1 hs, blk G.2.1 sv]) _ _ := w
  refine lv_aload_n F.x F.b dL_lotAt_0 rfl (lv_at hl 2 rfl) ?_
  refine lv_iconst (v := 0) F.x F.b dL_lotAt_1 (by decide) ?_
  refine lv_aload_n F.x F.b dL_lotAt_2 rfl (lv_at hl 0 rfl) ?_
  refine lv_iload_n F.x F.b dL_lotAt_3 rfl (lv_at hl 1 rfl) ?_
  refine kXi F w hst (LC := [wXo G.2.1 (ad 0) (xF ad) (svV sv) K, wSh G.2.1 (ad 1) S, wSh G.2.1 (ad 2) Fc, wTe G.2.1 (ad 4) C, wSb G.2.1 (ad 5) ou, wAd G.2.1 (ad 6) D, wAb G.2.1 (ad 7) B, wHo G.2.1 (ad 3) cu ct hs, hsL G.2.1 hs, blk G.2.1 sv]) (LR := [[(fo, .inl (G.2.1 4, 1, .inr (.inl f0)))]]) (As := [.int x1]) (rest := [.int 0, .ref fo]) (k_lotAt F.1 gM h) m_X6_lotAt v_X6_lotAt q1103 (ci := 10) (q0 := 0) rfl rfl rfl 11 [0, 1, 2, 3, 4, 5, 6, 7, 9, 10, 8] rfl rfl rfl ⟨Nat.le_of_ble_eq_true rfl, Nat.le_of_ble_eq_true rfl⟩ rfl hl.1 rfl (Nat.le_of_ble_eq_true rfl) dL_lotAt_4 ⟨Nat.le_of_ble_eq_true rfl, Nat.le_of_ble_eq_true rfl⟩ (fun E w1 ce q H locs hx w hce hcv hcl => ?_) (fun r9 w1 H locs h9 w => ?_)
  · obtain ⟨K1, S1, Fc1, C1, D1, B1, cu1, ct1, hs1, sv1, ou1, M1, b1, k1, h9, e2, e3, hm, e4⟩ := hx
    have w := w.jn (L1 := [wXo G.2.1 (ad 0) (xF ad) (svV sv1) K1, wSh G.2.1 (ad 1) S1, wSh G.2.1 (ad 2) Fc1, wTe G.2.1 (ad 4) C1, wSb G.2.1 (ad 5) ou1, wAd G.2.1 (ad 6) D1, wAb G.2.1 (ad 7) B1, wHo G.2.1 (ad 3) cu1 ct1 hs1, hsL G.2.1 hs1, blk G.2.1 sv1]) (L' := [wXo G.2.1 (ad 0) (xF ad) (svV sv1) K1, wSh G.2.1 (ad 1) S1, wSh G.2.1 (ad 2) Fc1, wTe G.2.1 (ad 4) C1, wSb G.2.1 (ad 5) ou1, wAd G.2.1 (ad 6) D1, wAb G.2.1 (ad 7) B1, wHo G.2.1 (ad 3) cu1 ct1 hs1, [(fo, .inl (G.2.1 4, 1, .inr (.inl f0)))], hsL G.2.1 hs1, blk G.2.1 sv1]) h9 11 [0, 1, 2, 3, 4, 5, 6, 7, 10, 8, 9] rfl rfl rfl
    simp only [List.mem_cons, List.not_mem_nil, or_false, Prod.mk.injEq] at hm
    rcases hm with ⟨rfl, rfl⟩ | ⟨rfl, rfl⟩
    · refine vx_catch F.o (name := eIOB) (tableOf []) ⟨0, 9, 12, 13⟩ (tableOf [(0, 9, 15, 25)]) htab pass_nil rfl (by decide) (F.t _ (List.mem_of_getElem? (i := 866) (by decide +kernel)) rfl _) (F.t _ (List.mem_of_getElem? (i := 924) (by decide +kernel)) rfl _) hce hcv hcl ?_
      refine lv_astore_n (lv' := [(3, .ref q), (0, .ref ((ad 0) 0)), (1, .int x1), (2, .ref fo)]) F.x F.b dL_lotAt_12 rfl hl (by decide) rfl (fun ls hl => ?_)
      refine lv_iconst (v := 1) F.x F.b dL_lotAt_13 (by decide) ?_
      exact eiX F w hr hlocks rfl ⟨K1, S1, Fc1, C1, D1, B1, cu1, ct1, hs1, sv1, ou1, M1, b1, f0, rfl, e2, e3, e4, fun z => absurd z (by decide)⟩ (Nat.le_of_ble_eq_true rfl) (Nat.le_of_ble_eq_true rfl) dL_lotAt_14
    · refine vx_catch F.o (name := eNSE) (tableOf [(0, 9, 12, 13)]) ⟨0, 9, 15, 25⟩ (tableOf []) htab (pass_cons F hNC (by decide) (T := eIOB) (List.mem_of_getElem? (i := 866) (by decide +kernel)) (by decide +kernel : eNSE ∈ allE) (by decide +kernel : eIOB ∈ allE) (by decide +kernel) pass_nil) rfl (by decide) (F.t _ (List.mem_of_getElem? (i := 979) (by decide +kernel)) rfl _) (F.t _ (List.mem_of_getElem? (i := 903) (by decide +kernel)) rfl _) hce hcv hcl ?_
      refine lv_astore_n (lv' := [(3, .ref q), (0, .ref ((ad 0) 0)), (1, .int x1), (2, .ref fo)]) F.x F.b dL_lotAt_15 rfl hl (by decide) rfl (fun ls hl => ?_)
      refine lv_iconst (v := 2) F.x F.b dL_lotAt_16 (by decide) ?_
      exact eiX F w hr hlocks rfl ⟨K1, S1, Fc1, C1, D1, B1, cu1, ct1, hs1, sv1, ou1, M1, b1, f0, rfl, e2, e3, e4, fun z => absurd z (by decide)⟩ (Nat.le_of_ble_eq_true rfl) (Nat.le_of_ble_eq_true rfl) dL_lotAt_17
  · obtain ⟨K1, S1, Fc1, C1, D1, B1, cu1, ct1, hs1, sv1, ou1, M1, h9, e2, e3, e4⟩ := h9
    have w := w.jn (L1 := [wXo G.2.1 (ad 0) (xF ad) (svV sv1) K1, wSh G.2.1 (ad 1) S1, wSh G.2.1 (ad 2) Fc1, wTe G.2.1 (ad 4) C1, wSb G.2.1 (ad 5) ou1, wAd G.2.1 (ad 6) D1, wAb G.2.1 (ad 7) B1, wHo G.2.1 (ad 3) cu1 ct1 hs1, hsL G.2.1 hs1, blk G.2.1 sv1]) (L' := [wXo G.2.1 (ad 0) (xF ad) (svV sv1) K1, wSh G.2.1 (ad 1) S1, wSh G.2.1 (ad 2) Fc1, wTe G.2.1 (ad 4) C1, wSb G.2.1 (ad 5) ou1, wAd G.2.1 (ad 6) D1, wAb G.2.1 (ad 7) B1, wHo G.2.1 (ad 3) cu1 ct1 hs1, [(fo, .inl (G.2.1 4, 1, .inr (.inl f0)))], hsL G.2.1 hs1, blk G.2.1 sv1]) h9 11 [0, 1, 2, 3, 4, 5, 6, 7, 10, 8, 9] rfl rfl rfl
    refine lv_i2l (v := (Int32.toInt64 r9)) F.x F.b dL_lotAt_7 rfl ?_
    refine rLs F w (ws' := fl [wXo G.2.1 (ad 0) (xF ad) (svV sv1) K1, wSh G.2.1 (ad 1) S1, wSh G.2.1 (ad 2) Fc1, wTe G.2.1 (ad 4) C1, wSb G.2.1 (ad 5) ou1, wAd G.2.1 (ad 6) D1, wAb G.2.1 (ad 7) B1, wHo G.2.1 (ad 3) cu1 ct1 hs1, [(fo, .inl (G.2.1 4, 1, .inr (.inl (vp_updL f0 (Int32.toNatClampNeg 0) (Int32.toInt64 r9)))))], hsL G.2.1 hs1, blk G.2.1 sv1]) 38 rfl (by decide) rfl dL_lotAt_8 (fun H locs w => ?_)
    refine lv_goto (tgt := 18) F.x F.b dL_lotAt_9 (by decide) ?_
    refine lv_iconst (v := 0) F.x F.b dL_lotAt_18 (by decide) ?_
    exact eiX F w hr hlocks rfl ⟨K1, S1, Fc1, C1, D1, B1, cu1, ct1, hs1, sv1, ou1, M1, r9, _, rfl, e2, e3, e4, fun _ => updL0 _ _⟩ (Nat.le_of_ble_eq_true rfl) (Nat.le_of_ble_eq_true rfl) dL_lotAt_19
set_option maxRecDepth 100000 in
set_option maxHeartbeats 4000000 in
theorem l_nextEmptyBay {G : cG} (g : GOK G) (gM : MG G) (hNC : NcG G) {ad : Nat → Nat → Nat} {fo : Nat} {f0 : Nat → Int64} {N : Nat} {K S Fc C D B : Mem} {cu ct : Nat} {hs : hS} {sv : sV} {ou : oB} {M : Mem} {x1 : Int32} (h : Top N K S C cu ct hs sv ou M) : CXH G yL_nextEmptyBay cL_nextEmptyBay 4 [(0, 9, 12, 13), (0, 9, 15, 25)] 41 1600 20 200 [.ref ((ad 0) 0), .int x1, .ref fo] (fl (wLaw G.2.1 ad K S Fc C D B cu ct hs sv ou [(fo, .inl (G.2.1 4, 1, .inr (.inl f0)))])) (LOK G ad fo N (f_X7_nextEmptyBay M x1)) := by
  refine CXH.of g (by decide) rfl (Nat.le_of_ble_eq_true rfl) (List.mem_of_getElem? (i := 1111) (by decide +kernel)) (by rfl) ?_
  intro p l e s m below meth c A ls hst htab F hr hlocks w hl
  generalize ([.ref ((ad 0) 0), .int x1, .ref fo] : List Value).toArray = args
  have hl : lv_has ls 4 [(0, .ref ((ad 0) 0)), (1, .int x1), (2, .ref fo)] := hl
  have w : Wd G A s.heap (fl [wXo G.2.1 (ad 0) (xF ad) (svV sv) K, wSh G.2.1 (ad 1) S, wSh G.2.1 (ad 2) Fc, wTe G.2.1 (ad 4) C, wSb G.2.1 (ad 5) ou, wAd G.2.1 (ad 6) D, wAb G.2.1 (ad 7) B, wHo G.2.1 (ad 3) cu ct hs, [(fo, .inl (G.2.1 4, 1, .inr (.inl f0)))], hsL G.2.1 hs, blk G.2.1 sv]) _ _ := w
  refine lv_aload_n F.x F.b dL_nextEmptyBay_0 rfl (lv_at hl 2 rfl) ?_
  refine lv_iconst (v := 0) F.x F.b dL_nextEmptyBay_1 (by decide) ?_
  refine lv_aload_n F.x F.b dL_nextEmptyBay_2 rfl (lv_at hl 0 rfl) ?_
  refine lv_iload_n F.x F.b dL_nextEmptyBay_3 rfl (lv_at hl 1 rfl) ?_
  refine kXi F w hst (LC := [wXo G.2.1 (ad 0) (xF ad) (svV sv) K, wSh G.2.1 (ad 1) S, wSh G.2.1 (ad 2) Fc, wTe G.2.1 (ad 4) C, wSb G.2.1 (ad 5) ou, wAd G.2.1 (ad 6) D, wAb G.2.1 (ad 7) B, wHo G.2.1 (ad 3) cu ct hs, hsL G.2.1 hs, blk G.2.1 sv]) (LR := [[(fo, .inl (G.2.1 4, 1, .inr (.inl f0)))]]) (As := [.int x1]) (rest := [.int 0, .ref fo]) (k_nextEmptyBay F.1 gM h) m_X6_nextEmptyBay v_X6_nextEmptyBay q1112 (ci := 10) (q0 := 0) rfl rfl rfl 11 [0, 1, 2, 3, 4, 5, 6, 7, 9, 10, 8] rfl rfl rfl ⟨Nat.le_of_ble_eq_true rfl, Nat.le_of_ble_eq_true rfl⟩ rfl hl.1 rfl (Nat.le_of_ble_eq_true rfl) dL_nextEmptyBay_4 ⟨Nat.le_of_ble_eq_true rfl, Nat.le_of_ble_eq_true rfl⟩ (fun E w1 ce q H locs hx w hce hcv hcl => ?_) (fun r9 w1 H locs h9 w => ?_)
  · obtain ⟨K1, S1, Fc1, C1, D1, B1, cu1, ct1, hs1, sv1, ou1, M1, b1, k1, h9, e2, e3, hm, e4⟩ := hx
    have w := w.jn (L1 := [wXo G.2.1 (ad 0) (xF ad) (svV sv1) K1, wSh G.2.1 (ad 1) S1, wSh G.2.1 (ad 2) Fc1, wTe G.2.1 (ad 4) C1, wSb G.2.1 (ad 5) ou1, wAd G.2.1 (ad 6) D1, wAb G.2.1 (ad 7) B1, wHo G.2.1 (ad 3) cu1 ct1 hs1, hsL G.2.1 hs1, blk G.2.1 sv1]) (L' := [wXo G.2.1 (ad 0) (xF ad) (svV sv1) K1, wSh G.2.1 (ad 1) S1, wSh G.2.1 (ad 2) Fc1, wTe G.2.1 (ad 4) C1, wSb G.2.1 (ad 5) ou1, wAd G.2.1 (ad 6) D1, wAb G.2.1 (ad 7) B1, wHo G.2.1 (ad 3) cu1 ct1 hs1, [(fo, .inl (G.2.1 4, 1, .inr (.inl f0)))], hsL G.2.1 hs1, blk G.2.1 sv1]) h9 11 [0, 1, 2, 3, 4, 5, 6, 7, 10, 8, 9] rfl rfl rfl
    simp only [List.mem_cons, List.not_mem_nil, or_false, Prod.mk.injEq] at hm
    rcases hm with ⟨rfl, rfl⟩ | ⟨rfl, rfl⟩
    · refine vx_catch F.o (name := eIOB) (tableOf []) ⟨0, 9, 12, 13⟩ (tableOf [(0, 9, 15, 25)]) htab pass_nil rfl (by decide) (F.t _ (List.mem_of_getElem? (i := 866) (by decide +kernel)) rfl _) (F.t _ (List.mem_of_getElem? (i := 924) (by decide +kernel)) rfl _) hce hcv hcl ?_
      refine lv_astore_n (lv' := [(3, .ref q), (0, .ref ((ad 0) 0)), (1, .int x1), (2, .ref fo)]) F.x F.b dL_nextEmptyBay_12 rfl hl (by decide) rfl (fun ls hl => ?_)
      refine lv_iconst (v := 1) F.x F.b dL_nextEmptyBay_13 (by decide) ?_
      exact eiX F w hr hlocks rfl ⟨K1, S1, Fc1, C1, D1, B1, cu1, ct1, hs1, sv1, ou1, M1, b1, f0, rfl, e2, e3, e4, fun z => absurd z (by decide)⟩ (Nat.le_of_ble_eq_true rfl) (Nat.le_of_ble_eq_true rfl) dL_nextEmptyBay_14
    · refine vx_catch F.o (name := eNSE) (tableOf [(0, 9, 12, 13)]) ⟨0, 9, 15, 25⟩ (tableOf []) htab (pass_cons F hNC (by decide) (T := eIOB) (List.mem_of_getElem? (i := 866) (by decide +kernel)) (by decide +kernel : eNSE ∈ allE) (by decide +kernel : eIOB ∈ allE) (by decide +kernel) pass_nil) rfl (by decide) (F.t _ (List.mem_of_getElem? (i := 979) (by decide +kernel)) rfl _) (F.t _ (List.mem_of_getElem? (i := 903) (by decide +kernel)) rfl _) hce hcv hcl ?_
      refine lv_astore_n (lv' := [(3, .ref q), (0, .ref ((ad 0) 0)), (1, .int x1), (2, .ref fo)]) F.x F.b dL_nextEmptyBay_15 rfl hl (by decide) rfl (fun ls hl => ?_)
      refine lv_iconst (v := 2) F.x F.b dL_nextEmptyBay_16 (by decide) ?_
      exact eiX F w hr hlocks rfl ⟨K1, S1, Fc1, C1, D1, B1, cu1, ct1, hs1, sv1, ou1, M1, b1, f0, rfl, e2, e3, e4, fun z => absurd z (by decide)⟩ (Nat.le_of_ble_eq_true rfl) (Nat.le_of_ble_eq_true rfl) dL_nextEmptyBay_17
  · obtain ⟨K1, S1, Fc1, C1, D1, B1, cu1, ct1, hs1, sv1, ou1, M1, h9, e2, e3, e4⟩ := h9
    have w := w.jn (L1 := [wXo G.2.1 (ad 0) (xF ad) (svV sv1) K1, wSh G.2.1 (ad 1) S1, wSh G.2.1 (ad 2) Fc1, wTe G.2.1 (ad 4) C1, wSb G.2.1 (ad 5) ou1, wAd G.2.1 (ad 6) D1, wAb G.2.1 (ad 7) B1, wHo G.2.1 (ad 3) cu1 ct1 hs1, hsL G.2.1 hs1, blk G.2.1 sv1]) (L' := [wXo G.2.1 (ad 0) (xF ad) (svV sv1) K1, wSh G.2.1 (ad 1) S1, wSh G.2.1 (ad 2) Fc1, wTe G.2.1 (ad 4) C1, wSb G.2.1 (ad 5) ou1, wAd G.2.1 (ad 6) D1, wAb G.2.1 (ad 7) B1, wHo G.2.1 (ad 3) cu1 ct1 hs1, [(fo, .inl (G.2.1 4, 1, .inr (.inl f0)))], hsL G.2.1 hs1, blk G.2.1 sv1]) h9 11 [0, 1, 2, 3, 4, 5, 6, 7, 10, 8, 9] rfl rfl rfl
    refine lv_i2l (v := (Int32.toInt64 r9)) F.x F.b dL_nextEmptyBay_7 rfl ?_
    refine rLs F w (ws' := fl [wXo G.2.1 (ad 0) (xF ad) (svV sv1) K1, wSh G.2.1 (ad 1) S1, wSh G.2.1 (ad 2) Fc1, wTe G.2.1 (ad 4) C1, wSb G.2.1 (ad 5) ou1, wAd G.2.1 (ad 6) D1, wAb G.2.1 (ad 7) B1, wHo G.2.1 (ad 3) cu1 ct1 hs1, [(fo, .inl (G.2.1 4, 1, .inr (.inl (vp_updL f0 (Int32.toNatClampNeg 0) (Int32.toInt64 r9)))))], hsL G.2.1 hs1, blk G.2.1 sv1]) 38 rfl (by decide) rfl dL_nextEmptyBay_8 (fun H locs w => ?_)
    refine lv_goto (tgt := 18) F.x F.b dL_nextEmptyBay_9 (by decide) ?_
    refine lv_iconst (v := 0) F.x F.b dL_nextEmptyBay_18 (by decide) ?_
    exact eiX F w hr hlocks rfl ⟨K1, S1, Fc1, C1, D1, B1, cu1, ct1, hs1, sv1, ou1, M1, r9, _, rfl, e2, e3, e4, fun _ => updL0 _ _⟩ (Nat.le_of_ble_eq_true rfl) (Nat.le_of_ble_eq_true rfl) dL_nextEmptyBay_19
set_option maxRecDepth 100000 in
set_option maxHeartbeats 4000000 in
theorem l_quantityOfKind {G : cG} (g : GOK G) (gM : MG G) (hNC : NcG G) {ad : Nat → Nat → Nat} {fo : Nat} {f0 : Nat → Int64} {N : Nat} {K S Fc C D B : Mem} {cu ct : Nat} {hs : hS} {sv : sV} {ou : oB} {M : Mem} {x1 : Int32} (h : Top N K S C cu ct hs sv ou M) : CXH G yL_quantityOfKind cL_quantityOfKind 4 [(0, 9, 12, 15)] 41 1600 20 200 [.ref ((ad 0) 0), .int x1, .ref fo] (fl (wLaw G.2.1 ad K S Fc C D B cu ct hs sv ou [(fo, .inl (G.2.1 4, 1, .inr (.inl f0)))])) (LOK G ad fo N (f_X7_quantityOfKind M x1)) := by
  refine CXH.of g (by decide) rfl (Nat.le_of_ble_eq_true rfl) (List.mem_of_getElem? (i := 1119) (by decide +kernel)) (by rfl) ?_
  intro p l e s m below meth c A ls hst htab F hr hlocks w hl
  generalize ([.ref ((ad 0) 0), .int x1, .ref fo] : List Value).toArray = args
  have hl : lv_has ls 4 [(0, .ref ((ad 0) 0)), (1, .int x1), (2, .ref fo)] := hl
  have w : Wd G A s.heap (fl [wXo G.2.1 (ad 0) (xF ad) (svV sv) K, wSh G.2.1 (ad 1) S, wSh G.2.1 (ad 2) Fc, wTe G.2.1 (ad 4) C, wSb G.2.1 (ad 5) ou, wAd G.2.1 (ad 6) D, wAb G.2.1 (ad 7) B, wHo G.2.1 (ad 3) cu ct hs, [(fo, .inl (G.2.1 4, 1, .inr (.inl f0)))], hsL G.2.1 hs, blk G.2.1 sv]) _ _ := w
  refine lv_aload_n F.x F.b dL_quantityOfKind_0 rfl (lv_at hl 2 rfl) ?_
  refine lv_iconst (v := 0) F.x F.b dL_quantityOfKind_1 (by decide) ?_
  refine lv_aload_n F.x F.b dL_quantityOfKind_2 rfl (lv_at hl 0 rfl) ?_
  refine lv_iload_n F.x F.b dL_quantityOfKind_3 rfl (lv_at hl 1 rfl) ?_
  refine kXi F w hst (LC := [wXo G.2.1 (ad 0) (xF ad) (svV sv) K, wSh G.2.1 (ad 1) S, wSh G.2.1 (ad 2) Fc, wTe G.2.1 (ad 4) C, wSb G.2.1 (ad 5) ou, wAd G.2.1 (ad 6) D, wAb G.2.1 (ad 7) B, wHo G.2.1 (ad 3) cu ct hs, hsL G.2.1 hs, blk G.2.1 sv]) (LR := [[(fo, .inl (G.2.1 4, 1, .inr (.inl f0)))]]) (As := [.int x1]) (rest := [.int 0, .ref fo]) (k_quantityOfKind F.1 gM h) m_X6_quantityOfKind v_X6_quantityOfKind q1120 (ci := 10) (q0 := 0) rfl rfl rfl 11 [0, 1, 2, 3, 4, 5, 6, 7, 9, 10, 8] rfl rfl rfl ⟨Nat.le_of_ble_eq_true rfl, Nat.le_of_ble_eq_true rfl⟩ rfl hl.1 rfl (Nat.le_of_ble_eq_true rfl) dL_quantityOfKind_4 ⟨Nat.le_of_ble_eq_true rfl, Nat.le_of_ble_eq_true rfl⟩ (fun E w1 ce q H locs hx w hce hcv hcl => ?_) (fun r9 w1 H locs h9 w => ?_)
  · obtain ⟨K1, S1, Fc1, C1, D1, B1, cu1, ct1, hs1, sv1, ou1, M1, b1, k1, h9, e2, e3, hm, e4⟩ := hx
    have w := w.jn (L1 := [wXo G.2.1 (ad 0) (xF ad) (svV sv1) K1, wSh G.2.1 (ad 1) S1, wSh G.2.1 (ad 2) Fc1, wTe G.2.1 (ad 4) C1, wSb G.2.1 (ad 5) ou1, wAd G.2.1 (ad 6) D1, wAb G.2.1 (ad 7) B1, wHo G.2.1 (ad 3) cu1 ct1 hs1, hsL G.2.1 hs1, blk G.2.1 sv1]) (L' := [wXo G.2.1 (ad 0) (xF ad) (svV sv1) K1, wSh G.2.1 (ad 1) S1, wSh G.2.1 (ad 2) Fc1, wTe G.2.1 (ad 4) C1, wSb G.2.1 (ad 5) ou1, wAd G.2.1 (ad 6) D1, wAb G.2.1 (ad 7) B1, wHo G.2.1 (ad 3) cu1 ct1 hs1, [(fo, .inl (G.2.1 4, 1, .inr (.inl f0)))], hsL G.2.1 hs1, blk G.2.1 sv1]) h9 11 [0, 1, 2, 3, 4, 5, 6, 7, 10, 8, 9] rfl rfl rfl
    simp only [List.mem_cons, List.not_mem_nil, or_false, Prod.mk.injEq] at hm
    obtain ⟨rfl, rfl⟩ := hm
    refine vx_catch F.o (name := eIAE) (tableOf []) ⟨0, 9, 12, 15⟩ (tableOf []) htab pass_nil rfl (by decide) (F.t _ (List.mem_of_getElem? (i := 869) (by decide +kernel)) rfl _) (F.t _ (List.mem_of_getElem? (i := 647) (by decide +kernel)) rfl _) hce hcv hcl ?_
    refine lv_astore_n (lv' := [(3, .ref q), (0, .ref ((ad 0) 0)), (1, .int x1), (2, .ref fo)]) F.x F.b dL_quantityOfKind_12 rfl hl (by decide) rfl (fun ls hl => ?_)
    refine lv_iconst (v := 1) F.x F.b dL_quantityOfKind_13 (by decide) ?_
    exact eiX F w hr hlocks rfl ⟨K1, S1, Fc1, C1, D1, B1, cu1, ct1, hs1, sv1, ou1, M1, b1, f0, rfl, e2, e3, e4, fun z => absurd z (by decide)⟩ (Nat.le_of_ble_eq_true rfl) (Nat.le_of_ble_eq_true rfl) dL_quantityOfKind_14
  · obtain ⟨K1, S1, Fc1, C1, D1, B1, cu1, ct1, hs1, sv1, ou1, M1, h9, e2, e3, e4⟩ := h9
    have w := w.jn (L1 := [wXo G.2.1 (ad 0) (xF ad) (svV sv1) K1, wSh G.2.1 (ad 1) S1, wSh G.2.1 (ad 2) Fc1, wTe G.2.1 (ad 4) C1, wSb G.2.1 (ad 5) ou1, wAd G.2.1 (ad 6) D1, wAb G.2.1 (ad 7) B1, wHo G.2.1 (ad 3) cu1 ct1 hs1, hsL G.2.1 hs1, blk G.2.1 sv1]) (L' := [wXo G.2.1 (ad 0) (xF ad) (svV sv1) K1, wSh G.2.1 (ad 1) S1, wSh G.2.1 (ad 2) Fc1, wTe G.2.1 (ad 4) C1, wSb G.2.1 (ad 5) ou1, wAd G.2.1 (ad 6) D1, wAb G.2.1 (ad 7) B1, wHo G.2.1 (ad 3) cu1 ct1 hs1, [(fo, .inl (G.2.1 4, 1, .inr (.inl f0)))], hsL G.2.1 hs1, blk G.2.1 sv1]) h9 11 [0, 1, 2, 3, 4, 5, 6, 7, 10, 8, 9] rfl rfl rfl
    refine lv_i2l (v := (Int32.toInt64 r9)) F.x F.b dL_quantityOfKind_7 rfl ?_
    refine rLs F w (ws' := fl [wXo G.2.1 (ad 0) (xF ad) (svV sv1) K1, wSh G.2.1 (ad 1) S1, wSh G.2.1 (ad 2) Fc1, wTe G.2.1 (ad 4) C1, wSb G.2.1 (ad 5) ou1, wAd G.2.1 (ad 6) D1, wAb G.2.1 (ad 7) B1, wHo G.2.1 (ad 3) cu1 ct1 hs1, [(fo, .inl (G.2.1 4, 1, .inr (.inl (vp_updL f0 (Int32.toNatClampNeg 0) (Int32.toInt64 r9)))))], hsL G.2.1 hs1, blk G.2.1 sv1]) 38 rfl (by decide) rfl dL_quantityOfKind_8 (fun H locs w => ?_)
    refine lv_goto (tgt := 15) F.x F.b dL_quantityOfKind_9 (by decide) ?_
    refine lv_iconst (v := 0) F.x F.b dL_quantityOfKind_15 (by decide) ?_
    exact eiX F w hr hlocks rfl ⟨K1, S1, Fc1, C1, D1, B1, cu1, ct1, hs1, sv1, ou1, M1, r9, _, rfl, e2, e3, e4, fun _ => updL0 _ _⟩ (Nat.le_of_ble_eq_true rfl) (Nat.le_of_ble_eq_true rfl) dL_quantityOfKind_16
set_option maxRecDepth 100000 in
set_option maxHeartbeats 4000000 in
theorem l_lotByValue {G : cG} (g : GOK G) (gM : MG G) (hNC : NcG G) {ad : Nat → Nat → Nat} {fo : Nat} {f0 : Nat → Int64} {N : Nat} {K S Fc C D B : Mem} {cu ct : Nat} {hs : hS} {sv : sV} {ou : oB} {M : Mem} {x1 : Int32} (h : Top N K S C cu ct hs sv ou M) : CXH G yL_lotByValue cL_lotByValue 4 [(0, 9, 12, 13)] 41 1600 20 200 [.ref ((ad 0) 0), .int x1, .ref fo] (fl (wLaw G.2.1 ad K S Fc C D B cu ct hs sv ou [(fo, .inl (G.2.1 4, 1, .inr (.inl f0)))])) (LOK G ad fo N (f_X7_lotByValue M x1)) := by
  refine CXH.of g (by decide) rfl (Nat.le_of_ble_eq_true rfl) (List.mem_of_getElem? (i := 1133) (by decide +kernel)) (by rfl) ?_
  intro p l e s m below meth c A ls hst htab F hr hlocks w hl
  generalize ([.ref ((ad 0) 0), .int x1, .ref fo] : List Value).toArray = args
  have hl : lv_has ls 4 [(0, .ref ((ad 0) 0)), (1, .int x1), (2, .ref fo)] := hl
  have w : Wd G A s.heap (fl [wXo G.2.1 (ad 0) (xF ad) (svV sv) K, wSh G.2.1 (ad 1) S, wSh G.2.1 (ad 2) Fc, wTe G.2.1 (ad 4) C, wSb G.2.1 (ad 5) ou, wAd G.2.1 (ad 6) D, wAb G.2.1 (ad 7) B, wHo G.2.1 (ad 3) cu ct hs, [(fo, .inl (G.2.1 4, 1, .inr (.inl f0)))], hsL G.2.1 hs, blk G.2.1 sv]) _ _ := w
  refine lv_aload_n F.x F.b dL_lotByValue_0 rfl (lv_at hl 2 rfl) ?_
  refine lv_iconst (v := 0) F.x F.b dL_lotByValue_1 (by decide) ?_
  refine lv_aload_n F.x F.b dL_lotByValue_2 rfl (lv_at hl 0 rfl) ?_
  refine lv_iload_n F.x F.b dL_lotByValue_3 rfl (lv_at hl 1 rfl) ?_
  refine kXi F w hst (LC := [wXo G.2.1 (ad 0) (xF ad) (svV sv) K, wSh G.2.1 (ad 1) S, wSh G.2.1 (ad 2) Fc, wTe G.2.1 (ad 4) C, wSb G.2.1 (ad 5) ou, wAd G.2.1 (ad 6) D, wAb G.2.1 (ad 7) B, wHo G.2.1 (ad 3) cu ct hs, hsL G.2.1 hs, blk G.2.1 sv]) (LR := [[(fo, .inl (G.2.1 4, 1, .inr (.inl f0)))]]) (As := [.int x1]) (rest := [.int 0, .ref fo]) (k_lotByValue F.1 gM h) m_X6_lotByValue v_X6_lotByValue q1134 (ci := 10) (q0 := 0) rfl rfl rfl 11 [0, 1, 2, 3, 4, 5, 6, 7, 9, 10, 8] rfl rfl rfl ⟨Nat.le_of_ble_eq_true rfl, Nat.le_of_ble_eq_true rfl⟩ rfl hl.1 rfl (Nat.le_of_ble_eq_true rfl) dL_lotByValue_4 ⟨Nat.le_of_ble_eq_true rfl, Nat.le_of_ble_eq_true rfl⟩ (fun E w1 ce q H locs hx w hce hcv hcl => ?_) (fun r9 w1 H locs h9 w => ?_)
  · obtain ⟨K1, S1, Fc1, C1, D1, B1, cu1, ct1, hs1, sv1, ou1, M1, b1, k1, h9, e2, e3, hm, e4⟩ := hx
    have w := w.jn (L1 := [wXo G.2.1 (ad 0) (xF ad) (svV sv1) K1, wSh G.2.1 (ad 1) S1, wSh G.2.1 (ad 2) Fc1, wTe G.2.1 (ad 4) C1, wSb G.2.1 (ad 5) ou1, wAd G.2.1 (ad 6) D1, wAb G.2.1 (ad 7) B1, wHo G.2.1 (ad 3) cu1 ct1 hs1, hsL G.2.1 hs1, blk G.2.1 sv1]) (L' := [wXo G.2.1 (ad 0) (xF ad) (svV sv1) K1, wSh G.2.1 (ad 1) S1, wSh G.2.1 (ad 2) Fc1, wTe G.2.1 (ad 4) C1, wSb G.2.1 (ad 5) ou1, wAd G.2.1 (ad 6) D1, wAb G.2.1 (ad 7) B1, wHo G.2.1 (ad 3) cu1 ct1 hs1, [(fo, .inl (G.2.1 4, 1, .inr (.inl f0)))], hsL G.2.1 hs1, blk G.2.1 sv1]) h9 11 [0, 1, 2, 3, 4, 5, 6, 7, 10, 8, 9] rfl rfl rfl
    simp only [List.mem_cons, List.not_mem_nil, or_false, Prod.mk.injEq] at hm
    obtain ⟨rfl, rfl⟩ := hm
    refine vx_catch F.o (name := eIOB) (tableOf []) ⟨0, 9, 12, 13⟩ (tableOf []) htab pass_nil rfl (by decide) (F.t _ (List.mem_of_getElem? (i := 866) (by decide +kernel)) rfl _) (F.t _ (List.mem_of_getElem? (i := 924) (by decide +kernel)) rfl _) hce hcv hcl ?_
    refine lv_astore_n (lv' := [(3, .ref q), (0, .ref ((ad 0) 0)), (1, .int x1), (2, .ref fo)]) F.x F.b dL_lotByValue_12 rfl hl (by decide) rfl (fun ls hl => ?_)
    refine lv_iconst (v := 1) F.x F.b dL_lotByValue_13 (by decide) ?_
    exact eiX F w hr hlocks rfl ⟨K1, S1, Fc1, C1, D1, B1, cu1, ct1, hs1, sv1, ou1, M1, b1, f0, rfl, e2, e3, e4, fun z => absurd z (by decide)⟩ (Nat.le_of_ble_eq_true rfl) (Nat.le_of_ble_eq_true rfl) dL_lotByValue_14
  · obtain ⟨K1, S1, Fc1, C1, D1, B1, cu1, ct1, hs1, sv1, ou1, M1, h9, e2, e3, e4⟩ := h9
    have w := w.jn (L1 := [wXo G.2.1 (ad 0) (xF ad) (svV sv1) K1, wSh G.2.1 (ad 1) S1, wSh G.2.1 (ad 2) Fc1, wTe G.2.1 (ad 4) C1, wSb G.2.1 (ad 5) ou1, wAd G.2.1 (ad 6) D1, wAb G.2.1 (ad 7) B1, wHo G.2.1 (ad 3) cu1 ct1 hs1, hsL G.2.1 hs1, blk G.2.1 sv1]) (L' := [wXo G.2.1 (ad 0) (xF ad) (svV sv1) K1, wSh G.2.1 (ad 1) S1, wSh G.2.1 (ad 2) Fc1, wTe G.2.1 (ad 4) C1, wSb G.2.1 (ad 5) ou1, wAd G.2.1 (ad 6) D1, wAb G.2.1 (ad 7) B1, wHo G.2.1 (ad 3) cu1 ct1 hs1, [(fo, .inl (G.2.1 4, 1, .inr (.inl f0)))], hsL G.2.1 hs1, blk G.2.1 sv1]) h9 11 [0, 1, 2, 3, 4, 5, 6, 7, 10, 8, 9] rfl rfl rfl
    refine lv_i2l (v := (Int32.toInt64 r9)) F.x F.b dL_lotByValue_7 rfl ?_
    refine rLs F w (ws' := fl [wXo G.2.1 (ad 0) (xF ad) (svV sv1) K1, wSh G.2.1 (ad 1) S1, wSh G.2.1 (ad 2) Fc1, wTe G.2.1 (ad 4) C1, wSb G.2.1 (ad 5) ou1, wAd G.2.1 (ad 6) D1, wAb G.2.1 (ad 7) B1, wHo G.2.1 (ad 3) cu1 ct1 hs1, [(fo, .inl (G.2.1 4, 1, .inr (.inl (vp_updL f0 (Int32.toNatClampNeg 0) (Int32.toInt64 r9)))))], hsL G.2.1 hs1, blk G.2.1 sv1]) 38 rfl (by decide) rfl dL_lotByValue_8 (fun H locs w => ?_)
    refine lv_goto (tgt := 15) F.x F.b dL_lotByValue_9 (by decide) ?_
    refine lv_iconst (v := 0) F.x F.b dL_lotByValue_15 (by decide) ?_
    exact eiX F w hr hlocks rfl ⟨K1, S1, Fc1, C1, D1, B1, cu1, ct1, hs1, sv1, ou1, M1, r9, _, rfl, e2, e3, e4, fun _ => updL0 _ _⟩ (Nat.le_of_ble_eq_true rfl) (Nat.le_of_ble_eq_true rfl) dL_lotByValue_16
set_option maxRecDepth 100000 in
set_option maxHeartbeats 4000000 in
theorem l_addStep {G : cG} (g : GOK G) (gM : MG G) (hNC : NcG G) {ad : Nat → Nat → Nat} {fo : Nat} {f0 : Nat → Int64} {N : Nat} {K S Fc C D B : Mem} {cu ct : Nat} {hs : hS} {sv : sV} {ou : oB} {M : Mem} {x1 x2 : Int32} (h : Top N K S C cu ct hs sv ou M) (hN : N < 2 ^ 29) : CXH G yL_addStep cL_addStep 5 [(0, 10, 13, 15), (0, 10, 17, 19), (0, 10, 21, 17)] 41 1600 20 200 [.ref ((ad 0) 0), .int x1, .int x2, .ref fo] (fl (wLaw G.2.1 ad K S Fc C D B cu ct hs sv ou [(fo, .inl (G.2.1 4, 1, .inr (.inl f0)))])) (LOK G ad fo N (f_X7_addStep M x1 x2)) := by
  refine CXH.of g (by decide) rfl (Nat.le_of_ble_eq_true rfl) (List.mem_of_getElem? (i := 1151) (by decide +kernel)) (by rfl) ?_
  intro p l e s m below meth c A ls hst htab F hr hlocks w hl
  generalize ([.ref ((ad 0) 0), .int x1, .int x2, .ref fo] : List Value).toArray = args
  have hl : lv_has ls 5 [(0, .ref ((ad 0) 0)), (1, .int x1), (2, .int x2), (3, .ref fo)] := hl
  have w : Wd G A s.heap (fl [wXo G.2.1 (ad 0) (xF ad) (svV sv) K, wSh G.2.1 (ad 1) S, wSh G.2.1 (ad 2) Fc, wTe G.2.1 (ad 4) C, wSb G.2.1 (ad 5) ou, wAd G.2.1 (ad 6) D, wAb G.2.1 (ad 7) B, wHo G.2.1 (ad 3) cu ct hs, [(fo, .inl (G.2.1 4, 1, .inr (.inl f0)))], hsL G.2.1 hs, blk G.2.1 sv]) _ _ := w
  refine lv_aload_n F.x F.b dL_addStep_0 rfl (lv_at hl 3 rfl) ?_
  refine lv_iconst (v := 0) F.x F.b dL_addStep_1 (by decide) ?_
  refine lv_aload_n F.x F.b dL_addStep_2 rfl (lv_at hl 0 rfl) ?_
  refine lv_iload_n F.x F.b dL_addStep_3 rfl (lv_at hl 1 rfl) ?_
  refine lv_iload_n F.x F.b dL_addStep_4 rfl (lv_at hl 2 rfl) ?_
  refine kXi F w hst (LC := [wXo G.2.1 (ad 0) (xF ad) (svV sv) K, wSh G.2.1 (ad 1) S, wSh G.2.1 (ad 2) Fc, wTe G.2.1 (ad 4) C, wSb G.2.1 (ad 5) ou, wAd G.2.1 (ad 6) D, wAb G.2.1 (ad 7) B, wHo G.2.1 (ad 3) cu ct hs, hsL G.2.1 hs, blk G.2.1 sv]) (LR := [[(fo, .inl (G.2.1 4, 1, .inr (.inl f0)))]]) (As := [.int x1, .int x2]) (rest := [.int 0, .ref fo]) (k_addStep F.1 gM h hN) m_X6_addStep v_X6_addStep q1152 (ci := 10) (q0 := 0) rfl rfl rfl 11 [0, 1, 2, 3, 4, 5, 6, 7, 9, 10, 8] rfl rfl rfl ⟨Nat.le_of_ble_eq_true rfl, Nat.le_of_ble_eq_true rfl⟩ rfl hl.1 rfl (Nat.le_of_ble_eq_true rfl) dL_addStep_5 ⟨Nat.le_of_ble_eq_true rfl, Nat.le_of_ble_eq_true rfl⟩ (fun E w1 ce q H locs hx w hce hcv hcl => ?_) (fun r9 w1 H locs h9 w => ?_)
  · obtain ⟨K1, S1, Fc1, C1, D1, B1, cu1, ct1, hs1, sv1, ou1, M1, b1, k1, h9, e2, e3, hm, e4⟩ := hx
    have w := w.jn (L1 := [wXo G.2.1 (ad 0) (xF ad) (svV sv1) K1, wSh G.2.1 (ad 1) S1, wSh G.2.1 (ad 2) Fc1, wTe G.2.1 (ad 4) C1, wSb G.2.1 (ad 5) ou1, wAd G.2.1 (ad 6) D1, wAb G.2.1 (ad 7) B1, wHo G.2.1 (ad 3) cu1 ct1 hs1, hsL G.2.1 hs1, blk G.2.1 sv1]) (L' := [wXo G.2.1 (ad 0) (xF ad) (svV sv1) K1, wSh G.2.1 (ad 1) S1, wSh G.2.1 (ad 2) Fc1, wTe G.2.1 (ad 4) C1, wSb G.2.1 (ad 5) ou1, wAd G.2.1 (ad 6) D1, wAb G.2.1 (ad 7) B1, wHo G.2.1 (ad 3) cu1 ct1 hs1, [(fo, .inl (G.2.1 4, 1, .inr (.inl f0)))], hsL G.2.1 hs1, blk G.2.1 sv1]) h9 11 [0, 1, 2, 3, 4, 5, 6, 7, 10, 8, 9] rfl rfl rfl
    simp only [List.mem_cons, List.not_mem_nil, or_false, Prod.mk.injEq] at hm
    rcases hm with ⟨rfl, rfl⟩ | ⟨rfl, rfl⟩ | ⟨rfl, rfl⟩
    · refine vx_catch F.o (name := eIAE) (tableOf []) ⟨0, 10, 13, 15⟩ (tableOf [(0, 10, 17, 19), (0, 10, 21, 17)]) htab pass_nil rfl (by decide) (F.t _ (List.mem_of_getElem? (i := 869) (by decide +kernel)) rfl _) (F.t _ (List.mem_of_getElem? (i := 647) (by decide +kernel)) rfl _) hce hcv hcl ?_
      refine lv_astore (lv' := [(4, .ref q), (0, .ref ((ad 0) 0)), (1, .int x1), (2, .int x2), (3, .ref fo)]) F.x F.b dL_addStep_13 hl (by decide) rfl (fun ls hl => ?_)
      refine lv_iconst (v := 1) F.x F.b dL_addStep_15 (by decide) ?_
      exact eiX F w hr hlocks rfl ⟨K1, S1, Fc1, C1, D1, B1, cu1, ct1, hs1, sv1, ou1, M1, b1, f0, rfl, e2, e3, e4, fun z => absurd z (by decide)⟩ (Nat.le_of_ble_eq_true rfl) (Nat.le_of_ble_eq_true rfl) dL_addStep_16
    · refine vx_catch F.o (name := eUOE) (tableOf [(0, 10, 13, 15)]) ⟨0, 10, 17, 19⟩ (tableOf [(0, 10, 21, 17)]) htab (pass_cons F hNC (by decide) (T := eIAE) (List.mem_of_getElem? (i := 869) (by decide +kernel)) (by decide +kernel : eUOE ∈ allE) (by decide +kernel : eIAE ∈ allE) (by decide +kernel) pass_nil) rfl (by decide) (F.t _ (List.mem_of_getElem? (i := 871) (by decide +kernel)) rfl _) (F.t _ (List.mem_of_getElem? (i := 959) (by decide +kernel)) rfl _) hce hcv hcl ?_
      refine lv_astore (lv' := [(4, .ref q), (0, .ref ((ad 0) 0)), (1, .int x1), (2, .int x2), (3, .ref fo)]) F.x F.b dL_addStep_17 hl (by decide) rfl (fun ls hl => ?_)
      refine lv_iconst (v := 2) F.x F.b dL_addStep_19 (by decide) ?_
      exact eiX F w hr hlocks rfl ⟨K1, S1, Fc1, C1, D1, B1, cu1, ct1, hs1, sv1, ou1, M1, b1, f0, rfl, e2, e3, e4, fun z => absurd z (by decide)⟩ (Nat.le_of_ble_eq_true rfl) (Nat.le_of_ble_eq_true rfl) dL_addStep_20
    · refine vx_catch F.o (name := eISE) (tableOf [(0, 10, 13, 15), (0, 10, 17, 19)]) ⟨0, 10, 21, 17⟩ (tableOf []) htab (pass_cons F hNC (by decide) (T := eIAE) (List.mem_of_getElem? (i := 869) (by decide +kernel)) (by decide +kernel : eISE ∈ allE) (by decide +kernel : eIAE ∈ allE) (by decide +kernel) (pass_cons F hNC (by decide) (T := eUOE) (List.mem_of_getElem? (i := 871) (by decide +kernel)) (by decide +kernel : eISE ∈ allE) (by decide +kernel : eUOE ∈ allE) (by decide +kernel) pass_nil)) rfl (by decide) (F.t _ (List.mem_of_getElem? (i := 870) (by decide +kernel)) rfl _) (F.t _ (List.mem_of_getElem? (i := 944) (by decide +kernel)) rfl _) hce hcv hcl ?_
      refine lv_astore (lv' := [(4, .ref q), (0, .ref ((ad 0) 0)), (1, .int x1), (2, .int x2), (3, .ref fo)]) F.x F.b dL_addStep_21 hl (by decide) rfl (fun ls hl => ?_)
      refine lv_iconst (v := 3) F.x F.b dL_addStep_23 (by decide) ?_
      exact eiX F w hr hlocks rfl ⟨K1, S1, Fc1, C1, D1, B1, cu1, ct1, hs1, sv1, ou1, M1, b1, f0, rfl, e2, e3, e4, fun z => absurd z (by decide)⟩ (Nat.le_of_ble_eq_true rfl) (Nat.le_of_ble_eq_true rfl) dL_addStep_24
  · obtain ⟨K1, S1, Fc1, C1, D1, B1, cu1, ct1, hs1, sv1, ou1, M1, h9, e2, e3, e4⟩ := h9
    have w := w.jn (L1 := [wXo G.2.1 (ad 0) (xF ad) (svV sv1) K1, wSh G.2.1 (ad 1) S1, wSh G.2.1 (ad 2) Fc1, wTe G.2.1 (ad 4) C1, wSb G.2.1 (ad 5) ou1, wAd G.2.1 (ad 6) D1, wAb G.2.1 (ad 7) B1, wHo G.2.1 (ad 3) cu1 ct1 hs1, hsL G.2.1 hs1, blk G.2.1 sv1]) (L' := [wXo G.2.1 (ad 0) (xF ad) (svV sv1) K1, wSh G.2.1 (ad 1) S1, wSh G.2.1 (ad 2) Fc1, wTe G.2.1 (ad 4) C1, wSb G.2.1 (ad 5) ou1, wAd G.2.1 (ad 6) D1, wAb G.2.1 (ad 7) B1, wHo G.2.1 (ad 3) cu1 ct1 hs1, [(fo, .inl (G.2.1 4, 1, .inr (.inl f0)))], hsL G.2.1 hs1, blk G.2.1 sv1]) h9 11 [0, 1, 2, 3, 4, 5, 6, 7, 10, 8, 9] rfl rfl rfl
    refine lv_i2l (v := (Int32.toInt64 r9)) F.x F.b dL_addStep_8 rfl ?_
    refine rLs F w (ws' := fl [wXo G.2.1 (ad 0) (xF ad) (svV sv1) K1, wSh G.2.1 (ad 1) S1, wSh G.2.1 (ad 2) Fc1, wTe G.2.1 (ad 4) C1, wSb G.2.1 (ad 5) ou1, wAd G.2.1 (ad 6) D1, wAb G.2.1 (ad 7) B1, wHo G.2.1 (ad 3) cu1 ct1 hs1, [(fo, .inl (G.2.1 4, 1, .inr (.inl (vp_updL f0 (Int32.toNatClampNeg 0) (Int32.toInt64 r9)))))], hsL G.2.1 hs1, blk G.2.1 sv1]) 38 rfl (by decide) rfl dL_addStep_9 (fun H locs w => ?_)
    refine lv_goto (tgt := 25) F.x F.b dL_addStep_10 (by decide) ?_
    refine lv_iconst (v := 0) F.x F.b dL_addStep_25 (by decide) ?_
    exact eiX F w hr hlocks rfl ⟨K1, S1, Fc1, C1, D1, B1, cu1, ct1, hs1, sv1, ou1, M1, r9, _, rfl, e2, e3, e4, fun _ => updL0 _ _⟩ (Nat.le_of_ble_eq_true rfl) (Nat.le_of_ble_eq_true rfl) dL_addStep_26
set_option maxRecDepth 100000 in
set_option maxHeartbeats 4000000 in
theorem l_removeStep {G : cG} (g : GOK G) (gM : MG G) (hNC : NcG G) {ad : Nat → Nat → Nat} {fo : Nat} {f0 : Nat → Int64} {N : Nat} {K S Fc C D B : Mem} {cu ct : Nat} {hs : hS} {sv : sV} {ou : oB} {M : Mem} {x1 : Int32} (h : Top N K S C cu ct hs sv ou M) (hN : N < 2 ^ 29) : CXH G yL_removeStep cL_removeStep 4 [(0, 9, 12, 25)] 41 1600 20 200 [.ref ((ad 0) 0), .int x1, .ref fo] (fl (wLaw G.2.1 ad K S Fc C D B cu ct hs sv ou [(fo, .inl (G.2.1 4, 1, .inr (.inl f0)))])) (LOK G ad fo N (f_X7_removeStep M x1)) := by
  refine CXH.of g (by decide) rfl (Nat.le_of_ble_eq_true rfl) (List.mem_of_getElem? (i := 1166) (by decide +kernel)) (by rfl) ?_
  intro p l e s m below meth c A ls hst htab F hr hlocks w hl
  generalize ([.ref ((ad 0) 0), .int x1, .ref fo] : List Value).toArray = args
  have hl : lv_has ls 4 [(0, .ref ((ad 0) 0)), (1, .int x1), (2, .ref fo)] := hl
  have w : Wd G A s.heap (fl [wXo G.2.1 (ad 0) (xF ad) (svV sv) K, wSh G.2.1 (ad 1) S, wSh G.2.1 (ad 2) Fc, wTe G.2.1 (ad 4) C, wSb G.2.1 (ad 5) ou, wAd G.2.1 (ad 6) D, wAb G.2.1 (ad 7) B, wHo G.2.1 (ad 3) cu ct hs, [(fo, .inl (G.2.1 4, 1, .inr (.inl f0)))], hsL G.2.1 hs, blk G.2.1 sv]) _ _ := w
  refine lv_aload_n F.x F.b dL_removeStep_0 rfl (lv_at hl 2 rfl) ?_
  refine lv_iconst (v := 0) F.x F.b dL_removeStep_1 (by decide) ?_
  refine lv_aload_n F.x F.b dL_removeStep_2 rfl (lv_at hl 0 rfl) ?_
  refine lv_iload_n F.x F.b dL_removeStep_3 rfl (lv_at hl 1 rfl) ?_
  refine kXi F w hst (LC := [wXo G.2.1 (ad 0) (xF ad) (svV sv) K, wSh G.2.1 (ad 1) S, wSh G.2.1 (ad 2) Fc, wTe G.2.1 (ad 4) C, wSb G.2.1 (ad 5) ou, wAd G.2.1 (ad 6) D, wAb G.2.1 (ad 7) B, wHo G.2.1 (ad 3) cu ct hs, hsL G.2.1 hs, blk G.2.1 sv]) (LR := [[(fo, .inl (G.2.1 4, 1, .inr (.inl f0)))]]) (As := [.int x1]) (rest := [.int 0, .ref fo]) (k_removeStep F.1 gM h hN) m_X6_removeStep v_X6_removeStep q1167 (ci := 10) (q0 := 0) rfl rfl rfl 11 [0, 1, 2, 3, 4, 5, 6, 7, 9, 10, 8] rfl rfl rfl ⟨Nat.le_of_ble_eq_true rfl, Nat.le_of_ble_eq_true rfl⟩ rfl hl.1 rfl (Nat.le_of_ble_eq_true rfl) dL_removeStep_4 ⟨Nat.le_of_ble_eq_true rfl, Nat.le_of_ble_eq_true rfl⟩ (fun E w1 ce q H locs hx w hce hcv hcl => ?_) (fun r9 w1 H locs h9 w => ?_)
  · obtain ⟨K1, S1, Fc1, C1, D1, B1, cu1, ct1, hs1, sv1, ou1, M1, b1, k1, h9, e2, e3, hm, e4⟩ := hx
    have w := w.jn (L1 := [wXo G.2.1 (ad 0) (xF ad) (svV sv1) K1, wSh G.2.1 (ad 1) S1, wSh G.2.1 (ad 2) Fc1, wTe G.2.1 (ad 4) C1, wSb G.2.1 (ad 5) ou1, wAd G.2.1 (ad 6) D1, wAb G.2.1 (ad 7) B1, wHo G.2.1 (ad 3) cu1 ct1 hs1, hsL G.2.1 hs1, blk G.2.1 sv1]) (L' := [wXo G.2.1 (ad 0) (xF ad) (svV sv1) K1, wSh G.2.1 (ad 1) S1, wSh G.2.1 (ad 2) Fc1, wTe G.2.1 (ad 4) C1, wSb G.2.1 (ad 5) ou1, wAd G.2.1 (ad 6) D1, wAb G.2.1 (ad 7) B1, wHo G.2.1 (ad 3) cu1 ct1 hs1, [(fo, .inl (G.2.1 4, 1, .inr (.inl f0)))], hsL G.2.1 hs1, blk G.2.1 sv1]) h9 11 [0, 1, 2, 3, 4, 5, 6, 7, 10, 8, 9] rfl rfl rfl
    simp only [List.mem_cons, List.not_mem_nil, or_false, Prod.mk.injEq] at hm
    obtain ⟨rfl, rfl⟩ := hm
    refine vx_catch F.o (name := eNSE) (tableOf []) ⟨0, 9, 12, 25⟩ (tableOf []) htab pass_nil rfl (by decide) (F.t _ (List.mem_of_getElem? (i := 979) (by decide +kernel)) rfl _) (F.t _ (List.mem_of_getElem? (i := 903) (by decide +kernel)) rfl _) hce hcv hcl ?_
    refine lv_astore_n (lv' := [(3, .ref q), (0, .ref ((ad 0) 0)), (1, .int x1), (2, .ref fo)]) F.x F.b dL_removeStep_12 rfl hl (by decide) rfl (fun ls hl => ?_)
    refine lv_iconst (v := 1) F.x F.b dL_removeStep_13 (by decide) ?_
    exact eiX F w hr hlocks rfl ⟨K1, S1, Fc1, C1, D1, B1, cu1, ct1, hs1, sv1, ou1, M1, b1, f0, rfl, e2, e3, e4, fun z => absurd z (by decide)⟩ (Nat.le_of_ble_eq_true rfl) (Nat.le_of_ble_eq_true rfl) dL_removeStep_14
  · obtain ⟨K1, S1, Fc1, C1, D1, B1, cu1, ct1, hs1, sv1, ou1, M1, h9, e2, e3, e4⟩ := h9
    have w := w.jn (L1 := [wXo G.2.1 (ad 0) (xF ad) (svV sv1) K1, wSh G.2.1 (ad 1) S1, wSh G.2.1 (ad 2) Fc1, wTe G.2.1 (ad 4) C1, wSb G.2.1 (ad 5) ou1, wAd G.2.1 (ad 6) D1, wAb G.2.1 (ad 7) B1, wHo G.2.1 (ad 3) cu1 ct1 hs1, hsL G.2.1 hs1, blk G.2.1 sv1]) (L' := [wXo G.2.1 (ad 0) (xF ad) (svV sv1) K1, wSh G.2.1 (ad 1) S1, wSh G.2.1 (ad 2) Fc1, wTe G.2.1 (ad 4) C1, wSb G.2.1 (ad 5) ou1, wAd G.2.1 (ad 6) D1, wAb G.2.1 (ad 7) B1, wHo G.2.1 (ad 3) cu1 ct1 hs1, [(fo, .inl (G.2.1 4, 1, .inr (.inl f0)))], hsL G.2.1 hs1, blk G.2.1 sv1]) h9 11 [0, 1, 2, 3, 4, 5, 6, 7, 10, 8, 9] rfl rfl rfl
    refine lv_i2l (v := (Int32.toInt64 r9)) F.x F.b dL_removeStep_7 rfl ?_
    refine rLs F w (ws' := fl [wXo G.2.1 (ad 0) (xF ad) (svV sv1) K1, wSh G.2.1 (ad 1) S1, wSh G.2.1 (ad 2) Fc1, wTe G.2.1 (ad 4) C1, wSb G.2.1 (ad 5) ou1, wAd G.2.1 (ad 6) D1, wAb G.2.1 (ad 7) B1, wHo G.2.1 (ad 3) cu1 ct1 hs1, [(fo, .inl (G.2.1 4, 1, .inr (.inl (vp_updL f0 (Int32.toNatClampNeg 0) (Int32.toInt64 r9)))))], hsL G.2.1 hs1, blk G.2.1 sv1]) 38 rfl (by decide) rfl dL_removeStep_8 (fun H locs w => ?_)
    refine lv_goto (tgt := 15) F.x F.b dL_removeStep_9 (by decide) ?_
    refine lv_iconst (v := 0) F.x F.b dL_removeStep_15 (by decide) ?_
    exact eiX F w hr hlocks rfl ⟨K1, S1, Fc1, C1, D1, B1, cu1, ct1, hs1, sv1, ou1, M1, r9, _, rfl, e2, e3, e4, fun _ => updL0 _ _⟩ (Nat.le_of_ble_eq_true rfl) (Nat.le_of_ble_eq_true rfl) dL_removeStep_16
set_option maxRecDepth 100000 in
set_option maxHeartbeats 4000000 in
theorem l_threshold {G : cG} (g : GOK G) (gM : MG G) (hNC : NcG G) {ad : Nat → Nat → Nat} {fo : Nat} {f0 : Nat → Int64} {N : Nat} {K S Fc C D B : Mem} {cu ct : Nat} {hs : hS} {sv : sV} {ou : oB} {M : Mem} {x1 : Int32} (h : Top N K S C cu ct hs sv ou M) : CXH G yL_threshold cL_threshold 4 [(0, 9, 12, 13)] 41 1600 20 200 [.ref ((ad 0) 0), .int x1, .ref fo] (fl (wLaw G.2.1 ad K S Fc C D B cu ct hs sv ou [(fo, .inl (G.2.1 4, 1, .inr (.inl f0)))])) (LOK G ad fo N (f_X7_threshold M x1)) := by
  refine CXH.of g (by decide) rfl (Nat.le_of_ble_eq_true rfl) (List.mem_of_getElem? (i := 1177) (by decide +kernel)) (by rfl) ?_
  intro p l e s m below meth c A ls hst htab F hr hlocks w hl
  generalize ([.ref ((ad 0) 0), .int x1, .ref fo] : List Value).toArray = args
  have hl : lv_has ls 4 [(0, .ref ((ad 0) 0)), (1, .int x1), (2, .ref fo)] := hl
  have w : Wd G A s.heap (fl [wXo G.2.1 (ad 0) (xF ad) (svV sv) K, wSh G.2.1 (ad 1) S, wSh G.2.1 (ad 2) Fc, wTe G.2.1 (ad 4) C, wSb G.2.1 (ad 5) ou, wAd G.2.1 (ad 6) D, wAb G.2.1 (ad 7) B, wHo G.2.1 (ad 3) cu ct hs, [(fo, .inl (G.2.1 4, 1, .inr (.inl f0)))], hsL G.2.1 hs, blk G.2.1 sv]) _ _ := w
  refine lv_aload_n F.x F.b dL_threshold_0 rfl (lv_at hl 2 rfl) ?_
  refine lv_iconst (v := 0) F.x F.b dL_threshold_1 (by decide) ?_
  refine lv_aload_n F.x F.b dL_threshold_2 rfl (lv_at hl 0 rfl) ?_
  refine lv_iload_n F.x F.b dL_threshold_3 rfl (lv_at hl 1 rfl) ?_
  refine kXi F w hst (LC := [wXo G.2.1 (ad 0) (xF ad) (svV sv) K, wSh G.2.1 (ad 1) S, wSh G.2.1 (ad 2) Fc, wTe G.2.1 (ad 4) C, wSb G.2.1 (ad 5) ou, wAd G.2.1 (ad 6) D, wAb G.2.1 (ad 7) B, wHo G.2.1 (ad 3) cu ct hs, hsL G.2.1 hs, blk G.2.1 sv]) (LR := [[(fo, .inl (G.2.1 4, 1, .inr (.inl f0)))]]) (As := [.int x1]) (rest := [.int 0, .ref fo]) (k_threshold F.1 gM h) m_X6_threshold v_X6_threshold q1178 (ci := 10) (q0 := 0) rfl rfl rfl 11 [0, 1, 2, 3, 4, 5, 6, 7, 9, 10, 8] rfl rfl rfl ⟨Nat.le_of_ble_eq_true rfl, Nat.le_of_ble_eq_true rfl⟩ rfl hl.1 rfl (Nat.le_of_ble_eq_true rfl) dL_threshold_4 ⟨Nat.le_of_ble_eq_true rfl, Nat.le_of_ble_eq_true rfl⟩ (fun E w1 ce q H locs hx w hce hcv hcl => ?_) (fun r9 w1 H locs h9 w => ?_)
  · obtain ⟨K1, S1, Fc1, C1, D1, B1, cu1, ct1, hs1, sv1, ou1, M1, b1, k1, h9, e2, e3, hm, e4⟩ := hx
    have w := w.jn (L1 := [wXo G.2.1 (ad 0) (xF ad) (svV sv1) K1, wSh G.2.1 (ad 1) S1, wSh G.2.1 (ad 2) Fc1, wTe G.2.1 (ad 4) C1, wSb G.2.1 (ad 5) ou1, wAd G.2.1 (ad 6) D1, wAb G.2.1 (ad 7) B1, wHo G.2.1 (ad 3) cu1 ct1 hs1, hsL G.2.1 hs1, blk G.2.1 sv1]) (L' := [wXo G.2.1 (ad 0) (xF ad) (svV sv1) K1, wSh G.2.1 (ad 1) S1, wSh G.2.1 (ad 2) Fc1, wTe G.2.1 (ad 4) C1, wSb G.2.1 (ad 5) ou1, wAd G.2.1 (ad 6) D1, wAb G.2.1 (ad 7) B1, wHo G.2.1 (ad 3) cu1 ct1 hs1, [(fo, .inl (G.2.1 4, 1, .inr (.inl f0)))], hsL G.2.1 hs1, blk G.2.1 sv1]) h9 11 [0, 1, 2, 3, 4, 5, 6, 7, 10, 8, 9] rfl rfl rfl
    simp only [List.mem_cons, List.not_mem_nil, or_false, Prod.mk.injEq] at hm
    obtain ⟨rfl, rfl⟩ := hm
    refine vx_catch F.o (name := eIOB) (tableOf []) ⟨0, 9, 12, 13⟩ (tableOf []) htab pass_nil rfl (by decide) (F.t _ (List.mem_of_getElem? (i := 866) (by decide +kernel)) rfl _) (F.t _ (List.mem_of_getElem? (i := 924) (by decide +kernel)) rfl _) hce hcv hcl ?_
    refine lv_astore_n (lv' := [(3, .ref q), (0, .ref ((ad 0) 0)), (1, .int x1), (2, .ref fo)]) F.x F.b dL_threshold_12 rfl hl (by decide) rfl (fun ls hl => ?_)
    refine lv_iconst (v := 1) F.x F.b dL_threshold_13 (by decide) ?_
    exact eiX F w hr hlocks rfl ⟨K1, S1, Fc1, C1, D1, B1, cu1, ct1, hs1, sv1, ou1, M1, b1, f0, rfl, e2, e3, e4, fun z => absurd z (by decide)⟩ (Nat.le_of_ble_eq_true rfl) (Nat.le_of_ble_eq_true rfl) dL_threshold_14
  · obtain ⟨K1, S1, Fc1, C1, D1, B1, cu1, ct1, hs1, sv1, ou1, M1, h9, e2, e3, e4⟩ := h9
    have w := w.jn (L1 := [wXo G.2.1 (ad 0) (xF ad) (svV sv1) K1, wSh G.2.1 (ad 1) S1, wSh G.2.1 (ad 2) Fc1, wTe G.2.1 (ad 4) C1, wSb G.2.1 (ad 5) ou1, wAd G.2.1 (ad 6) D1, wAb G.2.1 (ad 7) B1, wHo G.2.1 (ad 3) cu1 ct1 hs1, hsL G.2.1 hs1, blk G.2.1 sv1]) (L' := [wXo G.2.1 (ad 0) (xF ad) (svV sv1) K1, wSh G.2.1 (ad 1) S1, wSh G.2.1 (ad 2) Fc1, wTe G.2.1 (ad 4) C1, wSb G.2.1 (ad 5) ou1, wAd G.2.1 (ad 6) D1, wAb G.2.1 (ad 7) B1, wHo G.2.1 (ad 3) cu1 ct1 hs1, [(fo, .inl (G.2.1 4, 1, .inr (.inl f0)))], hsL G.2.1 hs1, blk G.2.1 sv1]) h9 11 [0, 1, 2, 3, 4, 5, 6, 7, 10, 8, 9] rfl rfl rfl
    refine lv_i2l (v := (Int32.toInt64 r9)) F.x F.b dL_threshold_7 rfl ?_
    refine rLs F w (ws' := fl [wXo G.2.1 (ad 0) (xF ad) (svV sv1) K1, wSh G.2.1 (ad 1) S1, wSh G.2.1 (ad 2) Fc1, wTe G.2.1 (ad 4) C1, wSb G.2.1 (ad 5) ou1, wAd G.2.1 (ad 6) D1, wAb G.2.1 (ad 7) B1, wHo G.2.1 (ad 3) cu1 ct1 hs1, [(fo, .inl (G.2.1 4, 1, .inr (.inl (vp_updL f0 (Int32.toNatClampNeg 0) (Int32.toInt64 r9)))))], hsL G.2.1 hs1, blk G.2.1 sv1]) 38 rfl (by decide) rfl dL_threshold_8 (fun H locs w => ?_)
    refine lv_goto (tgt := 15) F.x F.b dL_threshold_9 (by decide) ?_
    refine lv_iconst (v := 0) F.x F.b dL_threshold_15 (by decide) ?_
    exact eiX F w hr hlocks rfl ⟨K1, S1, Fc1, C1, D1, B1, cu1, ct1, hs1, sv1, ou1, M1, r9, _, rfl, e2, e3, e4, fun _ => updL0 _ _⟩ (Nat.le_of_ble_eq_true rfl) (Nat.le_of_ble_eq_true rfl) dL_threshold_16

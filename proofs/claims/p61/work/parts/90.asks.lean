/-! printed by wip/p61/tools/gen90.py: the asks, exact -/
theorem q66 : Cond.fieldLinkNest RX6 95 "CustomsShed$Lots" "ids" "[I" "CustomsShed" ∈ lw_tbl := List.mem_of_getElem? (i := 66) (by decide +kernel)
theorem q71 : Cond.fieldLinkNest RX6 105 "CustomsShed$Lots" "quantities" "[I" "CustomsShed" ∈ lw_tbl := List.mem_of_getElem? (i := 71) (by decide +kernel)
theorem q74 : Cond.fieldLinkNest RX6 108 "CustomsShed$Lots" "prices" "[I" "CustomsShed" ∈ lw_tbl := List.mem_of_getElem? (i := 74) (by decide +kernel)
theorem q77 : Cond.fieldLinkNest RX6 114 "CustomsShed$Lots" "bays" "[I" "CustomsShed" ∈ lw_tbl := List.mem_of_getElem? (i := 77) (by decide +kernel)
theorem q80 : Cond.fieldLinkNest RX6 117 "CustomsShed$Lots" "underSeal" "[Z" "CustomsShed" ∈ lw_tbl := List.mem_of_getElem? (i := 80) (by decide +kernel)
theorem q83 : Cond.fieldLinkNest RX6 121 "CustomsShed$Lots" "damp" "[Z" "CustomsShed" ∈ lw_tbl := List.mem_of_getElem? (i := 83) (by decide +kernel)
theorem q117 : Cond.fieldLinkNest RX6 170 "CustomsShed$Tariff" "thresholds" "[I" "CustomsShed" ∈ lw_tbl := List.mem_of_getElem? (i := 117) (by decide +kernel)
theorem q119 : Cond.fieldLinkNest RX6 173 "CustomsShed$Tariff" "rates" "[I" "CustomsShed" ∈ lw_tbl := List.mem_of_getElem? (i := 119) (by decide +kernel)
theorem q137 : Cond.fieldLinkNest RX6 235 "CustomsShed$AuditQueue" "ids" "[I" "CustomsShed" ∈ lw_tbl := List.mem_of_getElem? (i := 137) (by decide +kernel)
theorem q186 : Cond.fieldLinkNest RX6 325 "CustomsShed$History" "count" "I" "CustomsShed" ∈ lw_tbl := List.mem_of_getElem? (i := 186) (by decide +kernel)
theorem q261 : Cond.fieldLink RX6 16 "CustomsShed" "forecast" "LCustomsShed$Shed;" ∈ lw_tbl := List.mem_of_getElem? (i := 261) (by decide +kernel)
theorem q447 : Cond.methodLink RX6 91 yX6_checkIndex ∈ lw_tbl := List.mem_of_getElem? (i := 447) (by decide +kernel)
theorem q479 : Cond.methodLink RX6 102 yX6_slotOf ∈ lw_tbl := List.mem_of_getElem? (i := 479) (by decide +kernel)
theorem q517 : Cond.methodLink RX6 186 yX4_dutyOf ∈ lw_tbl := List.mem_of_getElem? (i := 517) (by decide +kernel)
theorem q542 : Cond.methodLink RX6 207 yX4_copyFrom ∈ lw_tbl := List.mem_of_getElem? (i := 542) (by decide +kernel)
theorem q562 : Cond.methodLink RX6 196 yX4_letPass ∈ lw_tbl := List.mem_of_getElem? (i := 562) (by decide +kernel)
theorem q1319 : Cond.methodLink RX6 176 yX6_checkValue ∈ lw_tbl := List.mem_of_getElem? (i := 1319) (by decide +kernel)
theorem q1323 : Cond.methodLink RX6 180 yX5_dutyByParts ∈ lw_tbl := List.mem_of_getElem? (i := 1323) (by decide +kernel)
theorem q1339 : Cond.methodLink RX6 124 yX3_slotAt ∈ lw_tbl := List.mem_of_getElem? (i := 1339) (by decide +kernel)
theorem q1373 : Cond.methodLink RX6 111 yX3_valueOf ∈ lw_tbl := List.mem_of_getElem? (i := 1373) (by decide +kernel)
theorem q1381 : Cond.methodLink RX6 183 yX5_dutyByCoins ∈ lw_tbl := List.mem_of_getElem? (i := 1381) (by decide +kernel)
theorem q1399 : Cond.methodLink RX6 149 yX3_slotByValue ∈ lw_tbl := List.mem_of_getElem? (i := 1399) (by decide +kernel)
theorem q1417 : Cond.methodLink RX6 136 yX6_isKind ∈ lw_tbl := List.mem_of_getElem? (i := 1417) (by decide +kernel)
theorem q1419 : Cond.methodLink RX6 145 yX3_quantityOf ∈ lw_tbl := List.mem_of_getElem? (i := 1419) (by decide +kernel)
theorem m_X6_slotOf : YM yX6_slotOf cX6_slotOf 3 (some (.int)) 1 := ⟨⟨List.mem_of_getElem? (i := 482) (by decide +kernel), by decide +kernel⟩, List.mem_of_getElem? (i := 15) (by decide +kernel), ⟨by decide, by decide⟩, by decide +kernel⟩
theorem v_X6_slotOf : YV yX6_slotOf := ⟨(List.mem_of_getElem? (i := 481) (by decide +kernel)), List.mem_of_getElem? (i := 2) (by decide +kernel)⟩
theorem m_X6_checkIndex : YM yX6_checkIndex cX6_checkIndex 2 (none) 2 := ⟨⟨List.mem_of_getElem? (i := 449) (by decide +kernel), by decide +kernel⟩, List.mem_of_getElem? (i := 15) (by decide +kernel), ⟨by decide, by decide⟩, by decide +kernel⟩
theorem v_X6_checkIndex : YS yX6_checkIndex := (List.mem_of_getElem? (i := 448) (by decide +kernel))
theorem m_X3_quantityOf : YM yX3_quantityOf cX3_quantityOf 4 (some (.int)) 1 := ⟨⟨List.mem_of_getElem? (i := 1422) (by decide +kernel), by decide +kernel⟩, List.mem_of_getElem? (i := 17) (by decide +kernel), ⟨by decide, by decide⟩, by decide +kernel⟩
theorem v_X3_quantityOf : YV yX3_quantityOf := ⟨(List.mem_of_getElem? (i := 1420) (by decide +kernel)), List.mem_of_getElem? (i := 1421) (by decide +kernel)⟩
theorem m_X3_slotByValue : YM yX3_slotByValue cX3_slotByValue 3 (some (.int)) 1 := ⟨⟨List.mem_of_getElem? (i := 1402) (by decide +kernel), by decide +kernel⟩, List.mem_of_getElem? (i := 17) (by decide +kernel), ⟨by decide, by decide⟩, by decide +kernel⟩
theorem v_X3_slotByValue : YV yX3_slotByValue := ⟨(List.mem_of_getElem? (i := 1400) (by decide +kernel)), List.mem_of_getElem? (i := 1401) (by decide +kernel)⟩
theorem m_X6_checkValue : YM yX6_checkValue cX6_checkValue 1 (none) 1 := ⟨⟨List.mem_of_getElem? (i := 1321) (by decide +kernel), by decide +kernel⟩, List.mem_of_getElem? (i := 15) (by decide +kernel), ⟨by decide, by decide⟩, by decide +kernel⟩
theorem v_X6_checkValue : YS yX6_checkValue := (List.mem_of_getElem? (i := 1320) (by decide +kernel))
theorem m_X4_letPass : YM yX4_letPass cX4_letPass 4 (some (.int)) 1 := ⟨⟨List.mem_of_getElem? (i := 565) (by decide +kernel), by decide +kernel⟩, List.mem_of_getElem? (i := 16) (by decide +kernel), ⟨by decide, by decide⟩, by decide +kernel⟩
theorem v_X4_letPass : YV yX4_letPass := ⟨(List.mem_of_getElem? (i := 563) (by decide +kernel)), List.mem_of_getElem? (i := 564) (by decide +kernel)⟩
set_option maxRecDepth 100000 in
set_option maxHeartbeats 4000000 in
theorem k_quantity_no {G : cG} (g : GOK G) (gM : MG G) {ad : Nat → Nat → Nat} {svx : Value} {K S : Mem} {x1 : Int32} (hq : f_X3_slotWith S x1 = some (-1)) : CX G yX6_quantity cX6_quantity 2 .int 7 104 1 6 [.ref ((ad 0) 0), .int x1] (fl [wXo G.2.1 (ad 0) (xF ad) svx K, wSh G.2.1 (ad 1) S]) (fun _ _ => False) (QE eNSE (fl [wXo G.2.1 (ad 0) (xF ad) svx K, wSh G.2.1 (ad 1) S])) := by
  refine CX.of g (by decide) rfl (Nat.le_of_ble_eq_true rfl) ?_
  intro p l e s m below meth c A ls hst htab F hr hlocks w hl
  generalize ([.ref ((ad 0) 0), .int x1] : List Value).toArray = args
  have hl : lv_has ls 2 [(0, .ref ((ad 0) 0)), (1, .int x1)] := hl
  have w : Wd G A s.heap (fl [wXo G.2.1 (ad 0) (xF ad) svx K, wSh G.2.1 (ad 1) S]) _ _ := w
  refine lv_aload_n F.x F.b dX6_quantity_0 rfl (lv_at hl 0 rfl) ?_
  refine rg F w cl6 0 rfl 0 (by decide) q260 rfl (v := .ref ((ad 1) 0)) rfl dX6_quantity_1 ?_
  refine rgN F w cl4 1 rfl 0 (by decide) q147 rfl (v := .ref ((ad 1) 1)) rfl dX6_quantity_4 ?_
  refine rgN F w cl3 2 rfl 2 (by decide) q71 rfl (v := .ref ((ad 1) 4)) rfl dX6_quantity_7 ?_
  refine lv_aload_n F.x F.b dX6_quantity_10 rfl (lv_at hl 0 rfl) ?_
  refine lv_iload_n F.x F.b dX6_quantity_11 rfl (lv_at hl 1 rfl) ?_
  refine kXi F w hst (LC := [wXo G.2.1 (ad 0) (xF ad) svx K, wSh G.2.1 (ad 1) S]) (LR := []) (As := [.int x1]) (rest := [.ref ((ad 1) 4)]) (t_X6_slotOf_no F.1 hq gM) m_X6_slotOf v_X6_slotOf q479 (ci := 10) (q0 := 0) rfl rfl rfl 2 [0, 1] rfl rfl rfl ⟨Nat.le_of_ble_eq_true rfl, Nat.le_of_ble_eq_true rfl⟩ rfl hl.1 rfl (Nat.le_of_ble_eq_true rfl) dX6_quantity_12 ⟨Nat.le_of_ble_eq_true rfl, Nat.le_of_ble_eq_true rfl⟩ (fun E w1 ce q H locs hx w hce hcv hcl => by obtain ⟨rfl, hx⟩ := hx; exact exX (w.jn (L1 := [wXo G.2.1 (ad 0) (xF ad) svx K, wSh G.2.1 (ad 1) S]) (L' := [wXo G.2.1 (ad 0) (xF ad) svx K, wSh G.2.1 (ad 1) S]) hx 2 [0, 1] rfl rfl rfl) htab hlocks hce hcv hcl ⟨rfl, rfl⟩ (Nat.le_of_ble_eq_true rfl) (Nat.le_of_ble_eq_true rfl)) (fun r9 w1 H locs h9 w => ?_)
  exact False.elim h9
set_option maxRecDepth 100000 in
set_option maxHeartbeats 4000000 in
theorem k_quantity_ok {G : cG} (g : GOK G) {ad : Nat → Nat → Nat} {svx : Value} {K S : Mem} {x1 : Int32} {pp : Nat} (hq : f_X3_slotWith S x1 = some (nI pp)) (hp : pp < 16) : CX G yX6_quantity cX6_quantity 2 .int 2 44 0 0 [.ref ((ad 0) 0), .int x1] (fl [wXo G.2.1 (ad 0) (xF ad) svx K, wSh G.2.1 (ad 1) S]) (fun r9 w1 => r9 = S.2 2 pp ∧ w1 = fl [wXo G.2.1 (ad 0) (xF ad) svx K, wSh G.2.1 (ad 1) S]) (fun _ _ => False) := by
  refine CX.of g (by decide) rfl (Nat.le_of_ble_eq_true rfl) ?_
  intro p l e s m below meth c A ls hst htab F hr hlocks w hl
  generalize ([.ref ((ad 0) 0), .int x1] : List Value).toArray = args
  have hl : lv_has ls 2 [(0, .ref ((ad 0) 0)), (1, .int x1)] := hl
  have w : Wd G A s.heap (fl [wXo G.2.1 (ad 0) (xF ad) svx K, wSh G.2.1 (ad 1) S]) _ _ := w
  refine lv_aload_n F.x F.b dX6_quantity_0 rfl (lv_at hl 0 rfl) ?_
  refine rg F w cl6 0 rfl 0 (by decide) q260 rfl (v := .ref ((ad 1) 0)) rfl dX6_quantity_1 ?_
  refine rgN F w cl4 1 rfl 0 (by decide) q147 rfl (v := .ref ((ad 1) 1)) rfl dX6_quantity_4 ?_
  refine rgN F w cl3 2 rfl 2 (by decide) q71 rfl (v := .ref ((ad 1) 4)) rfl dX6_quantity_7 ?_
  refine lv_aload_n F.x F.b dX6_quantity_10 rfl (lv_at hl 0 rfl) ?_
  refine lv_iload_n F.x F.b dX6_quantity_11 rfl (lv_at hl 1 rfl) ?_
  refine kXi F w hst (LC := [wXo G.2.1 (ad 0) (xF ad) svx K, wSh G.2.1 (ad 1) S]) (LR := []) (As := [.int x1]) (rest := [.ref ((ad 1) 4)]) (t_X6_slotOf_ok F.1 hq hp) m_X6_slotOf v_X6_slotOf q479 (ci := 10) (q0 := 0) rfl rfl rfl 2 [0, 1] rfl rfl rfl ⟨Nat.le_of_ble_eq_true rfl, Nat.le_of_ble_eq_true rfl⟩ rfl hl.1 rfl (Nat.le_of_ble_eq_true rfl) dX6_quantity_12 ⟨Nat.le_of_ble_eq_true rfl, Nat.le_of_ble_eq_true rfl⟩ (fun _ _ _ _ _ _ hx => False.elim hx) (fun r9 w1 H locs h9 w => ?_)
  obtain ⟨rfl, h9⟩ := h9
  have w := w.jn (L1 := [wXo G.2.1 (ad 0) (xF ad) svx K, wSh G.2.1 (ad 1) S]) (L' := [wXo G.2.1 (ad 0) (xF ad) svx K, wSh G.2.1 (ad 1) S]) h9 2 [0, 1] rfl rfl rfl
  refine ri F w 5 (n := 16) (f := S.2 2) rfl (ib_nI hp (by omega)) dX6_quantity_15 ?_
  exact eiX F w hr hlocks rfl ⟨by rw [nI_clamp (by omega)], rfl⟩ (Nat.le_of_ble_eq_true rfl) (Nat.le_of_ble_eq_true rfl) dX6_quantity_16
set_option maxRecDepth 100000 in
set_option maxHeartbeats 4000000 in
theorem k_price_no {G : cG} (g : GOK G) (gM : MG G) {ad : Nat → Nat → Nat} {svx : Value} {K S : Mem} {x1 : Int32} (hq : f_X3_slotWith S x1 = some (-1)) : CX G yX6_price cX6_price 2 .int 7 104 1 6 [.ref ((ad 0) 0), .int x1] (fl [wXo G.2.1 (ad 0) (xF ad) svx K, wSh G.2.1 (ad 1) S]) (fun _ _ => False) (QE eNSE (fl [wXo G.2.1 (ad 0) (xF ad) svx K, wSh G.2.1 (ad 1) S])) := by
  refine CX.of g (by decide) rfl (Nat.le_of_ble_eq_true rfl) ?_
  intro p l e s m below meth c A ls hst htab F hr hlocks w hl
  generalize ([.ref ((ad 0) 0), .int x1] : List Value).toArray = args
  have hl : lv_has ls 2 [(0, .ref ((ad 0) 0)), (1, .int x1)] := hl
  have w : Wd G A s.heap (fl [wXo G.2.1 (ad 0) (xF ad) svx K, wSh G.2.1 (ad 1) S]) _ _ := w
  refine lv_aload_n F.x F.b dX6_price_0 rfl (lv_at hl 0 rfl) ?_
  refine rg F w cl6 0 rfl 0 (by decide) q260 rfl (v := .ref ((ad 1) 0)) rfl dX6_price_1 ?_
  refine rgN F w cl4 1 rfl 0 (by decide) q147 rfl (v := .ref ((ad 1) 1)) rfl dX6_price_4 ?_
  refine rgN F w cl3 2 rfl 3 (by decide) q74 rfl (v := .ref ((ad 1) 5)) rfl dX6_price_7 ?_
  refine lv_aload_n F.x F.b dX6_price_10 rfl (lv_at hl 0 rfl) ?_
  refine lv_iload_n F.x F.b dX6_price_11 rfl (lv_at hl 1 rfl) ?_
  refine kXi F w hst (LC := [wXo G.2.1 (ad 0) (xF ad) svx K, wSh G.2.1 (ad 1) S]) (LR := []) (As := [.int x1]) (rest := [.ref ((ad 1) 5)]) (t_X6_slotOf_no F.1 hq gM) m_X6_slotOf v_X6_slotOf q479 (ci := 10) (q0 := 0) rfl rfl rfl 2 [0, 1] rfl rfl rfl ⟨Nat.le_of_ble_eq_true rfl, Nat.le_of_ble_eq_true rfl⟩ rfl hl.1 rfl (Nat.le_of_ble_eq_true rfl) dX6_price_12 ⟨Nat.le_of_ble_eq_true rfl, Nat.le_of_ble_eq_true rfl⟩ (fun E w1 ce q H locs hx w hce hcv hcl => by obtain ⟨rfl, hx⟩ := hx; exact exX (w.jn (L1 := [wXo G.2.1 (ad 0) (xF ad) svx K, wSh G.2.1 (ad 1) S]) (L' := [wXo G.2.1 (ad 0) (xF ad) svx K, wSh G.2.1 (ad 1) S]) hx 2 [0, 1] rfl rfl rfl) htab hlocks hce hcv hcl ⟨rfl, rfl⟩ (Nat.le_of_ble_eq_true rfl) (Nat.le_of_ble_eq_true rfl)) (fun r9 w1 H locs h9 w => ?_)
  exact False.elim h9
set_option maxRecDepth 100000 in
set_option maxHeartbeats 4000000 in
theorem k_price_ok {G : cG} (g : GOK G) {ad : Nat → Nat → Nat} {svx : Value} {K S : Mem} {x1 : Int32} {pp : Nat} (hq : f_X3_slotWith S x1 = some (nI pp)) (hp : pp < 16) : CX G yX6_price cX6_price 2 .int 2 44 0 0 [.ref ((ad 0) 0), .int x1] (fl [wXo G.2.1 (ad 0) (xF ad) svx K, wSh G.2.1 (ad 1) S]) (fun r9 w1 => r9 = S.2 3 pp ∧ w1 = fl [wXo G.2.1 (ad 0) (xF ad) svx K, wSh G.2.1 (ad 1) S]) (fun _ _ => False) := by
  refine CX.of g (by decide) rfl (Nat.le_of_ble_eq_true rfl) ?_
  intro p l e s m below meth c A ls hst htab F hr hlocks w hl
  generalize ([.ref ((ad 0) 0), .int x1] : List Value).toArray = args
  have hl : lv_has ls 2 [(0, .ref ((ad 0) 0)), (1, .int x1)] := hl
  have w : Wd G A s.heap (fl [wXo G.2.1 (ad 0) (xF ad) svx K, wSh G.2.1 (ad 1) S]) _ _ := w
  refine lv_aload_n F.x F.b dX6_price_0 rfl (lv_at hl 0 rfl) ?_
  refine rg F w cl6 0 rfl 0 (by decide) q260 rfl (v := .ref ((ad 1) 0)) rfl dX6_price_1 ?_
  refine rgN F w cl4 1 rfl 0 (by decide) q147 rfl (v := .ref ((ad 1) 1)) rfl dX6_price_4 ?_
  refine rgN F w cl3 2 rfl 3 (by decide) q74 rfl (v := .ref ((ad 1) 5)) rfl dX6_price_7 ?_
  refine lv_aload_n F.x F.b dX6_price_10 rfl (lv_at hl 0 rfl) ?_
  refine lv_iload_n F.x F.b dX6_price_11 rfl (lv_at hl 1 rfl) ?_
  refine kXi F w hst (LC := [wXo G.2.1 (ad 0) (xF ad) svx K, wSh G.2.1 (ad 1) S]) (LR := []) (As := [.int x1]) (rest := [.ref ((ad 1) 5)]) (t_X6_slotOf_ok F.1 hq hp) m_X6_slotOf v_X6_slotOf q479 (ci := 10) (q0 := 0) rfl rfl rfl 2 [0, 1] rfl rfl rfl ⟨Nat.le_of_ble_eq_true rfl, Nat.le_of_ble_eq_true rfl⟩ rfl hl.1 rfl (Nat.le_of_ble_eq_true rfl) dX6_price_12 ⟨Nat.le_of_ble_eq_true rfl, Nat.le_of_ble_eq_true rfl⟩ (fun _ _ _ _ _ _ hx => False.elim hx) (fun r9 w1 H locs h9 w => ?_)
  obtain ⟨rfl, h9⟩ := h9
  have w := w.jn (L1 := [wXo G.2.1 (ad 0) (xF ad) svx K, wSh G.2.1 (ad 1) S]) (L' := [wXo G.2.1 (ad 0) (xF ad) svx K, wSh G.2.1 (ad 1) S]) h9 2 [0, 1] rfl rfl rfl
  refine ri F w 6 (n := 16) (f := S.2 3) rfl (ib_nI hp (by omega)) dX6_price_15 ?_
  exact eiX F w hr hlocks rfl ⟨by rw [nI_clamp (by omega)], rfl⟩ (Nat.le_of_ble_eq_true rfl) (Nat.le_of_ble_eq_true rfl) dX6_price_16
set_option maxRecDepth 100000 in
set_option maxHeartbeats 4000000 in
theorem k_bay_no {G : cG} (g : GOK G) (gM : MG G) {ad : Nat → Nat → Nat} {svx : Value} {K S : Mem} {x1 : Int32} (hq : f_X3_slotWith S x1 = some (-1)) : CX G yX6_bay cX6_bay 2 .int 7 104 1 6 [.ref ((ad 0) 0), .int x1] (fl [wXo G.2.1 (ad 0) (xF ad) svx K, wSh G.2.1 (ad 1) S]) (fun _ _ => False) (QE eNSE (fl [wXo G.2.1 (ad 0) (xF ad) svx K, wSh G.2.1 (ad 1) S])) := by
  refine CX.of g (by decide) rfl (Nat.le_of_ble_eq_true rfl) ?_
  intro p l e s m below meth c A ls hst htab F hr hlocks w hl
  generalize ([.ref ((ad 0) 0), .int x1] : List Value).toArray = args
  have hl : lv_has ls 2 [(0, .ref ((ad 0) 0)), (1, .int x1)] := hl
  have w : Wd G A s.heap (fl [wXo G.2.1 (ad 0) (xF ad) svx K, wSh G.2.1 (ad 1) S]) _ _ := w
  refine lv_aload_n F.x F.b dX6_bay_0 rfl (lv_at hl 0 rfl) ?_
  refine rg F w cl6 0 rfl 0 (by decide) q260 rfl (v := .ref ((ad 1) 0)) rfl dX6_bay_1 ?_
  refine rgN F w cl4 1 rfl 0 (by decide) q147 rfl (v := .ref ((ad 1) 1)) rfl dX6_bay_4 ?_
  refine rgN F w cl3 2 rfl 4 (by decide) q77 rfl (v := .ref ((ad 1) 6)) rfl dX6_bay_7 ?_
  refine lv_aload_n F.x F.b dX6_bay_10 rfl (lv_at hl 0 rfl) ?_
  refine lv_iload_n F.x F.b dX6_bay_11 rfl (lv_at hl 1 rfl) ?_
  refine kXi F w hst (LC := [wXo G.2.1 (ad 0) (xF ad) svx K, wSh G.2.1 (ad 1) S]) (LR := []) (As := [.int x1]) (rest := [.ref ((ad 1) 6)]) (t_X6_slotOf_no F.1 hq gM) m_X6_slotOf v_X6_slotOf q479 (ci := 10) (q0 := 0) rfl rfl rfl 2 [0, 1] rfl rfl rfl ⟨Nat.le_of_ble_eq_true rfl, Nat.le_of_ble_eq_true rfl⟩ rfl hl.1 rfl (Nat.le_of_ble_eq_true rfl) dX6_bay_12 ⟨Nat.le_of_ble_eq_true rfl, Nat.le_of_ble_eq_true rfl⟩ (fun E w1 ce q H locs hx w hce hcv hcl => by obtain ⟨rfl, hx⟩ := hx; exact exX (w.jn (L1 := [wXo G.2.1 (ad 0) (xF ad) svx K, wSh G.2.1 (ad 1) S]) (L' := [wXo G.2.1 (ad 0) (xF ad) svx K, wSh G.2.1 (ad 1) S]) hx 2 [0, 1] rfl rfl rfl) htab hlocks hce hcv hcl ⟨rfl, rfl⟩ (Nat.le_of_ble_eq_true rfl) (Nat.le_of_ble_eq_true rfl)) (fun r9 w1 H locs h9 w => ?_)
  exact False.elim h9
set_option maxRecDepth 100000 in
set_option maxHeartbeats 4000000 in
theorem k_bay_ok {G : cG} (g : GOK G) {ad : Nat → Nat → Nat} {svx : Value} {K S : Mem} {x1 : Int32} {pp : Nat} (hq : f_X3_slotWith S x1 = some (nI pp)) (hp : pp < 16) : CX G yX6_bay cX6_bay 2 .int 2 44 0 0 [.ref ((ad 0) 0), .int x1] (fl [wXo G.2.1 (ad 0) (xF ad) svx K, wSh G.2.1 (ad 1) S]) (fun r9 w1 => r9 = S.2 4 pp ∧ w1 = fl [wXo G.2.1 (ad 0) (xF ad) svx K, wSh G.2.1 (ad 1) S]) (fun _ _ => False) := by
  refine CX.of g (by decide) rfl (Nat.le_of_ble_eq_true rfl) ?_
  intro p l e s m below meth c A ls hst htab F hr hlocks w hl
  generalize ([.ref ((ad 0) 0), .int x1] : List Value).toArray = args
  have hl : lv_has ls 2 [(0, .ref ((ad 0) 0)), (1, .int x1)] := hl
  have w : Wd G A s.heap (fl [wXo G.2.1 (ad 0) (xF ad) svx K, wSh G.2.1 (ad 1) S]) _ _ := w
  refine lv_aload_n F.x F.b dX6_bay_0 rfl (lv_at hl 0 rfl) ?_
  refine rg F w cl6 0 rfl 0 (by decide) q260 rfl (v := .ref ((ad 1) 0)) rfl dX6_bay_1 ?_
  refine rgN F w cl4 1 rfl 0 (by decide) q147 rfl (v := .ref ((ad 1) 1)) rfl dX6_bay_4 ?_
  refine rgN F w cl3 2 rfl 4 (by decide) q77 rfl (v := .ref ((ad 1) 6)) rfl dX6_bay_7 ?_
  refine lv_aload_n F.x F.b dX6_bay_10 rfl (lv_at hl 0 rfl) ?_
  refine lv_iload_n F.x F.b dX6_bay_11 rfl (lv_at hl 1 rfl) ?_
  refine kXi F w hst (LC := [wXo G.2.1 (ad 0) (xF ad) svx K, wSh G.2.1 (ad 1) S]) (LR := []) (As := [.int x1]) (rest := [.ref ((ad 1) 6)]) (t_X6_slotOf_ok F.1 hq hp) m_X6_slotOf v_X6_slotOf q479 (ci := 10) (q0 := 0) rfl rfl rfl 2 [0, 1] rfl rfl rfl ⟨Nat.le_of_ble_eq_true rfl, Nat.le_of_ble_eq_true rfl⟩ rfl hl.1 rfl (Nat.le_of_ble_eq_true rfl) dX6_bay_12 ⟨Nat.le_of_ble_eq_true rfl, Nat.le_of_ble_eq_true rfl⟩ (fun _ _ _ _ _ _ hx => False.elim hx) (fun r9 w1 H locs h9 w => ?_)
  obtain ⟨rfl, h9⟩ := h9
  have w := w.jn (L1 := [wXo G.2.1 (ad 0) (xF ad) svx K, wSh G.2.1 (ad 1) S]) (L' := [wXo G.2.1 (ad 0) (xF ad) svx K, wSh G.2.1 (ad 1) S]) h9 2 [0, 1] rfl rfl rfl
  refine ri F w 7 (n := 16) (f := S.2 4) rfl (ib_nI hp (by omega)) dX6_bay_15 ?_
  exact eiX F w hr hlocks rfl ⟨by rw [nI_clamp (by omega)], rfl⟩ (Nat.le_of_ble_eq_true rfl) (Nat.le_of_ble_eq_true rfl) dX6_bay_16
set_option maxRecDepth 100000 in
set_option maxHeartbeats 4000000 in
theorem k_isSealed_no {G : cG} (g : GOK G) (gM : MG G) {ad : Nat → Nat → Nat} {svx : Value} {K S : Mem} {x1 : Int32} (hq : f_X3_slotWith S x1 = some (-1)) : CX G yX6_isSealed cX6_isSealed 2 .boolean 7 104 1 6 [.ref ((ad 0) 0), .int x1] (fl [wXo G.2.1 (ad 0) (xF ad) svx K, wSh G.2.1 (ad 1) S]) (fun _ _ => False) (QE eNSE (fl [wXo G.2.1 (ad 0) (xF ad) svx K, wSh G.2.1 (ad 1) S])) := by
  refine CX.of g (by decide) rfl (Nat.le_of_ble_eq_true rfl) ?_
  intro p l e s m below meth c A ls hst htab F hr hlocks w hl
  generalize ([.ref ((ad 0) 0), .int x1] : List Value).toArray = args
  have hl : lv_has ls 2 [(0, .ref ((ad 0) 0)), (1, .int x1)] := hl
  have w : Wd G A s.heap (fl [wXo G.2.1 (ad 0) (xF ad) svx K, wSh G.2.1 (ad 1) S]) _ _ := w
  refine lv_aload_n F.x F.b dX6_isSealed_0 rfl (lv_at hl 0 rfl) ?_
  refine rg F w cl6 0 rfl 0 (by decide) q260 rfl (v := .ref ((ad 1) 0)) rfl dX6_isSealed_1 ?_
  refine rgN F w cl4 1 rfl 0 (by decide) q147 rfl (v := .ref ((ad 1) 1)) rfl dX6_isSealed_4 ?_
  refine rgN F w cl3 2 rfl 5 (by decide) q80 rfl (v := .ref ((ad 1) 7)) rfl dX6_isSealed_7 ?_
  refine lv_aload_n F.x F.b dX6_isSealed_10 rfl (lv_at hl 0 rfl) ?_
  refine lv_iload_n F.x F.b dX6_isSealed_11 rfl (lv_at hl 1 rfl) ?_
  refine kXi F w hst (LC := [wXo G.2.1 (ad 0) (xF ad) svx K, wSh G.2.1 (ad 1) S]) (LR := []) (As := [.int x1]) (rest := [.ref ((ad 1) 7)]) (t_X6_slotOf_no F.1 hq gM) m_X6_slotOf v_X6_slotOf q479 (ci := 10) (q0 := 0) rfl rfl rfl 2 [0, 1] rfl rfl rfl ⟨Nat.le_of_ble_eq_true rfl, Nat.le_of_ble_eq_true rfl⟩ rfl hl.1 rfl (Nat.le_of_ble_eq_true rfl) dX6_isSealed_12 ⟨Nat.le_of_ble_eq_true rfl, Nat.le_of_ble_eq_true rfl⟩ (fun E w1 ce q H locs hx w hce hcv hcl => by obtain ⟨rfl, hx⟩ := hx; exact exX (w.jn (L1 := [wXo G.2.1 (ad 0) (xF ad) svx K, wSh G.2.1 (ad 1) S]) (L' := [wXo G.2.1 (ad 0) (xF ad) svx K, wSh G.2.1 (ad 1) S]) hx 2 [0, 1] rfl rfl rfl) htab hlocks hce hcv hcl ⟨rfl, rfl⟩ (Nat.le_of_ble_eq_true rfl) (Nat.le_of_ble_eq_true rfl)) (fun r9 w1 H locs h9 w => ?_)
  exact False.elim h9
set_option maxRecDepth 100000 in
set_option maxHeartbeats 4000000 in
theorem k_isSealed_ok {G : cG} (g : GOK G) {ad : Nat → Nat → Nat} {svx : Value} {K S : Mem} {x1 : Int32} {pp : Nat} (hq : f_X3_slotWith S x1 = some (nI pp)) (hp : pp < 16) (hbo : S.2 5 pp = 0 ∨ S.2 5 pp = 1) : CX G yX6_isSealed cX6_isSealed 2 .boolean 2 44 0 0 [.ref ((ad 0) 0), .int x1] (fl [wXo G.2.1 (ad 0) (xF ad) svx K, wSh G.2.1 (ad 1) S]) (fun r9 w1 => r9 = S.2 5 pp ∧ w1 = fl [wXo G.2.1 (ad 0) (xF ad) svx K, wSh G.2.1 (ad 1) S]) (fun _ _ => False) := by
  refine CX.of g (by decide) rfl (Nat.le_of_ble_eq_true rfl) ?_
  intro p l e s m below meth c A ls hst htab F hr hlocks w hl
  generalize ([.ref ((ad 0) 0), .int x1] : List Value).toArray = args
  have hl : lv_has ls 2 [(0, .ref ((ad 0) 0)), (1, .int x1)] := hl
  have w : Wd G A s.heap (fl [wXo G.2.1 (ad 0) (xF ad) svx K, wSh G.2.1 (ad 1) S]) _ _ := w
  refine lv_aload_n F.x F.b dX6_isSealed_0 rfl (lv_at hl 0 rfl) ?_
  refine rg F w cl6 0 rfl 0 (by decide) q260 rfl (v := .ref ((ad 1) 0)) rfl dX6_isSealed_1 ?_
  refine rgN F w cl4 1 rfl 0 (by decide) q147 rfl (v := .ref ((ad 1) 1)) rfl dX6_isSealed_4 ?_
  refine rgN F w cl3 2 rfl 5 (by decide) q80 rfl (v := .ref ((ad 1) 7)) rfl dX6_isSealed_7 ?_
  refine lv_aload_n F.x F.b dX6_isSealed_10 rfl (lv_at hl 0 rfl) ?_
  refine lv_iload_n F.x F.b dX6_isSealed_11 rfl (lv_at hl 1 rfl) ?_
  refine kXi F w hst (LC := [wXo G.2.1 (ad 0) (xF ad) svx K, wSh G.2.1 (ad 1) S]) (LR := []) (As := [.int x1]) (rest := [.ref ((ad 1) 7)]) (t_X6_slotOf_ok F.1 hq hp) m_X6_slotOf v_X6_slotOf q479 (ci := 10) (q0 := 0) rfl rfl rfl 2 [0, 1] rfl rfl rfl ⟨Nat.le_of_ble_eq_true rfl, Nat.le_of_ble_eq_true rfl⟩ rfl hl.1 rfl (Nat.le_of_ble_eq_true rfl) dX6_isSealed_12 ⟨Nat.le_of_ble_eq_true rfl, Nat.le_of_ble_eq_true rfl⟩ (fun _ _ _ _ _ _ hx => False.elim hx) (fun r9 w1 H locs h9 w => ?_)
  obtain ⟨rfl, h9⟩ := h9
  have w := w.jn (L1 := [wXo G.2.1 (ad 0) (xF ad) svx K, wSh G.2.1 (ad 1) S]) (L' := [wXo G.2.1 (ad 0) (xF ad) svx K, wSh G.2.1 (ad 1) S]) h9 2 [0, 1] rfl rfl rfl
  refine rz F w 8 (n := 16) (f := S.2 5) rfl (ib_nI hp (by omega)) dX6_isSealed_15 ?_
  exact eiX F w hr hlocks (nar_boolean (by rw [nI_clamp (by omega)]; rcases hbo with e9 | e9 <;> rw [e9] <;> first | exact vn0 | exact vn1)) ⟨by rw [nI_clamp (by omega)], rfl⟩ (Nat.le_of_ble_eq_true rfl) (Nat.le_of_ble_eq_true rfl) dX6_isSealed_16
set_option maxRecDepth 100000 in
set_option maxHeartbeats 4000000 in
theorem k_isDamp_no {G : cG} (g : GOK G) (gM : MG G) {ad : Nat → Nat → Nat} {svx : Value} {K S : Mem} {x1 : Int32} (hq : f_X3_slotWith S x1 = some (-1)) : CX G yX6_isDamp cX6_isDamp 2 .boolean 7 104 1 6 [.ref ((ad 0) 0), .int x1] (fl [wXo G.2.1 (ad 0) (xF ad) svx K, wSh G.2.1 (ad 1) S]) (fun _ _ => False) (QE eNSE (fl [wXo G.2.1 (ad 0) (xF ad) svx K, wSh G.2.1 (ad 1) S])) := by
  refine CX.of g (by decide) rfl (Nat.le_of_ble_eq_true rfl) ?_
  intro p l e s m below meth c A ls hst htab F hr hlocks w hl
  generalize ([.ref ((ad 0) 0), .int x1] : List Value).toArray = args
  have hl : lv_has ls 2 [(0, .ref ((ad 0) 0)), (1, .int x1)] := hl
  have w : Wd G A s.heap (fl [wXo G.2.1 (ad 0) (xF ad) svx K, wSh G.2.1 (ad 1) S]) _ _ := w
  refine lv_aload_n F.x F.b dX6_isDamp_0 rfl (lv_at hl 0 rfl) ?_
  refine rg F w cl6 0 rfl 0 (by decide) q260 rfl (v := .ref ((ad 1) 0)) rfl dX6_isDamp_1 ?_
  refine rgN F w cl4 1 rfl 0 (by decide) q147 rfl (v := .ref ((ad 1) 1)) rfl dX6_isDamp_4 ?_
  refine rgN F w cl3 2 rfl 6 (by decide) q83 rfl (v := .ref ((ad 1) 8)) rfl dX6_isDamp_7 ?_
  refine lv_aload_n F.x F.b dX6_isDamp_10 rfl (lv_at hl 0 rfl) ?_
  refine lv_iload_n F.x F.b dX6_isDamp_11 rfl (lv_at hl 1 rfl) ?_
  refine kXi F w hst (LC := [wXo G.2.1 (ad 0) (xF ad) svx K, wSh G.2.1 (ad 1) S]) (LR := []) (As := [.int x1]) (rest := [.ref ((ad 1) 8)]) (t_X6_slotOf_no F.1 hq gM) m_X6_slotOf v_X6_slotOf q479 (ci := 10) (q0 := 0) rfl rfl rfl 2 [0, 1] rfl rfl rfl ⟨Nat.le_of_ble_eq_true rfl, Nat.le_of_ble_eq_true rfl⟩ rfl hl.1 rfl (Nat.le_of_ble_eq_true rfl) dX6_isDamp_12 ⟨Nat.le_of_ble_eq_true rfl, Nat.le_of_ble_eq_true rfl⟩ (fun E w1 ce q H locs hx w hce hcv hcl => by obtain ⟨rfl, hx⟩ := hx; exact exX (w.jn (L1 := [wXo G.2.1 (ad 0) (xF ad) svx K, wSh G.2.1 (ad 1) S]) (L' := [wXo G.2.1 (ad 0) (xF ad) svx K, wSh G.2.1 (ad 1) S]) hx 2 [0, 1] rfl rfl rfl) htab hlocks hce hcv hcl ⟨rfl, rfl⟩ (Nat.le_of_ble_eq_true rfl) (Nat.le_of_ble_eq_true rfl)) (fun r9 w1 H locs h9 w => ?_)
  exact False.elim h9
set_option maxRecDepth 100000 in
set_option maxHeartbeats 4000000 in
theorem k_isDamp_ok {G : cG} (g : GOK G) {ad : Nat → Nat → Nat} {svx : Value} {K S : Mem} {x1 : Int32} {pp : Nat} (hq : f_X3_slotWith S x1 = some (nI pp)) (hp : pp < 16) (hbo : S.2 6 pp = 0 ∨ S.2 6 pp = 1) : CX G yX6_isDamp cX6_isDamp 2 .boolean 2 44 0 0 [.ref ((ad 0) 0), .int x1] (fl [wXo G.2.1 (ad 0) (xF ad) svx K, wSh G.2.1 (ad 1) S]) (fun r9 w1 => r9 = S.2 6 pp ∧ w1 = fl [wXo G.2.1 (ad 0) (xF ad) svx K, wSh G.2.1 (ad 1) S]) (fun _ _ => False) := by
  refine CX.of g (by decide) rfl (Nat.le_of_ble_eq_true rfl) ?_
  intro p l e s m below meth c A ls hst htab F hr hlocks w hl
  generalize ([.ref ((ad 0) 0), .int x1] : List Value).toArray = args
  have hl : lv_has ls 2 [(0, .ref ((ad 0) 0)), (1, .int x1)] := hl
  have w : Wd G A s.heap (fl [wXo G.2.1 (ad 0) (xF ad) svx K, wSh G.2.1 (ad 1) S]) _ _ := w
  refine lv_aload_n F.x F.b dX6_isDamp_0 rfl (lv_at hl 0 rfl) ?_
  refine rg F w cl6 0 rfl 0 (by decide) q260 rfl (v := .ref ((ad 1) 0)) rfl dX6_isDamp_1 ?_
  refine rgN F w cl4 1 rfl 0 (by decide) q147 rfl (v := .ref ((ad 1) 1)) rfl dX6_isDamp_4 ?_
  refine rgN F w cl3 2 rfl 6 (by decide) q83 rfl (v := .ref ((ad 1) 8)) rfl dX6_isDamp_7 ?_
  refine lv_aload_n F.x F.b dX6_isDamp_10 rfl (lv_at hl 0 rfl) ?_
  refine lv_iload_n F.x F.b dX6_isDamp_11 rfl (lv_at hl 1 rfl) ?_
  refine kXi F w hst (LC := [wXo G.2.1 (ad 0) (xF ad) svx K, wSh G.2.1 (ad 1) S]) (LR := []) (As := [.int x1]) (rest := [.ref ((ad 1) 8)]) (t_X6_slotOf_ok F.1 hq hp) m_X6_slotOf v_X6_slotOf q479 (ci := 10) (q0 := 0) rfl rfl rfl 2 [0, 1] rfl rfl rfl ⟨Nat.le_of_ble_eq_true rfl, Nat.le_of_ble_eq_true rfl⟩ rfl hl.1 rfl (Nat.le_of_ble_eq_true rfl) dX6_isDamp_12 ⟨Nat.le_of_ble_eq_true rfl, Nat.le_of_ble_eq_true rfl⟩ (fun _ _ _ _ _ _ hx => False.elim hx) (fun r9 w1 H locs h9 w => ?_)
  obtain ⟨rfl, h9⟩ := h9
  have w := w.jn (L1 := [wXo G.2.1 (ad 0) (xF ad) svx K, wSh G.2.1 (ad 1) S]) (L' := [wXo G.2.1 (ad 0) (xF ad) svx K, wSh G.2.1 (ad 1) S]) h9 2 [0, 1] rfl rfl rfl
  refine rz F w 9 (n := 16) (f := S.2 6) rfl (ib_nI hp (by omega)) dX6_isDamp_15 ?_
  exact eiX F w hr hlocks (nar_boolean (by rw [nI_clamp (by omega)]; rcases hbo with e9 | e9 <;> rw [e9] <;> first | exact vn0 | exact vn1)) ⟨by rw [nI_clamp (by omega)], rfl⟩ (Nat.le_of_ble_eq_true rfl) (Nat.le_of_ble_eq_true rfl) dX6_isDamp_16
set_option maxRecDepth 100000 in
set_option maxHeartbeats 4000000 in
theorem k_value_no {G : cG} (g : GOK G) (gM : MG G) {ad : Nat → Nat → Nat} {svx : Value} {K S : Mem} {x1 : Int32} (hq : f_X3_slotWith S x1 = some (-1)) : CX G yX6_value cX6_value 2 .int 7 104 1 6 [.ref ((ad 0) 0), .int x1] (fl [wXo G.2.1 (ad 0) (xF ad) svx K, wSh G.2.1 (ad 1) S]) (fun _ _ => False) (QE eNSE (fl [wXo G.2.1 (ad 0) (xF ad) svx K, wSh G.2.1 (ad 1) S])) := by
  refine CX.of g (by decide) rfl (Nat.le_of_ble_eq_true rfl) ?_
  intro p l e s m below meth c A ls hst htab F hr hlocks w hl
  generalize ([.ref ((ad 0) 0), .int x1] : List Value).toArray = args
  have hl : lv_has ls 2 [(0, .ref ((ad 0) 0)), (1, .int x1)] := hl
  have w : Wd G A s.heap (fl [wXo G.2.1 (ad 0) (xF ad) svx K, wSh G.2.1 (ad 1) S]) _ _ := w
  refine lv_aload_n F.x F.b dX6_value_0 rfl (lv_at hl 0 rfl) ?_
  refine rg F w cl6 0 rfl 0 (by decide) q260 rfl (v := .ref ((ad 1) 0)) rfl dX6_value_1 ?_
  refine rgN F w cl4 1 rfl 0 (by decide) q147 rfl (v := .ref ((ad 1) 1)) rfl dX6_value_4 ?_
  refine lv_aload_n F.x F.b dX6_value_7 rfl (lv_at hl 0 rfl) ?_
  refine lv_iload_n F.x F.b dX6_value_8 rfl (lv_at hl 1 rfl) ?_
  refine kXi F w hst (LC := [wXo G.2.1 (ad 0) (xF ad) svx K, wSh G.2.1 (ad 1) S]) (LR := []) (As := [.int x1]) (rest := [.ref ((ad 1) 1)]) (t_X6_slotOf_no F.1 hq gM) m_X6_slotOf v_X6_slotOf q479 (ci := 10) (q0 := 0) rfl rfl rfl 2 [0, 1] rfl rfl rfl ⟨Nat.le_of_ble_eq_true rfl, Nat.le_of_ble_eq_true rfl⟩ rfl hl.1 rfl (Nat.le_of_ble_eq_true rfl) dX6_value_9 ⟨Nat.le_of_ble_eq_true rfl, Nat.le_of_ble_eq_true rfl⟩ (fun E w1 ce q H locs hx w hce hcv hcl => by obtain ⟨rfl, hx⟩ := hx; exact exX (w.jn (L1 := [wXo G.2.1 (ad 0) (xF ad) svx K, wSh G.2.1 (ad 1) S]) (L' := [wXo G.2.1 (ad 0) (xF ad) svx K, wSh G.2.1 (ad 1) S]) hx 2 [0, 1] rfl rfl rfl) htab hlocks hce hcv hcl ⟨rfl, rfl⟩ (Nat.le_of_ble_eq_true rfl) (Nat.le_of_ble_eq_true rfl)) (fun r9 w1 H locs h9 w => ?_)
  exact False.elim h9
set_option maxRecDepth 100000 in
set_option maxHeartbeats 4000000 in
theorem k_value_ok {G : cG} (g : GOK G) {ad : Nat → Nat → Nat} {svx : Value} {K S : Mem} {x1 : Int32} {pp : Nat} (hq : f_X3_slotWith S x1 = some (nI pp)) (hp : pp < 16) : CX G yX6_value cX6_value 2 .int 2 44 0 0 [.ref ((ad 0) 0), .int x1] (fl [wXo G.2.1 (ad 0) (xF ad) svx K, wSh G.2.1 (ad 1) S]) (fun r9 w1 => r9 = (S.2 2 pp * S.2 3 pp) ∧ w1 = fl [wXo G.2.1 (ad 0) (xF ad) svx K, wSh G.2.1 (ad 1) S]) (fun _ _ => False) := by
  refine CX.of g (by decide) rfl (Nat.le_of_ble_eq_true rfl) ?_
  intro p l e s m below meth c A ls hst htab F hr hlocks w hl
  generalize ([.ref ((ad 0) 0), .int x1] : List Value).toArray = args
  have hl : lv_has ls 2 [(0, .ref ((ad 0) 0)), (1, .int x1)] := hl
  have w : Wd G A s.heap (fl [wXo G.2.1 (ad 0) (xF ad) svx K, wSh G.2.1 (ad 1) S]) _ _ := w
  refine lv_aload_n F.x F.b dX6_value_0 rfl (lv_at hl 0 rfl) ?_
  refine rg F w cl6 0 rfl 0 (by decide) q260 rfl (v := .ref ((ad 1) 0)) rfl dX6_value_1 ?_
  refine rgN F w cl4 1 rfl 0 (by decide) q147 rfl (v := .ref ((ad 1) 1)) rfl dX6_value_4 ?_
  refine lv_aload_n F.x F.b dX6_value_7 rfl (lv_at hl 0 rfl) ?_
  refine lv_iload_n F.x F.b dX6_value_8 rfl (lv_at hl 1 rfl) ?_
  refine kXi F w hst (LC := [wXo G.2.1 (ad 0) (xF ad) svx K, wSh G.2.1 (ad 1) S]) (LR := []) (As := [.int x1]) (rest := [.ref ((ad 1) 1)]) (t_X6_slotOf_ok F.1 hq hp) m_X6_slotOf v_X6_slotOf q479 (ci := 10) (q0 := 0) rfl rfl rfl 2 [0, 1] rfl rfl rfl ⟨Nat.le_of_ble_eq_true rfl, Nat.le_of_ble_eq_true rfl⟩ rfl hl.1 rfl (Nat.le_of_ble_eq_true rfl) dX6_value_9 ⟨Nat.le_of_ble_eq_true rfl, Nat.le_of_ble_eq_true rfl⟩ (fun _ _ _ _ _ _ hx => False.elim hx) (fun r9 w1 H locs h9 w => ?_)
  obtain ⟨rfl, h9⟩ := h9
  have w := w.jn (L1 := [wXo G.2.1 (ad 0) (xF ad) svx K, wSh G.2.1 (ad 1) S]) (L' := [wXo G.2.1 (ad 0) (xF ad) svx K, wSh G.2.1 (ad 1) S]) h9 2 [0, 1] rfl rfl rfl
  refine kXi F w hst (LC := [wSh G.2.1 (ad 1) S]) (LR := [wXo G.2.1 (ad 0) (xF ad) svx K]) (As := [.int (nI pp)]) (rest := []) (t_X3_valueOf F.1 (c_valueOf S hp)).toX m_X3_valueOf v_X3_valueOf q1373 (ci := 7) (q0 := 2) rfl rfl rfl 2 [1, 0] rfl rfl rfl ⟨Nat.le_of_ble_eq_true rfl, Nat.le_of_ble_eq_true rfl⟩ rfl hl.1 rfl (Nat.le_of_ble_eq_true rfl) dX6_value_12 ⟨Nat.le_of_ble_eq_true rfl, Nat.le_of_ble_eq_true rfl⟩ (fun _ _ _ _ _ _ hx => False.elim hx) (fun r9 w1 H locs h9 w => ?_)
  obtain ⟨rfl, h9⟩ := h9
  have w := w.jn (L1 := [wSh G.2.1 (ad 1) S]) (L' := [wXo G.2.1 (ad 0) (xF ad) svx K, wSh G.2.1 (ad 1) S]) h9 2 [1, 0] rfl rfl rfl
  exact eiX F w hr hlocks rfl ⟨rfl, rfl⟩ (Nat.le_of_ble_eq_true rfl) (Nat.le_of_ble_eq_true rfl) dX6_value_15
set_option maxRecDepth 100000 in
set_option maxHeartbeats 4000000 in
theorem k_duty_no {G : cG} (g : GOK G) (gM : MG G) {ad : Nat → Nat → Nat} {svx : Value} {K S : Mem} {x1 : Int32} (hq : f_X3_slotWith S x1 = some (-1)) : CX G yX6_duty cX6_duty 2 .int 7 104 1 6 [.ref ((ad 0) 0), .int x1] (fl [wXo G.2.1 (ad 0) (xF ad) svx K, wSh G.2.1 (ad 1) S]) (fun _ _ => False) (QE eNSE (fl [wXo G.2.1 (ad 0) (xF ad) svx K, wSh G.2.1 (ad 1) S])) := by
  refine CX.of g (by decide) rfl (Nat.le_of_ble_eq_true rfl) ?_
  intro p l e s m below meth c A ls hst htab F hr hlocks w hl
  generalize ([.ref ((ad 0) 0), .int x1] : List Value).toArray = args
  have hl : lv_has ls 2 [(0, .ref ((ad 0) 0)), (1, .int x1)] := hl
  have w : Wd G A s.heap (fl [wXo G.2.1 (ad 0) (xF ad) svx K, wSh G.2.1 (ad 1) S]) _ _ := w
  refine lv_aload_n F.x F.b dX6_duty_0 rfl (lv_at hl 0 rfl) ?_
  refine rg F w cl6 0 rfl 0 (by decide) q260 rfl (v := .ref ((ad 1) 0)) rfl dX6_duty_1 ?_
  refine lv_aload_n F.x F.b dX6_duty_4 rfl (lv_at hl 0 rfl) ?_
  refine lv_iload_n F.x F.b dX6_duty_5 rfl (lv_at hl 1 rfl) ?_
  refine kXi F w hst (LC := [wXo G.2.1 (ad 0) (xF ad) svx K, wSh G.2.1 (ad 1) S]) (LR := []) (As := [.int x1]) (rest := [.ref ((ad 1) 0)]) (t_X6_slotOf_no F.1 hq gM) m_X6_slotOf v_X6_slotOf q479 (ci := 10) (q0 := 0) rfl rfl rfl 2 [0, 1] rfl rfl rfl ⟨Nat.le_of_ble_eq_true rfl, Nat.le_of_ble_eq_true rfl⟩ rfl hl.1 rfl (Nat.le_of_ble_eq_true rfl) dX6_duty_6 ⟨Nat.le_of_ble_eq_true rfl, Nat.le_of_ble_eq_true rfl⟩ (fun E w1 ce q H locs hx w hce hcv hcl => by obtain ⟨rfl, hx⟩ := hx; exact exX (w.jn (L1 := [wXo G.2.1 (ad 0) (xF ad) svx K, wSh G.2.1 (ad 1) S]) (L' := [wXo G.2.1 (ad 0) (xF ad) svx K, wSh G.2.1 (ad 1) S]) hx 2 [0, 1] rfl rfl rfl) htab hlocks hce hcv hcl ⟨rfl, rfl⟩ (Nat.le_of_ble_eq_true rfl) (Nat.le_of_ble_eq_true rfl)) (fun r9 w1 H locs h9 w => ?_)
  exact False.elim h9
set_option maxRecDepth 100000 in
set_option maxHeartbeats 4000000 in
theorem k_duty_ok {G : cG} (g : GOK G) {ad : Nat → Nat → Nat} {svx : Value} {K S : Mem} {x1 : Int32} {pp : Nat} (hq : f_X3_slotWith S x1 = some (nI pp)) (hp : pp < 16) {rr : Int32} (hd : f_X4_dutyOf S (nI pp) = some rr) : CX G yX6_duty cX6_duty 2 .int 3 67 0 0 [.ref ((ad 0) 0), .int x1] (fl [wXo G.2.1 (ad 0) (xF ad) svx K, wSh G.2.1 (ad 1) S]) (fun r9 w1 => r9 = rr ∧ w1 = fl [wXo G.2.1 (ad 0) (xF ad) svx K, wSh G.2.1 (ad 1) S]) (fun _ _ => False) := by
  refine CX.of g (by decide) rfl (Nat.le_of_ble_eq_true rfl) ?_
  intro p l e s m below meth c A ls hst htab F hr hlocks w hl
  generalize ([.ref ((ad 0) 0), .int x1] : List Value).toArray = args
  have hl : lv_has ls 2 [(0, .ref ((ad 0) 0)), (1, .int x1)] := hl
  have w : Wd G A s.heap (fl [wXo G.2.1 (ad 0) (xF ad) svx K, wSh G.2.1 (ad 1) S]) _ _ := w
  refine lv_aload_n F.x F.b dX6_duty_0 rfl (lv_at hl 0 rfl) ?_
  refine rg F w cl6 0 rfl 0 (by decide) q260 rfl (v := .ref ((ad 1) 0)) rfl dX6_duty_1 ?_
  refine lv_aload_n F.x F.b dX6_duty_4 rfl (lv_at hl 0 rfl) ?_
  refine lv_iload_n F.x F.b dX6_duty_5 rfl (lv_at hl 1 rfl) ?_
  refine kXi F w hst (LC := [wXo G.2.1 (ad 0) (xF ad) svx K, wSh G.2.1 (ad 1) S]) (LR := []) (As := [.int x1]) (rest := [.ref ((ad 1) 0)]) (t_X6_slotOf_ok F.1 hq hp) m_X6_slotOf v_X6_slotOf q479 (ci := 10) (q0 := 0) rfl rfl rfl 2 [0, 1] rfl rfl rfl ⟨Nat.le_of_ble_eq_true rfl, Nat.le_of_ble_eq_true rfl⟩ rfl hl.1 rfl (Nat.le_of_ble_eq_true rfl) dX6_duty_6 ⟨Nat.le_of_ble_eq_true rfl, Nat.le_of_ble_eq_true rfl⟩ (fun _ _ _ _ _ _ hx => False.elim hx) (fun r9 w1 H locs h9 w => ?_)
  obtain ⟨rfl, h9⟩ := h9
  have w := w.jn (L1 := [wXo G.2.1 (ad 0) (xF ad) svx K, wSh G.2.1 (ad 1) S]) (L' := [wXo G.2.1 (ad 0) (xF ad) svx K, wSh G.2.1 (ad 1) S]) h9 2 [0, 1] rfl rfl rfl
  refine kXi F w hst (LC := [wSh G.2.1 (ad 1) S]) (LR := [wXo G.2.1 (ad 0) (xF ad) svx K]) (As := [.int (nI pp)]) (rest := []) (t_X4_dutyOf F.1 hd).toX m_X4_dutyOf v_X4_dutyOf q517 (ci := 8) (q0 := 1) rfl rfl rfl 2 [1, 0] rfl rfl rfl ⟨Nat.le_of_ble_eq_true rfl, Nat.le_of_ble_eq_true rfl⟩ rfl hl.1 rfl (Nat.le_of_ble_eq_true rfl) dX6_duty_9 ⟨Nat.le_of_ble_eq_true rfl, Nat.le_of_ble_eq_true rfl⟩ (fun _ _ _ _ _ _ hx => False.elim hx) (fun r9 w1 H locs h9 w => ?_)
  obtain ⟨rfl, h9⟩ := h9
  have w := w.jn (L1 := [wSh G.2.1 (ad 1) S]) (L' := [wXo G.2.1 (ad 0) (xF ad) svx K, wSh G.2.1 (ad 1) S]) h9 2 [1, 0] rfl rfl rfl
  exact eiX F w hr hlocks rfl ⟨rfl, rfl⟩ (Nat.le_of_ble_eq_true rfl) (Nat.le_of_ble_eq_true rfl) dX6_duty_12
set_option maxRecDepth 100000 in
set_option maxHeartbeats 4000000 in
theorem k_lot_no {G : cG} (g : GOK G) (gM : MG G) {ad : Nat → Nat → Nat} {svx : Value} {K S : Mem} {x1 : Int32} (hi : x1 < 0 ∨ S.1 0 ≤ x1) : CX G yX6_lot cX6_lot 2 .int 7 104 1 6 [.ref ((ad 0) 0), .int x1] (fl [wXo G.2.1 (ad 0) (xF ad) svx K, wSh G.2.1 (ad 1) S]) (fun _ _ => False) (QE eIOB (fl [wXo G.2.1 (ad 0) (xF ad) svx K, wSh G.2.1 (ad 1) S])) := by
  refine CX.of g (by decide) rfl (Nat.le_of_ble_eq_true rfl) ?_
  intro p l e s m below meth c A ls hst htab F hr hlocks w hl
  generalize ([.ref ((ad 0) 0), .int x1] : List Value).toArray = args
  have hl : lv_has ls 2 [(0, .ref ((ad 0) 0)), (1, .int x1)] := hl
  have w : Wd G A s.heap (fl [wXo G.2.1 (ad 0) (xF ad) svx K, wSh G.2.1 (ad 1) S]) _ _ := w
  refine lv_iload_n F.x F.b dX6_lot_0 rfl (lv_at hl 1 rfl) ?_
  refine lv_aload_n F.x F.b dX6_lot_1 rfl (lv_at hl 0 rfl) ?_
  refine rg F w cl6 0 rfl 0 (by decide) q260 rfl (v := .ref ((ad 1) 0)) rfl dX6_lot_2 ?_
  refine rgN F w cl4 1 rfl 0 (by decide) q147 rfl (v := .ref ((ad 1) 1)) rfl dX6_lot_5 ?_
  refine rgN F w cl3 2 rfl 7 (by decide) q86 rfl (v := .int (S.1 0)) rfl dX6_lot_8 ?_
  refine kXSv F w hst (As := [.int x1, .int (S.1 0)]) (rest := []) (t_X6_checkIndex_no F.1 gM hi) m_X6_checkIndex v_X6_checkIndex q447 ⟨Nat.le_of_ble_eq_true rfl, Nat.le_of_ble_eq_true rfl⟩ rfl hl.1 rfl (Nat.le_of_ble_eq_true rfl) dX6_lot_11 ⟨Nat.le_of_ble_eq_true rfl, Nat.le_of_ble_eq_true rfl⟩ (fun E w1 ce q H locs hx w hce hcv hcl => by obtain ⟨rfl, rfl⟩ := hx; exact exX w htab hlocks hce hcv hcl ⟨rfl, rfl⟩ (Nat.le_of_ble_eq_true rfl) (Nat.le_of_ble_eq_true rfl)) (fun w1 H locs h9 w => ?_)
  exact False.elim h9
set_option maxRecDepth 100000 in
set_option maxHeartbeats 4000000 in
theorem k_lot_ok {G : cG} (g : GOK G) {ad : Nat → Nat → Nat} {svx : Value} {K S : Mem} {kk mm : Nat} (em : S.1 0 = nI mm) (hk : kk < mm) (hm : mm ≤ 16) : CX G yX6_lot cX6_lot 2 .int 1 21 0 0 [.ref ((ad 0) 0), .int (nI kk)] (fl [wXo G.2.1 (ad 0) (xF ad) svx K, wSh G.2.1 (ad 1) S]) (fun r9 w1 => r9 = S.2 0 kk ∧ w1 = fl [wXo G.2.1 (ad 0) (xF ad) svx K, wSh G.2.1 (ad 1) S]) (fun _ _ => False) := by
  refine CX.of g (by decide) rfl (Nat.le_of_ble_eq_true rfl) ?_
  intro p l e s m below meth c A ls hst htab F hr hlocks w hl
  generalize ([.ref ((ad 0) 0), .int (nI kk)] : List Value).toArray = args
  have hl : lv_has ls 2 [(0, .ref ((ad 0) 0)), (1, .int (nI kk))] := hl
  have w : Wd G A s.heap (fl [wXo G.2.1 (ad 0) (xF ad) svx K, wSh G.2.1 (ad 1) S]) _ _ := w
  refine lv_iload_n F.x F.b dX6_lot_0 rfl (lv_at hl 1 rfl) ?_
  refine lv_aload_n F.x F.b dX6_lot_1 rfl (lv_at hl 0 rfl) ?_
  refine rg F w cl6 0 rfl 0 (by decide) q260 rfl (v := .ref ((ad 1) 0)) rfl dX6_lot_2 ?_
  refine rgN F w cl4 1 rfl 0 (by decide) q147 rfl (v := .ref ((ad 1) 1)) rfl dX6_lot_5 ?_
  refine rgN F w cl3 2 rfl 7 (by decide) q86 rfl (v := .int (S.1 0)) rfl dX6_lot_8 ?_
  refine kXSv F w hst (As := [.int (nI kk), .int (S.1 0)]) (rest := []) (t_X6_checkIndex_ok F.1 (by rw [em]; exact fun q => q.elim (nI_pos (by omega)) (nI_ge hk (by omega)))) m_X6_checkIndex v_X6_checkIndex q447 ⟨Nat.le_of_ble_eq_true rfl, Nat.le_of_ble_eq_true rfl⟩ rfl hl.1 rfl (Nat.le_of_ble_eq_true rfl) dX6_lot_11 ⟨Nat.le_of_ble_eq_true rfl, Nat.le_of_ble_eq_true rfl⟩ (fun _ _ _ _ _ _ hx => False.elim hx) (fun w1 H locs h9 w => ?_)
  obtain rfl := h9
  have w : Wd G A s.heap (fl [wXo G.2.1 (ad 0) (xF ad) svx K, wSh G.2.1 (ad 1) S]) _ _ := w
  refine lv_aload_n F.x F.b dX6_lot_14 rfl (lv_at hl 0 rfl) ?_
  refine rg F w cl6 0 rfl 0 (by decide) q260 rfl (v := .ref ((ad 1) 0)) rfl dX6_lot_15 ?_
  refine rgN F w cl4 1 rfl 0 (by decide) q147 rfl (v := .ref ((ad 1) 1)) rfl dX6_lot_18 ?_
  refine rgN F w cl3 2 rfl 0 (by decide) q66 rfl (v := .ref ((ad 1) 2)) rfl dX6_lot_21 ?_
  refine lv_iload_n F.x F.b dX6_lot_24 rfl (lv_at hl 1 rfl) ?_
  refine ri F w 3 (n := 16) (f := S.2 0) rfl (ib_nI (by omega) (by omega)) dX6_lot_25 ?_
  exact eiX F w hr hlocks rfl ⟨by rw [nI_clamp (by omega)], rfl⟩ (Nat.le_of_ble_eq_true rfl) (Nat.le_of_ble_eq_true rfl) dX6_lot_26
set_option maxRecDepth 100000 in
set_option maxHeartbeats 4000000 in
theorem k_threshold_no {G : cG} (g : GOK G) (gM : MG G) {ad : Nat → Nat → Nat} {svx : Value} {K S : Mem} {x1 : Int32} (hi : x1 < 0 ∨ S.1 2 ≤ x1) : CX G yX6_threshold cX6_threshold 2 .int 7 104 1 6 [.ref ((ad 0) 0), .int x1] (fl [wXo G.2.1 (ad 0) (xF ad) svx K, wSh G.2.1 (ad 1) S]) (fun _ _ => False) (QE eIOB (fl [wXo G.2.1 (ad 0) (xF ad) svx K, wSh G.2.1 (ad 1) S])) := by
  refine CX.of g (by decide) rfl (Nat.le_of_ble_eq_true rfl) ?_
  intro p l e s m below meth c A ls hst htab F hr hlocks w hl
  generalize ([.ref ((ad 0) 0), .int x1] : List Value).toArray = args
  have hl : lv_has ls 2 [(0, .ref ((ad 0) 0)), (1, .int x1)] := hl
  have w : Wd G A s.heap (fl [wXo G.2.1 (ad 0) (xF ad) svx K, wSh G.2.1 (ad 1) S]) _ _ := w
  refine lv_iload_n F.x F.b dX6_threshold_0 rfl (lv_at hl 1 rfl) ?_
  refine lv_aload_n F.x F.b dX6_threshold_1 rfl (lv_at hl 0 rfl) ?_
  refine rg F w cl6 0 rfl 0 (by decide) q260 rfl (v := .ref ((ad 1) 0)) rfl dX6_threshold_2 ?_
  refine rgN F w cl4 1 rfl 1 (by decide) q149 rfl (v := .ref ((ad 1) 9)) rfl dX6_threshold_5 ?_
  refine rgN F w cl5 10 rfl 2 (by decide) q121 rfl (v := .int (S.1 2)) rfl dX6_threshold_8 ?_
  refine kXSv F w hst (As := [.int x1, .int (S.1 2)]) (rest := []) (t_X6_checkIndex_no F.1 gM hi) m_X6_checkIndex v_X6_checkIndex q447 ⟨Nat.le_of_ble_eq_true rfl, Nat.le_of_ble_eq_true rfl⟩ rfl hl.1 rfl (Nat.le_of_ble_eq_true rfl) dX6_threshold_11 ⟨Nat.le_of_ble_eq_true rfl, Nat.le_of_ble_eq_true rfl⟩ (fun E w1 ce q H locs hx w hce hcv hcl => by obtain ⟨rfl, rfl⟩ := hx; exact exX w htab hlocks hce hcv hcl ⟨rfl, rfl⟩ (Nat.le_of_ble_eq_true rfl) (Nat.le_of_ble_eq_true rfl)) (fun w1 H locs h9 w => ?_)
  exact False.elim h9
set_option maxRecDepth 100000 in
set_option maxHeartbeats 4000000 in
theorem k_threshold_ok {G : cG} (g : GOK G) {ad : Nat → Nat → Nat} {svx : Value} {K S : Mem} {kk mm : Nat} (em : S.1 2 = nI mm) (hk : kk < mm) (hm : mm ≤ 6) : CX G yX6_threshold cX6_threshold 2 .int 1 21 0 0 [.ref ((ad 0) 0), .int (nI kk)] (fl [wXo G.2.1 (ad 0) (xF ad) svx K, wSh G.2.1 (ad 1) S]) (fun r9 w1 => r9 = S.2 7 kk ∧ w1 = fl [wXo G.2.1 (ad 0) (xF ad) svx K, wSh G.2.1 (ad 1) S]) (fun _ _ => False) := by
  refine CX.of g (by decide) rfl (Nat.le_of_ble_eq_true rfl) ?_
  intro p l e s m below meth c A ls hst htab F hr hlocks w hl
  generalize ([.ref ((ad 0) 0), .int (nI kk)] : List Value).toArray = args
  have hl : lv_has ls 2 [(0, .ref ((ad 0) 0)), (1, .int (nI kk))] := hl
  have w : Wd G A s.heap (fl [wXo G.2.1 (ad 0) (xF ad) svx K, wSh G.2.1 (ad 1) S]) _ _ := w
  refine lv_iload_n F.x F.b dX6_threshold_0 rfl (lv_at hl 1 rfl) ?_
  refine lv_aload_n F.x F.b dX6_threshold_1 rfl (lv_at hl 0 rfl) ?_
  refine rg F w cl6 0 rfl 0 (by decide) q260 rfl (v := .ref ((ad 1) 0)) rfl dX6_threshold_2 ?_
  refine rgN F w cl4 1 rfl 1 (by decide) q149 rfl (v := .ref ((ad 1) 9)) rfl dX6_threshold_5 ?_
  refine rgN F w cl5 10 rfl 2 (by decide) q121 rfl (v := .int (S.1 2)) rfl dX6_threshold_8 ?_
  refine kXSv F w hst (As := [.int (nI kk), .int (S.1 2)]) (rest := []) (t_X6_checkIndex_ok F.1 (by rw [em]; exact fun q => q.elim (nI_pos (by omega)) (nI_ge hk (by omega)))) m_X6_checkIndex v_X6_checkIndex q447 ⟨Nat.le_of_ble_eq_true rfl, Nat.le_of_ble_eq_true rfl⟩ rfl hl.1 rfl (Nat.le_of_ble_eq_true rfl) dX6_threshold_11 ⟨Nat.le_of_ble_eq_true rfl, Nat.le_of_ble_eq_true rfl⟩ (fun _ _ _ _ _ _ hx => False.elim hx) (fun w1 H locs h9 w => ?_)
  obtain rfl := h9
  have w : Wd G A s.heap (fl [wXo G.2.1 (ad 0) (xF ad) svx K, wSh G.2.1 (ad 1) S]) _ _ := w
  refine lv_aload_n F.x F.b dX6_threshold_14 rfl (lv_at hl 0 rfl) ?_
  refine rg F w cl6 0 rfl 0 (by decide) q260 rfl (v := .ref ((ad 1) 0)) rfl dX6_threshold_15 ?_
  refine rgN F w cl4 1 rfl 1 (by decide) q149 rfl (v := .ref ((ad 1) 9)) rfl dX6_threshold_18 ?_
  refine rgN F w cl5 10 rfl 0 (by decide) q117 rfl (v := .ref ((ad 1) 10)) rfl dX6_threshold_21 ?_
  refine lv_iload_n F.x F.b dX6_threshold_24 rfl (lv_at hl 1 rfl) ?_
  refine ri F w 11 (n := 6) (f := S.2 7) rfl (ib_nI (by omega) (by omega)) dX6_threshold_25 ?_
  exact eiX F w hr hlocks rfl ⟨by rw [nI_clamp (by omega)], rfl⟩ (Nat.le_of_ble_eq_true rfl) (Nat.le_of_ble_eq_true rfl) dX6_threshold_26
set_option maxRecDepth 100000 in
set_option maxHeartbeats 4000000 in
theorem k_rate_no {G : cG} (g : GOK G) (gM : MG G) {ad : Nat → Nat → Nat} {svx : Value} {K S : Mem} {x1 : Int32} (hi : x1 < 0 ∨ S.1 2 ≤ x1) : CX G yX6_rate cX6_rate 2 .int 7 104 1 6 [.ref ((ad 0) 0), .int x1] (fl [wXo G.2.1 (ad 0) (xF ad) svx K, wSh G.2.1 (ad 1) S]) (fun _ _ => False) (QE eIOB (fl [wXo G.2.1 (ad 0) (xF ad) svx K, wSh G.2.1 (ad 1) S])) := by
  refine CX.of g (by decide) rfl (Nat.le_of_ble_eq_true rfl) ?_
  intro p l e s m below meth c A ls hst htab F hr hlocks w hl
  generalize ([.ref ((ad 0) 0), .int x1] : List Value).toArray = args
  have hl : lv_has ls 2 [(0, .ref ((ad 0) 0)), (1, .int x1)] := hl
  have w : Wd G A s.heap (fl [wXo G.2.1 (ad 0) (xF ad) svx K, wSh G.2.1 (ad 1) S]) _ _ := w
  refine lv_iload_n F.x F.b dX6_rate_0 rfl (lv_at hl 1 rfl) ?_
  refine lv_aload_n F.x F.b dX6_rate_1 rfl (lv_at hl 0 rfl) ?_
  refine rg F w cl6 0 rfl 0 (by decide) q260 rfl (v := .ref ((ad 1) 0)) rfl dX6_rate_2 ?_
  refine rgN F w cl4 1 rfl 1 (by decide) q149 rfl (v := .ref ((ad 1) 9)) rfl dX6_rate_5 ?_
  refine rgN F w cl5 10 rfl 2 (by decide) q121 rfl (v := .int (S.1 2)) rfl dX6_rate_8 ?_
  refine kXSv F w hst (As := [.int x1, .int (S.1 2)]) (rest := []) (t_X6_checkIndex_no F.1 gM hi) m_X6_checkIndex v_X6_checkIndex q447 ⟨Nat.le_of_ble_eq_true rfl, Nat.le_of_ble_eq_true rfl⟩ rfl hl.1 rfl (Nat.le_of_ble_eq_true rfl) dX6_rate_11 ⟨Nat.le_of_ble_eq_true rfl, Nat.le_of_ble_eq_true rfl⟩ (fun E w1 ce q H locs hx w hce hcv hcl => by obtain ⟨rfl, rfl⟩ := hx; exact exX w htab hlocks hce hcv hcl ⟨rfl, rfl⟩ (Nat.le_of_ble_eq_true rfl) (Nat.le_of_ble_eq_true rfl)) (fun w1 H locs h9 w => ?_)
  exact False.elim h9
set_option maxRecDepth 100000 in
set_option maxHeartbeats 4000000 in
theorem k_rate_ok {G : cG} (g : GOK G) {ad : Nat → Nat → Nat} {svx : Value} {K S : Mem} {kk mm : Nat} (em : S.1 2 = nI mm) (hk : kk < mm) (hm : mm ≤ 6) : CX G yX6_rate cX6_rate 2 .int 1 21 0 0 [.ref ((ad 0) 0), .int (nI kk)] (fl [wXo G.2.1 (ad 0) (xF ad) svx K, wSh G.2.1 (ad 1) S]) (fun r9 w1 => r9 = S.2 8 kk ∧ w1 = fl [wXo G.2.1 (ad 0) (xF ad) svx K, wSh G.2.1 (ad 1) S]) (fun _ _ => False) := by
  refine CX.of g (by decide) rfl (Nat.le_of_ble_eq_true rfl) ?_
  intro p l e s m below meth c A ls hst htab F hr hlocks w hl
  generalize ([.ref ((ad 0) 0), .int (nI kk)] : List Value).toArray = args
  have hl : lv_has ls 2 [(0, .ref ((ad 0) 0)), (1, .int (nI kk))] := hl
  have w : Wd G A s.heap (fl [wXo G.2.1 (ad 0) (xF ad) svx K, wSh G.2.1 (ad 1) S]) _ _ := w
  refine lv_iload_n F.x F.b dX6_rate_0 rfl (lv_at hl 1 rfl) ?_
  refine lv_aload_n F.x F.b dX6_rate_1 rfl (lv_at hl 0 rfl) ?_
  refine rg F w cl6 0 rfl 0 (by decide) q260 rfl (v := .ref ((ad 1) 0)) rfl dX6_rate_2 ?_
  refine rgN F w cl4 1 rfl 1 (by decide) q149 rfl (v := .ref ((ad 1) 9)) rfl dX6_rate_5 ?_
  refine rgN F w cl5 10 rfl 2 (by decide) q121 rfl (v := .int (S.1 2)) rfl dX6_rate_8 ?_
  refine kXSv F w hst (As := [.int (nI kk), .int (S.1 2)]) (rest := []) (t_X6_checkIndex_ok F.1 (by rw [em]; exact fun q => q.elim (nI_pos (by omega)) (nI_ge hk (by omega)))) m_X6_checkIndex v_X6_checkIndex q447 ⟨Nat.le_of_ble_eq_true rfl, Nat.le_of_ble_eq_true rfl⟩ rfl hl.1 rfl (Nat.le_of_ble_eq_true rfl) dX6_rate_11 ⟨Nat.le_of_ble_eq_true rfl, Nat.le_of_ble_eq_true rfl⟩ (fun _ _ _ _ _ _ hx => False.elim hx) (fun w1 H locs h9 w => ?_)
  obtain rfl := h9
  have w : Wd G A s.heap (fl [wXo G.2.1 (ad 0) (xF ad) svx K, wSh G.2.1 (ad 1) S]) _ _ := w
  refine lv_aload_n F.x F.b dX6_rate_14 rfl (lv_at hl 0 rfl) ?_
  refine rg F w cl6 0 rfl 0 (by decide) q260 rfl (v := .ref ((ad 1) 0)) rfl dX6_rate_15 ?_
  refine rgN F w cl4 1 rfl 1 (by decide) q149 rfl (v := .ref ((ad 1) 9)) rfl dX6_rate_18 ?_
  refine rgN F w cl5 10 rfl 1 (by decide) q119 rfl (v := .ref ((ad 1) 11)) rfl dX6_rate_21 ?_
  refine lv_iload_n F.x F.b dX6_rate_24 rfl (lv_at hl 1 rfl) ?_
  refine ri F w 12 (n := 6) (f := S.2 8) rfl (ib_nI (by omega) (by omega)) dX6_rate_25 ?_
  exact eiX F w hr hlocks rfl ⟨by rw [nI_clamp (by omega)], rfl⟩ (Nat.le_of_ble_eq_true rfl) (Nat.le_of_ble_eq_true rfl) dX6_rate_26
set_option maxRecDepth 100000 in
set_option maxHeartbeats 4000000 in
theorem k_queued_no {G : cG} (g : GOK G) (gM : MG G) {ad : Nat → Nat → Nat} {svx : Value} {K S : Mem} {x1 : Int32} (hi : x1 < 0 ∨ S.1 7 ≤ x1) : CX G yX6_queued cX6_queued 2 .int 7 104 1 6 [.ref ((ad 0) 0), .int x1] (fl [wXo G.2.1 (ad 0) (xF ad) svx K, wSh G.2.1 (ad 1) S]) (fun _ _ => False) (QE eIOB (fl [wXo G.2.1 (ad 0) (xF ad) svx K, wSh G.2.1 (ad 1) S])) := by
  refine CX.of g (by decide) rfl (Nat.le_of_ble_eq_true rfl) ?_
  intro p l e s m below meth c A ls hst htab F hr hlocks w hl
  generalize ([.ref ((ad 0) 0), .int x1] : List Value).toArray = args
  have hl : lv_has ls 2 [(0, .ref ((ad 0) 0)), (1, .int x1)] := hl
  have w : Wd G A s.heap (fl [wXo G.2.1 (ad 0) (xF ad) svx K, wSh G.2.1 (ad 1) S]) _ _ := w
  refine lv_iload_n F.x F.b dX6_queued_0 rfl (lv_at hl 1 rfl) ?_
  refine lv_aload_n F.x F.b dX6_queued_1 rfl (lv_at hl 0 rfl) ?_
  refine rg F w cl6 0 rfl 0 (by decide) q260 rfl (v := .ref ((ad 1) 0)) rfl dX6_queued_2 ?_
  refine rgN F w cl4 1 rfl 2 (by decide) q151 rfl (v := .ref ((ad 1) 12)) rfl dX6_queued_5 ?_
  refine rgN F w cl0 13 rfl 1 (by decide) q140 rfl (v := .int (S.1 7)) rfl dX6_queued_8 ?_
  refine kXSv F w hst (As := [.int x1, .int (S.1 7)]) (rest := []) (t_X6_checkIndex_no F.1 gM hi) m_X6_checkIndex v_X6_checkIndex q447 ⟨Nat.le_of_ble_eq_true rfl, Nat.le_of_ble_eq_true rfl⟩ rfl hl.1 rfl (Nat.le_of_ble_eq_true rfl) dX6_queued_11 ⟨Nat.le_of_ble_eq_true rfl, Nat.le_of_ble_eq_true rfl⟩ (fun E w1 ce q H locs hx w hce hcv hcl => by obtain ⟨rfl, rfl⟩ := hx; exact exX w htab hlocks hce hcv hcl ⟨rfl, rfl⟩ (Nat.le_of_ble_eq_true rfl) (Nat.le_of_ble_eq_true rfl)) (fun w1 H locs h9 w => ?_)
  exact False.elim h9
set_option maxRecDepth 100000 in
set_option maxHeartbeats 4000000 in
theorem k_queued_ok {G : cG} (g : GOK G) {ad : Nat → Nat → Nat} {svx : Value} {K S : Mem} {kk mm : Nat} (em : S.1 7 = nI mm) (hk : kk < mm) (hm : mm ≤ 16) : CX G yX6_queued cX6_queued 2 .int 1 21 0 0 [.ref ((ad 0) 0), .int (nI kk)] (fl [wXo G.2.1 (ad 0) (xF ad) svx K, wSh G.2.1 (ad 1) S]) (fun r9 w1 => r9 = S.2 9 kk ∧ w1 = fl [wXo G.2.1 (ad 0) (xF ad) svx K, wSh G.2.1 (ad 1) S]) (fun _ _ => False) := by
  refine CX.of g (by decide) rfl (Nat.le_of_ble_eq_true rfl) ?_
  intro p l e s m below meth c A ls hst htab F hr hlocks w hl
  generalize ([.ref ((ad 0) 0), .int (nI kk)] : List Value).toArray = args
  have hl : lv_has ls 2 [(0, .ref ((ad 0) 0)), (1, .int (nI kk))] := hl
  have w : Wd G A s.heap (fl [wXo G.2.1 (ad 0) (xF ad) svx K, wSh G.2.1 (ad 1) S]) _ _ := w
  refine lv_iload_n F.x F.b dX6_queued_0 rfl (lv_at hl 1 rfl) ?_
  refine lv_aload_n F.x F.b dX6_queued_1 rfl (lv_at hl 0 rfl) ?_
  refine rg F w cl6 0 rfl 0 (by decide) q260 rfl (v := .ref ((ad 1) 0)) rfl dX6_queued_2 ?_
  refine rgN F w cl4 1 rfl 2 (by decide) q151 rfl (v := .ref ((ad 1) 12)) rfl dX6_queued_5 ?_
  refine rgN F w cl0 13 rfl 1 (by decide) q140 rfl (v := .int (S.1 7)) rfl dX6_queued_8 ?_
  refine kXSv F w hst (As := [.int (nI kk), .int (S.1 7)]) (rest := []) (t_X6_checkIndex_ok F.1 (by rw [em]; exact fun q => q.elim (nI_pos (by omega)) (nI_ge hk (by omega)))) m_X6_checkIndex v_X6_checkIndex q447 ⟨Nat.le_of_ble_eq_true rfl, Nat.le_of_ble_eq_true rfl⟩ rfl hl.1 rfl (Nat.le_of_ble_eq_true rfl) dX6_queued_11 ⟨Nat.le_of_ble_eq_true rfl, Nat.le_of_ble_eq_true rfl⟩ (fun _ _ _ _ _ _ hx => False.elim hx) (fun w1 H locs h9 w => ?_)
  obtain rfl := h9
  have w : Wd G A s.heap (fl [wXo G.2.1 (ad 0) (xF ad) svx K, wSh G.2.1 (ad 1) S]) _ _ := w
  refine lv_aload_n F.x F.b dX6_queued_14 rfl (lv_at hl 0 rfl) ?_
  refine rg F w cl6 0 rfl 0 (by decide) q260 rfl (v := .ref ((ad 1) 0)) rfl dX6_queued_15 ?_
  refine rgN F w cl4 1 rfl 2 (by decide) q151 rfl (v := .ref ((ad 1) 12)) rfl dX6_queued_18 ?_
  refine rgN F w cl0 13 rfl 0 (by decide) q137 rfl (v := .ref ((ad 1) 13)) rfl dX6_queued_21 ?_
  refine lv_iload_n F.x F.b dX6_queued_24 rfl (lv_at hl 1 rfl) ?_
  refine ri F w 14 (n := 16) (f := S.2 9) rfl (ib_nI (by omega) (by omega)) dX6_queued_25 ?_
  exact eiX F w hr hlocks rfl ⟨by rw [nI_clamp (by omega)], rfl⟩ (Nat.le_of_ble_eq_true rfl) (Nat.le_of_ble_eq_true rfl) dX6_queued_26
set_option maxRecDepth 100000 in
set_option maxHeartbeats 4000000 in
theorem k_lotAt_no {G : cG} (g : GOK G) (gM : MG G) {ad : Nat → Nat → Nat} {svx : Value} {K S : Mem} {bb : Nat} (hb : bb < 24) (hq : f_X3_slotAt S (nI bb) = some (-1)) : CX G yX6_lotAt cX6_lotAt 3 .int 6 82 1 6 [.ref ((ad 0) 0), .int (nI bb)] (fl [wXo G.2.1 (ad 0) (xF ad) svx K, wSh G.2.1 (ad 1) S]) (fun _ _ => False) (QE eNSE (fl [wXo G.2.1 (ad 0) (xF ad) svx K, wSh G.2.1 (ad 1) S])) := by
  refine CX.of g (by decide) rfl (Nat.le_of_ble_eq_true rfl) ?_
  intro p l e s m below meth c A ls hst htab F hr hlocks w hl
  generalize ([.ref ((ad 0) 0), .int (nI bb)] : List Value).toArray = args
  have hl : lv_has ls 3 [(0, .ref ((ad 0) 0)), (1, .int (nI bb))] := hl
  have w : Wd G A s.heap (fl [wXo G.2.1 (ad 0) (xF ad) svx K, wSh G.2.1 (ad 1) S]) _ _ := w
  refine lv_iload_n F.x F.b dX6_lotAt_0 rfl (lv_at hl 1 rfl) ?_
  refine lv_bipush (v := 24) F.x F.b dX6_lotAt_1 (by decide) ?_
  refine kXSv F w hst (As := [.int (nI bb), .int 24]) (rest := []) (t_X6_checkIndex_ok F.1 (fun q => q.elim (nI_pos (by omega)) (nI_ge (a := bb) (b := 24) hb (by omega)))) m_X6_checkIndex v_X6_checkIndex q447 ⟨Nat.le_of_ble_eq_true rfl, Nat.le_of_ble_eq_true rfl⟩ rfl hl.1 rfl (Nat.le_of_ble_eq_true rfl) dX6_lotAt_3 ⟨Nat.le_of_ble_eq_true rfl, Nat.le_of_ble_eq_true rfl⟩ (fun _ _ _ _ _ _ hx => False.elim hx) (fun w1 H locs h9 w => ?_)
  obtain rfl := h9
  have w : Wd G A s.heap (fl [wXo G.2.1 (ad 0) (xF ad) svx K, wSh G.2.1 (ad 1) S]) _ _ := w
  refine lv_aload_n F.x F.b dX6_lotAt_6 rfl (lv_at hl 0 rfl) ?_
  refine rg F w cl6 0 rfl 0 (by decide) q260 rfl (v := .ref ((ad 1) 0)) rfl dX6_lotAt_7 ?_
  refine rgN F w cl4 1 rfl 0 (by decide) q147 rfl (v := .ref ((ad 1) 1)) rfl dX6_lotAt_10 ?_
  refine lv_iload_n F.x F.b dX6_lotAt_13 rfl (lv_at hl 1 rfl) ?_
  refine kXi F w hst (LC := [wSh G.2.1 (ad 1) S]) (LR := [wXo G.2.1 (ad 0) (xF ad) svx K]) (As := [.int (nI bb)]) (rest := []) (t_X3_slotAt F.1 hq).toX m_X3_slotAt v_X3_slotAt q1339 (ci := 7) (q0 := 2) rfl rfl rfl 2 [1, 0] rfl rfl rfl ⟨Nat.le_of_ble_eq_true rfl, Nat.le_of_ble_eq_true rfl⟩ rfl hl.1 rfl (Nat.le_of_ble_eq_true rfl) dX6_lotAt_14 ⟨Nat.le_of_ble_eq_true rfl, Nat.le_of_ble_eq_true rfl⟩ (fun _ _ _ _ _ _ hx => False.elim hx) (fun r9 w1 H locs h9 w => ?_)
  obtain ⟨rfl, h9⟩ := h9
  have w := w.jn (L1 := [wSh G.2.1 (ad 1) S]) (L' := [wXo G.2.1 (ad 0) (xF ad) svx K, wSh G.2.1 (ad 1) S]) h9 2 [1, 0] rfl rfl rfl
  refine lv_istore_n (lv' := [(2, .int (-1)), (0, .ref ((ad 0) 0)), (1, .int (nI bb))]) F.x F.b dX6_lotAt_17 rfl hl (by decide) rfl (fun ls hl => ?_)
  refine lv_iload_n F.x F.b dX6_lotAt_18 rfl (lv_at hl 0 rfl) ?_
  refine lv_if_ge (tgt := 32) F.x F.b dX6_lotAt_19 (by decide) (fun c9 => absurd c9 (by decide)) (fun _ => ?_)
  exact wTN F w gM hst htab hlocks (is := 129) (by decide +kernel : (129, "the bay is empty") ∈ msgs) (show QE eNSE (fl [wXo G.2.1 (ad 0) (xF ad) svx K, wSh G.2.1 (ad 1) S]) eNSE _ from ⟨rfl, rfl⟩) hl.1 dX6_lotAt_22 dX6_lotAt_25 dX6_lotAt_26 dX6_lotAt_28 dX6_lotAt_31 ⟨Nat.le_of_ble_eq_true rfl, Nat.le_of_ble_eq_true rfl, Nat.le_of_ble_eq_true rfl, Nat.le_of_ble_eq_true rfl⟩ ⟨Nat.le_of_ble_eq_true rfl, Nat.le_of_ble_eq_true rfl⟩
set_option maxRecDepth 100000 in
set_option maxHeartbeats 4000000 in
theorem k_lotAt_ok {G : cG} (g : GOK G) {ad : Nat → Nat → Nat} {svx : Value} {K S : Mem} {bb pp : Nat} (hb : bb < 24) (hq : f_X3_slotAt S (nI bb) = some (nI pp)) (hp : pp < 16) : CX G yX6_lotAt cX6_lotAt 3 .int 1 22 0 0 [.ref ((ad 0) 0), .int (nI bb)] (fl [wXo G.2.1 (ad 0) (xF ad) svx K, wSh G.2.1 (ad 1) S]) (fun r9 w1 => r9 = S.2 0 pp ∧ w1 = fl [wXo G.2.1 (ad 0) (xF ad) svx K, wSh G.2.1 (ad 1) S]) (fun _ _ => False) := by
  refine CX.of g (by decide) rfl (Nat.le_of_ble_eq_true rfl) ?_
  intro p l e s m below meth c A ls hst htab F hr hlocks w hl
  generalize ([.ref ((ad 0) 0), .int (nI bb)] : List Value).toArray = args
  have hl : lv_has ls 3 [(0, .ref ((ad 0) 0)), (1, .int (nI bb))] := hl
  have w : Wd G A s.heap (fl [wXo G.2.1 (ad 0) (xF ad) svx K, wSh G.2.1 (ad 1) S]) _ _ := w
  refine lv_iload_n F.x F.b dX6_lotAt_0 rfl (lv_at hl 1 rfl) ?_
  refine lv_bipush (v := 24) F.x F.b dX6_lotAt_1 (by decide) ?_
  refine kXSv F w hst (As := [.int (nI bb), .int 24]) (rest := []) (t_X6_checkIndex_ok F.1 (fun q => q.elim (nI_pos (by omega)) (nI_ge (a := bb) (b := 24) hb (by omega)))) m_X6_checkIndex v_X6_checkIndex q447 ⟨Nat.le_of_ble_eq_true rfl, Nat.le_of_ble_eq_true rfl⟩ rfl hl.1 rfl (Nat.le_of_ble_eq_true rfl) dX6_lotAt_3 ⟨Nat.le_of_ble_eq_true rfl, Nat.le_of_ble_eq_true rfl⟩ (fun _ _ _ _ _ _ hx => False.elim hx) (fun w1 H locs h9 w => ?_)
  obtain rfl := h9
  have w : Wd G A s.heap (fl [wXo G.2.1 (ad 0) (xF ad) svx K, wSh G.2.1 (ad 1) S]) _ _ := w
  refine lv_aload_n F.x F.b dX6_lotAt_6 rfl (lv_at hl 0 rfl) ?_
  refine rg F w cl6 0 rfl 0 (by decide) q260 rfl (v := .ref ((ad 1) 0)) rfl dX6_lotAt_7 ?_
  refine rgN F w cl4 1 rfl 0 (by decide) q147 rfl (v := .ref ((ad 1) 1)) rfl dX6_lotAt_10 ?_
  refine lv_iload_n F.x F.b dX6_lotAt_13 rfl (lv_at hl 1 rfl) ?_
  refine kXi F w hst (LC := [wSh G.2.1 (ad 1) S]) (LR := [wXo G.2.1 (ad 0) (xF ad) svx K]) (As := [.int (nI bb)]) (rest := []) (t_X3_slotAt F.1 hq).toX m_X3_slotAt v_X3_slotAt q1339 (ci := 7) (q0 := 2) rfl rfl rfl 2 [1, 0] rfl rfl rfl ⟨Nat.le_of_ble_eq_true rfl, Nat.le_of_ble_eq_true rfl⟩ rfl hl.1 rfl (Nat.le_of_ble_eq_true rfl) dX6_lotAt_14 ⟨Nat.le_of_ble_eq_true rfl, Nat.le_of_ble_eq_true rfl⟩ (fun _ _ _ _ _ _ hx => False.elim hx) (fun r9 w1 H locs h9 w => ?_)
  obtain ⟨rfl, h9⟩ := h9
  have w := w.jn (L1 := [wSh G.2.1 (ad 1) S]) (L' := [wXo G.2.1 (ad 0) (xF ad) svx K, wSh G.2.1 (ad 1) S]) h9 2 [1, 0] rfl rfl rfl
  refine lv_istore_n (lv' := [(2, .int (nI pp)), (0, .ref ((ad 0) 0)), (1, .int (nI bb))]) F.x F.b dX6_lotAt_17 rfl hl (by decide) rfl (fun ls hl => ?_)
  refine lv_iload_n F.x F.b dX6_lotAt_18 rfl (lv_at hl 0 rfl) ?_
  refine lv_if_ge (tgt := 32) F.x F.b dX6_lotAt_19 (by decide) (fun _ => ?_) (fun c9 => absurd (nI_pos' (n := pp) (by omega)) c9)
  refine lv_aload_n F.x F.b dX6_lotAt_32 rfl (lv_at hl 1 rfl) ?_
  refine rg F w cl6 0 rfl 0 (by decide) q260 rfl (v := .ref ((ad 1) 0)) rfl dX6_lotAt_33 ?_
  refine rgN F w cl4 1 rfl 0 (by decide) q147 rfl (v := .ref ((ad 1) 1)) rfl dX6_lotAt_36 ?_
  refine rgN F w cl3 2 rfl 0 (by decide) q66 rfl (v := .ref ((ad 1) 2)) rfl dX6_lotAt_39 ?_
  refine lv_iload_n F.x F.b dX6_lotAt_42 rfl (lv_at hl 0 rfl) ?_
  refine ri F w 3 (n := 16) (f := S.2 0) rfl (ib_nI hp (by omega)) dX6_lotAt_43 ?_
  exact eiX F w hr hlocks rfl ⟨by rw [nI_clamp (by omega)], rfl⟩ (Nat.le_of_ble_eq_true rfl) (Nat.le_of_ble_eq_true rfl) dX6_lotAt_44
set_option maxRecDepth 100000 in
set_option maxHeartbeats 4000000 in
theorem k_quantityOfKind_ok {G : cG} (g : GOK G) {ad : Nat → Nat → Nat} {svx : Value} {K S : Mem} {x1 rr : Int32} (hk : f_X6_isKind x1 = some 1) (hq : f_X3_quantityOf S x1 = some rr) : CX G yX6_quantityOfKind cX6_quantityOfKind 2 .int 1 23 0 0 [.ref ((ad 0) 0), .int x1] (fl [wXo G.2.1 (ad 0) (xF ad) svx K, wSh G.2.1 (ad 1) S]) (fun r9 w1 => r9 = rr ∧ w1 = fl [wXo G.2.1 (ad 0) (xF ad) svx K, wSh G.2.1 (ad 1) S]) (fun _ _ => False) := by
  refine CX.of g (by decide) rfl (Nat.le_of_ble_eq_true rfl) ?_
  intro p l e s m below meth c A ls hst htab F hr hlocks w hl
  generalize ([.ref ((ad 0) 0), .int x1] : List Value).toArray = args
  have hl : lv_has ls 2 [(0, .ref ((ad 0) 0)), (1, .int x1)] := hl
  have w : Wd G A s.heap (fl [wXo G.2.1 (ad 0) (xF ad) svx K, wSh G.2.1 (ad 1) S]) _ _ := w
  refine lv_iload_n F.x F.b dX6_quantityOfKind_0 rfl (lv_at hl 1 rfl) ?_
  refine kSi F w (t_X6_isKind F.1 hk) m_X6_isKind v_X6_isKind q1417 (As := [.int x1]) (rest := []) ⟨Nat.le_of_ble_eq_true rfl, Nat.le_of_ble_eq_true rfl⟩ rfl hl.1 rfl (Nat.le_of_ble_eq_true rfl) dX6_quantityOfKind_1 ⟨Nat.le_of_ble_eq_true rfl, Nat.le_of_ble_eq_true rfl⟩ (fun H locs w => ?_)
  refine lv_if_ne (tgt := 17) F.x F.b dX6_quantityOfKind_4 (by decide) (fun _ => ?_) (fun c9 => absurd c9 (by decide))
  refine lv_aload_n F.x F.b dX6_quantityOfKind_17 rfl (lv_at hl 0 rfl) ?_
  refine rg F w cl6 0 rfl 0 (by decide) q260 rfl (v := .ref ((ad 1) 0)) rfl dX6_quantityOfKind_18 ?_
  refine rgN F w cl4 1 rfl 0 (by decide) q147 rfl (v := .ref ((ad 1) 1)) rfl dX6_quantityOfKind_21 ?_
  refine lv_iload_n F.x F.b dX6_quantityOfKind_24 rfl (lv_at hl 1 rfl) ?_
  refine kXi F w hst (LC := [wSh G.2.1 (ad 1) S]) (LR := [wXo G.2.1 (ad 0) (xF ad) svx K]) (As := [.int x1]) (rest := []) (t_X3_quantityOf F.1 hq).toX m_X3_quantityOf v_X3_quantityOf q1419 (ci := 7) (q0 := 2) rfl rfl rfl 2 [1, 0] rfl rfl rfl ⟨Nat.le_of_ble_eq_true rfl, Nat.le_of_ble_eq_true rfl⟩ rfl hl.1 rfl (Nat.le_of_ble_eq_true rfl) dX6_quantityOfKind_25 ⟨Nat.le_of_ble_eq_true rfl, Nat.le_of_ble_eq_true rfl⟩ (fun _ _ _ _ _ _ hx => False.elim hx) (fun r9 w1 H locs h9 w => ?_)
  obtain ⟨rfl, h9⟩ := h9
  have w := w.jn (L1 := [wSh G.2.1 (ad 1) S]) (L' := [wXo G.2.1 (ad 0) (xF ad) svx K, wSh G.2.1 (ad 1) S]) h9 2 [1, 0] rfl rfl rfl
  exact eiX F w hr hlocks rfl ⟨rfl, rfl⟩ (Nat.le_of_ble_eq_true rfl) (Nat.le_of_ble_eq_true rfl) dX6_quantityOfKind_28
set_option maxRecDepth 100000 in
set_option maxHeartbeats 4000000 in
theorem k_lotByValue_ok {G : cG} (g : GOK G) {ad : Nat → Nat → Nat} {svx : Value} {K S : Mem} {x1 : Int32} {pp : Nat} (hq : f_X3_slotByValue S x1 = some (nI pp)) (hp : pp < 16) : CX G yX6_lotByValue cX6_lotByValue 3 .int 3 68 0 0 [.ref ((ad 0) 0), .int x1] (fl [wXo G.2.1 (ad 0) (xF ad) svx K, wSh G.2.1 (ad 1) S]) (fun r9 w1 => r9 = S.2 0 pp ∧ w1 = fl [wXo G.2.1 (ad 0) (xF ad) svx K, wSh G.2.1 (ad 1) S]) (fun _ _ => False) := by
  refine CX.of g (by decide) rfl (Nat.le_of_ble_eq_true rfl) ?_
  intro p l e s m below meth c A ls hst htab F hr hlocks w hl
  generalize ([.ref ((ad 0) 0), .int x1] : List Value).toArray = args
  have hl : lv_has ls 3 [(0, .ref ((ad 0) 0)), (1, .int x1)] := hl
  have w : Wd G A s.heap (fl [wXo G.2.1 (ad 0) (xF ad) svx K, wSh G.2.1 (ad 1) S]) _ _ := w
  refine lv_aload_n F.x F.b dX6_lotByValue_0 rfl (lv_at hl 0 rfl) ?_
  refine rg F w cl6 0 rfl 0 (by decide) q260 rfl (v := .ref ((ad 1) 0)) rfl dX6_lotByValue_1 ?_
  refine rgN F w cl4 1 rfl 0 (by decide) q147 rfl (v := .ref ((ad 1) 1)) rfl dX6_lotByValue_4 ?_
  refine lv_iload_n F.x F.b dX6_lotByValue_7 rfl (lv_at hl 1 rfl) ?_
  refine kXi F w hst (LC := [wSh G.2.1 (ad 1) S]) (LR := [wXo G.2.1 (ad 0) (xF ad) svx K]) (As := [.int x1]) (rest := []) (t_X3_slotByValue F.1 hq).toX m_X3_slotByValue v_X3_slotByValue q1399 (ci := 7) (q0 := 2) rfl rfl rfl 2 [1, 0] rfl rfl rfl ⟨Nat.le_of_ble_eq_true rfl, Nat.le_of_ble_eq_true rfl⟩ rfl hl.1 rfl (Nat.le_of_ble_eq_true rfl) dX6_lotByValue_8 ⟨Nat.le_of_ble_eq_true rfl, Nat.le_of_ble_eq_true rfl⟩ (fun _ _ _ _ _ _ hx => False.elim hx) (fun r9 w1 H locs h9 w => ?_)
  obtain ⟨rfl, h9⟩ := h9
  have w := w.jn (L1 := [wSh G.2.1 (ad 1) S]) (L' := [wXo G.2.1 (ad 0) (xF ad) svx K, wSh G.2.1 (ad 1) S]) h9 2 [1, 0] rfl rfl rfl
  refine lv_istore_n (lv' := [(2, .int (nI pp)), (0, .ref ((ad 0) 0)), (1, .int x1)]) F.x F.b dX6_lotByValue_11 rfl hl (by decide) rfl (fun ls hl => ?_)
  refine lv_iload_n F.x F.b dX6_lotByValue_12 rfl (lv_at hl 0 rfl) ?_
  refine lv_if_ge (tgt := 26) F.x F.b dX6_lotByValue_13 (by decide) (fun _ => ?_) (fun c9 => absurd (nI_pos' (n := pp) (by omega)) c9)
  refine lv_aload_n F.x F.b dX6_lotByValue_26 rfl (lv_at hl 1 rfl) ?_
  refine rg F w cl6 0 rfl 0 (by decide) q260 rfl (v := .ref ((ad 1) 0)) rfl dX6_lotByValue_27 ?_
  refine rgN F w cl4 1 rfl 0 (by decide) q147 rfl (v := .ref ((ad 1) 1)) rfl dX6_lotByValue_30 ?_
  refine rgN F w cl3 2 rfl 0 (by decide) q66 rfl (v := .ref ((ad 1) 2)) rfl dX6_lotByValue_33 ?_
  refine lv_iload_n F.x F.b dX6_lotByValue_36 rfl (lv_at hl 0 rfl) ?_
  refine ri F w 3 (n := 16) (f := S.2 0) rfl (ib_nI hp (by omega)) dX6_lotByValue_37 ?_
  exact eiX F w hr hlocks rfl ⟨by rw [nI_clamp (by omega)], rfl⟩ (Nat.le_of_ble_eq_true rfl) (Nat.le_of_ble_eq_true rfl) dX6_lotByValue_38
set_option maxRecDepth 100000 in
set_option maxHeartbeats 4000000 in
theorem k_dutyOn_ok {G : cG} (g : GOK G) {ad : Nat → Nat → Nat} {svx : Value} {K S : Mem} {x1 rr : Int32} (hi : ¬ (x1 < 0 ∨ nI 9999 < x1)) (hq : f_X5_dutyByParts S x1 = some rr) : CX G yX6_dutyOn cX6_dutyOn 2 .int 2 46 0 0 [.ref ((ad 0) 0), .int x1] (fl [wXo G.2.1 (ad 0) (xF ad) svx K, wSh G.2.1 (ad 1) S]) (fun r9 w1 => r9 = rr ∧ w1 = fl [wXo G.2.1 (ad 0) (xF ad) svx K, wSh G.2.1 (ad 1) S]) (fun _ _ => False) := by
  refine CX.of g (by decide) rfl (Nat.le_of_ble_eq_true rfl) ?_
  intro p l e s m below meth c A ls hst htab F hr hlocks w hl
  generalize ([.ref ((ad 0) 0), .int x1] : List Value).toArray = args
  have hl : lv_has ls 2 [(0, .ref ((ad 0) 0)), (1, .int x1)] := hl
  have w : Wd G A s.heap (fl [wXo G.2.1 (ad 0) (xF ad) svx K, wSh G.2.1 (ad 1) S]) _ _ := w
  refine lv_iload_n F.x F.b dX6_dutyOn_0 rfl (lv_at hl 1 rfl) ?_
  refine kXSv F w hst (As := [.int x1]) (rest := []) (t_X6_checkValue_ok F.1 hi) m_X6_checkValue v_X6_checkValue q1319 ⟨Nat.le_of_ble_eq_true rfl, Nat.le_of_ble_eq_true rfl⟩ rfl hl.1 rfl (Nat.le_of_ble_eq_true rfl) dX6_dutyOn_1 ⟨Nat.le_of_ble_eq_true rfl, Nat.le_of_ble_eq_true rfl⟩ (fun _ _ _ _ _ _ hx => False.elim hx) (fun w1 H locs h9 w => ?_)
  obtain rfl := h9
  have w : Wd G A s.heap (fl [wXo G.2.1 (ad 0) (xF ad) svx K, wSh G.2.1 (ad 1) S]) _ _ := w
  refine lv_aload_n F.x F.b dX6_dutyOn_4 rfl (lv_at hl 0 rfl) ?_
  refine rg F w cl6 0 rfl 0 (by decide) q260 rfl (v := .ref ((ad 1) 0)) rfl dX6_dutyOn_5 ?_
  refine rgN F w cl4 1 rfl 1 (by decide) q149 rfl (v := .ref ((ad 1) 9)) rfl dX6_dutyOn_8 ?_
  refine lv_iload_n F.x F.b dX6_dutyOn_11 rfl (lv_at hl 1 rfl) ?_
  refine kXi F w hst (LC := [wSh G.2.1 (ad 1) S]) (LR := [wXo G.2.1 (ad 0) (xF ad) svx K]) (As := [.int x1]) (rest := []) (t_X5_dutyByParts F.1 hq).toX m_X5_dutyByParts v_X5_dutyByParts q1323 (ci := 9) (q0 := 10) rfl rfl rfl 2 [1, 0] rfl rfl rfl ⟨Nat.le_of_ble_eq_true rfl, Nat.le_of_ble_eq_true rfl⟩ rfl hl.1 rfl (Nat.le_of_ble_eq_true rfl) dX6_dutyOn_12 ⟨Nat.le_of_ble_eq_true rfl, Nat.le_of_ble_eq_true rfl⟩ (fun _ _ _ _ _ _ hx => False.elim hx) (fun r9 w1 H locs h9 w => ?_)
  obtain ⟨rfl, h9⟩ := h9
  have w := w.jn (L1 := [wSh G.2.1 (ad 1) S]) (L' := [wXo G.2.1 (ad 0) (xF ad) svx K, wSh G.2.1 (ad 1) S]) h9 2 [1, 0] rfl rfl rfl
  exact eiX F w hr hlocks rfl ⟨rfl, rfl⟩ (Nat.le_of_ble_eq_true rfl) (Nat.le_of_ble_eq_true rfl) dX6_dutyOn_15
set_option maxRecDepth 100000 in
set_option maxHeartbeats 4000000 in
theorem k_dutyOnByCoins_ok {G : cG} (g : GOK G) {ad : Nat → Nat → Nat} {svx : Value} {K S : Mem} {x1 rr : Int32} (hi : ¬ (x1 < 0 ∨ nI 9999 < x1)) (hq : f_X5_dutyByCoins S x1 = some rr) : CX G yX6_dutyOnByCoins cX6_dutyOnByCoins 2 .int 1 24 0 0 [.ref ((ad 0) 0), .int x1] (fl [wXo G.2.1 (ad 0) (xF ad) svx K, wSh G.2.1 (ad 1) S]) (fun r9 w1 => r9 = rr ∧ w1 = fl [wXo G.2.1 (ad 0) (xF ad) svx K, wSh G.2.1 (ad 1) S]) (fun _ _ => False) := by
  refine CX.of g (by decide) rfl (Nat.le_of_ble_eq_true rfl) ?_
  intro p l e s m below meth c A ls hst htab F hr hlocks w hl
  generalize ([.ref ((ad 0) 0), .int x1] : List Value).toArray = args
  have hl : lv_has ls 2 [(0, .ref ((ad 0) 0)), (1, .int x1)] := hl
  have w : Wd G A s.heap (fl [wXo G.2.1 (ad 0) (xF ad) svx K, wSh G.2.1 (ad 1) S]) _ _ := w
  refine lv_iload_n F.x F.b dX6_dutyOnByCoins_0 rfl (lv_at hl 1 rfl) ?_
  refine kXSv F w hst (As := [.int x1]) (rest := []) (t_X6_checkValue_ok F.1 hi) m_X6_checkValue v_X6_checkValue q1319 ⟨Nat.le_of_ble_eq_true rfl, Nat.le_of_ble_eq_true rfl⟩ rfl hl.1 rfl (Nat.le_of_ble_eq_true rfl) dX6_dutyOnByCoins_1 ⟨Nat.le_of_ble_eq_true rfl, Nat.le_of_ble_eq_true rfl⟩ (fun _ _ _ _ _ _ hx => False.elim hx) (fun w1 H locs h9 w => ?_)
  obtain rfl := h9
  have w : Wd G A s.heap (fl [wXo G.2.1 (ad 0) (xF ad) svx K, wSh G.2.1 (ad 1) S]) _ _ := w
  refine lv_aload_n F.x F.b dX6_dutyOnByCoins_4 rfl (lv_at hl 0 rfl) ?_
  refine rg F w cl6 0 rfl 0 (by decide) q260 rfl (v := .ref ((ad 1) 0)) rfl dX6_dutyOnByCoins_5 ?_
  refine rgN F w cl4 1 rfl 1 (by decide) q149 rfl (v := .ref ((ad 1) 9)) rfl dX6_dutyOnByCoins_8 ?_
  refine lv_iload_n F.x F.b dX6_dutyOnByCoins_11 rfl (lv_at hl 1 rfl) ?_
  refine kXi F w hst (LC := [wSh G.2.1 (ad 1) S]) (LR := [wXo G.2.1 (ad 0) (xF ad) svx K]) (As := [.int x1]) (rest := []) (t_X5_dutyByCoins F.1 hq).toX m_X5_dutyByCoins v_X5_dutyByCoins q1381 (ci := 9) (q0 := 10) rfl rfl rfl 2 [1, 0] rfl rfl rfl ⟨Nat.le_of_ble_eq_true rfl, Nat.le_of_ble_eq_true rfl⟩ rfl hl.1 rfl (Nat.le_of_ble_eq_true rfl) dX6_dutyOnByCoins_12 ⟨Nat.le_of_ble_eq_true rfl, Nat.le_of_ble_eq_true rfl⟩ (fun _ _ _ _ _ _ hx => False.elim hx) (fun r9 w1 H locs h9 w => ?_)
  obtain ⟨rfl, h9⟩ := h9
  have w := w.jn (L1 := [wSh G.2.1 (ad 1) S]) (L' := [wXo G.2.1 (ad 0) (xF ad) svx K, wSh G.2.1 (ad 1) S]) h9 2 [1, 0] rfl rfl rfl
  exact eiX F w hr hlocks rfl ⟨rfl, rfl⟩ (Nat.le_of_ble_eq_true rfl) (Nat.le_of_ble_eq_true rfl) dX6_dutyOnByCoins_15
set_option maxRecDepth 100000 in
set_option maxHeartbeats 4000000 in
theorem k_nextEmptyBay {G : cG} (g : GOK G) (gM : MG G) {ad : Nat → Nat → Nat} {svx : Value} {K S : Mem} {bb : Nat} (hb : bb < 24) (hE : ∀ y, y < 24 → f_X3_slotAt S (nI y) = some (-1) ∨ ∃ p, p < 16 ∧ f_X3_slotAt S (nI y) = some (nI p)) : CX G yX6_nextEmptyBay cX6_nextEmptyBay 3 .int 6 82 1 6 [.ref ((ad 0) 0), .int (nI bb)] (fl [wXo G.2.1 (ad 0) (xF ad) svx K, wSh G.2.1 (ad 1) S]) (fun r9 w1 => ∃ y, y < 24 ∧ f_X3_slotAt S (nI y) = some (-1) ∧ r9 = nI y ∧ w1 = fl [wXo G.2.1 (ad 0) (xF ad) svx K, wSh G.2.1 (ad 1) S]) (QE eNSE (fl [wXo G.2.1 (ad 0) (xF ad) svx K, wSh G.2.1 (ad 1) S])) := by
  refine CX.of g (by decide) rfl (Nat.le_of_ble_eq_true rfl) ?_
  intro p l e s m below meth c A ls hst htab F hr hlocks w hl
  generalize ([.ref ((ad 0) 0), .int (nI bb)] : List Value).toArray = args
  have hl : lv_has ls 3 [(0, .ref ((ad 0) 0)), (1, .int (nI bb))] := hl
  have w : Wd G A s.heap (fl [wXo G.2.1 (ad 0) (xF ad) svx K, wSh G.2.1 (ad 1) S]) _ _ := w
  refine lv_iload_n F.x F.b dX6_nextEmptyBay_0 rfl (lv_at hl 1 rfl) ?_
  refine lv_bipush (v := 24) F.x F.b dX6_nextEmptyBay_1 (by decide) ?_
  refine kXSv F w hst (As := [.int (nI bb), .int 24]) (rest := []) (t_X6_checkIndex_ok F.1 (fun q => q.elim (nI_pos (by omega)) (nI_ge (a := bb) (b := 24) hb (by omega)))) m_X6_checkIndex v_X6_checkIndex q447 ⟨Nat.le_of_ble_eq_true rfl, Nat.le_of_ble_eq_true rfl⟩ rfl hl.1 rfl (Nat.le_of_ble_eq_true rfl) dX6_nextEmptyBay_3 ⟨Nat.le_of_ble_eq_true rfl, Nat.le_of_ble_eq_true rfl⟩ (fun _ _ _ _ _ _ hx => False.elim hx) (fun w1 H locs h9 w => ?_)
  obtain rfl := h9
  have w : Wd G A s.heap (fl [wXo G.2.1 (ad 0) (xF ad) svx K, wSh G.2.1 (ad 1) S]) _ _ := w
  refine lv_iload_n F.x F.b dX6_nextEmptyBay_6 rfl (lv_at hl 1 rfl) ?_
  refine lv_istore_n (lv' := [(2, .int (nI bb)), (0, .ref ((ad 0) 0)), (1, .int (nI bb))]) F.x F.b dX6_nextEmptyBay_7 rfl hl (by decide) rfl (fun ls hl => ?_)
  have loop : ∀ (d y : Nat) (H : Heap) (locs : List Loc) (ls : Array Slot), y + d = 24 → Wd G A s.heap (fl [wXo G.2.1 (ad 0) (xF ad) svx K, wSh G.2.1 (ad 1) S]) H locs → lv_has ls 3 [(2, .int (nI y)), (0, .ref ((ad 0) 0)), (1, .int (nI bb))] → W p l e { frames := 6, cells := 1, slots := 6, locals := 82 } s m args below meth c H locs 0 0 (XI G A (fun r9 w1 => ∃ y, y < 24 ∧ f_X3_slotAt S (nI y) = some (-1) ∧ r9 = nI y ∧ w1 = fl [wXo G.2.1 (ad 0) (xF ad) svx K, wSh G.2.1 (ad 1) S]) (QE eNSE (fl [wXo G.2.1 (ad 0) (xF ad) svx K, wSh G.2.1 (ad 1) S])) 1 6 below args s) (F0 m 8 ls []) := by
    clear w hl
    intro d
    induction d with
    | zero =>
      intro y H locs ls hy w hl
      obtain rfl : y = 24 := by omega
      refine lv_iload_n F.x F.b dX6_nextEmptyBay_8 rfl (lv_at hl 0 rfl) ?_
      refine lv_bipush (v := 24) F.x F.b dX6_nextEmptyBay_9 (by decide) ?_
      refine lv_icmp_ge (tgt := 36) F.x F.b dX6_nextEmptyBay_11 (by decide) (fun _ => ?_) (fun c9 => absurd (show (24 : Int32) ≤ nI 24 by decide) c9)
      exact wTN F w gM hst htab hlocks (is := 134) (by decide +kernel : (134, "no empty bay from there on") ∈ msgs) (show QE eNSE (fl [wXo G.2.1 (ad 0) (xF ad) svx K, wSh G.2.1 (ad 1) S]) eNSE _ from ⟨rfl, rfl⟩) hl.1 dX6_nextEmptyBay_36 dX6_nextEmptyBay_39 dX6_nextEmptyBay_40 dX6_nextEmptyBay_42 dX6_nextEmptyBay_45 ⟨Nat.le_of_ble_eq_true rfl, Nat.le_of_ble_eq_true rfl, Nat.le_of_ble_eq_true rfl, Nat.le_of_ble_eq_true rfl⟩ ⟨Nat.le_of_ble_eq_true rfl, Nat.le_of_ble_eq_true rfl⟩
    | succ d ih =>
      intro y H locs ls hy w hl
      rcases hE y (by omega) with hq | ⟨pp, hp, hq⟩
      · refine lv_iload_n F.x F.b dX6_nextEmptyBay_8 rfl (lv_at hl 0 rfl) ?_
        refine lv_bipush (v := 24) F.x F.b dX6_nextEmptyBay_9 (by decide) ?_
        refine lv_icmp_ge (tgt := 36) F.x F.b dX6_nextEmptyBay_11 (by decide) (fun c9 => absurd c9 (show ¬ (24 : Int32) ≤ nI y from nI_ge (a := y) (b := 24) (by omega) (by omega))) (fun _ => ?_)
        refine lv_aload_n F.x F.b dX6_nextEmptyBay_14 rfl (lv_at hl 1 rfl) ?_
        refine rg F w cl6 0 rfl 0 (by decide) q260 rfl (v := .ref ((ad 1) 0)) rfl dX6_nextEmptyBay_15 ?_
        refine rgN F w cl4 1 rfl 0 (by decide) q147 rfl (v := .ref ((ad 1) 1)) rfl dX6_nextEmptyBay_18 ?_
        refine lv_iload_n F.x F.b dX6_nextEmptyBay_21 rfl (lv_at hl 0 rfl) ?_
        refine kXi F w hst (LC := [wSh G.2.1 (ad 1) S]) (LR := [wXo G.2.1 (ad 0) (xF ad) svx K]) (As := [.int (nI y)]) (rest := []) (t_X3_slotAt F.1 hq).toX m_X3_slotAt v_X3_slotAt q1339 (ci := 7) (q0 := 2) rfl rfl rfl 2 [1, 0] rfl rfl rfl ⟨Nat.le_of_ble_eq_true rfl, Nat.le_of_ble_eq_true rfl⟩ rfl hl.1 rfl (Nat.le_of_ble_eq_true rfl) dX6_nextEmptyBay_22 ⟨Nat.le_of_ble_eq_true rfl, Nat.le_of_ble_eq_true rfl⟩ (fun _ _ _ _ _ _ hx => False.elim hx) (fun r9 w1 H locs h9 w => ?_)
        obtain ⟨rfl, h9⟩ := h9
        have w := w.jn (L1 := [wSh G.2.1 (ad 1) S]) (L' := [wXo G.2.1 (ad 0) (xF ad) svx K, wSh G.2.1 (ad 1) S]) h9 2 [1, 0] rfl rfl rfl
        refine lv_if_ge (tgt := 30) F.x F.b dX6_nextEmptyBay_25 (by decide) (fun c9 => absurd c9 (by decide)) (fun _ => ?_)
        refine lv_iload_n F.x F.b dX6_nextEmptyBay_28 rfl (lv_at hl 0 rfl) ?_
        exact eiX F w hr hlocks rfl ⟨y, by omega, hq, rfl, rfl⟩ (Nat.le_of_ble_eq_true rfl) (Nat.le_of_ble_eq_true rfl) dX6_nextEmptyBay_29
      · refine lv_iload_n F.x F.b dX6_nextEmptyBay_8 rfl (lv_at hl 0 rfl) ?_
        refine lv_bipush (v := 24) F.x F.b dX6_nextEmptyBay_9 (by decide) ?_
        refine lv_icmp_ge (tgt := 36) F.x F.b dX6_nextEmptyBay_11 (by decide) (fun c9 => absurd c9 (show ¬ (24 : Int32) ≤ nI y from nI_ge (a := y) (b := 24) (by omega) (by omega))) (fun _ => ?_)
        refine lv_aload_n F.x F.b dX6_nextEmptyBay_14 rfl (lv_at hl 1 rfl) ?_
        refine rg F w cl6 0 rfl 0 (by decide) q260 rfl (v := .ref ((ad 1) 0)) rfl dX6_nextEmptyBay_15 ?_
        refine rgN F w cl4 1 rfl 0 (by decide) q147 rfl (v := .ref ((ad 1) 1)) rfl dX6_nextEmptyBay_18 ?_
        refine lv_iload_n F.x F.b dX6_nextEmptyBay_21 rfl (lv_at hl 0 rfl) ?_
        refine kXi F w hst (LC := [wSh G.2.1 (ad 1) S]) (LR := [wXo G.2.1 (ad 0) (xF ad) svx K]) (As := [.int (nI y)]) (rest := []) (t_X3_slotAt F.1 hq).toX m_X3_slotAt v_X3_slotAt q1339 (ci := 7) (q0 := 2) rfl rfl rfl 2 [1, 0] rfl rfl rfl ⟨Nat.le_of_ble_eq_true rfl, Nat.le_of_ble_eq_true rfl⟩ rfl hl.1 rfl (Nat.le_of_ble_eq_true rfl) dX6_nextEmptyBay_22 ⟨Nat.le_of_ble_eq_true rfl, Nat.le_of_ble_eq_true rfl⟩ (fun _ _ _ _ _ _ hx => False.elim hx) (fun r9 w1 H locs h9 w => ?_)
        obtain ⟨rfl, h9⟩ := h9
        have w := w.jn (L1 := [wSh G.2.1 (ad 1) S]) (L' := [wXo G.2.1 (ad 0) (xF ad) svx K, wSh G.2.1 (ad 1) S]) h9 2 [1, 0] rfl rfl rfl
        refine lv_if_ge (tgt := 30) F.x F.b dX6_nextEmptyBay_25 (by decide) (fun _ => ?_) (fun c9 => absurd (nI_pos' (n := pp) (by omega)) c9)
        refine lv_iinc (v := ((nI y) + 1)) (lv' := [(2, .int ((nI y) + 1)), (0, .ref ((ad 0) 0)), (1, .int (nI bb))]) F.x F.b dX6_nextEmptyBay_30 hl (k := 0) rfl rfl (by decide) rfl (fun ls hl => ?_)
        refine lv_goto (tgt := 8) F.x F.b dX6_nextEmptyBay_33 (by decide) ?_
        rw [nI_1] at hl
        exact ih (y + 1) _ _ _ (by omega) w hl
  exact loop (24 - bb) bb _ _ _ (by omega) w hl
set_option maxRecDepth 100000 in
set_option maxHeartbeats 4000000 in
theorem k_undoCount {G : cG} (g : GOK G) {ad : Nat → Nat → Nat} {svx : Value} {K : Mem} {cu ct : Nat} {hs : hS} : CX G yX6_undoCount cX6_undoCount 1 .int 0 0 0 0 [.ref ((ad 0) 0)] (fl [wXo G.2.1 (ad 0) (xF ad) svx K, wHo G.2.1 (ad 3) cu ct hs]) (fun r9 w1 => r9 = nI ct ∧ w1 = fl [wXo G.2.1 (ad 0) (xF ad) svx K, wHo G.2.1 (ad 3) cu ct hs]) (fun _ _ => False) := by
  refine CX.of g (by decide) rfl (Nat.le_of_ble_eq_true rfl) ?_
  intro p l e s m below meth c A ls hst htab F hr hlocks w hl
  generalize ([.ref ((ad 0) 0)] : List Value).toArray = args
  have hl : lv_has ls 1 [(0, .ref ((ad 0) 0))] := hl
  have w : Wd G A s.heap (fl [wXo G.2.1 (ad 0) (xF ad) svx K, wHo G.2.1 (ad 3) cu ct hs]) _ _ := w
  refine lv_aload_n F.x F.b dX6_undoCount_0 rfl (lv_at hl 0 rfl) ?_
  refine rg F w cl6 0 rfl 2 (by decide) q262 rfl (v := .ref ((ad 3) 0)) rfl dX6_undoCount_1 ?_
  refine rgN F w cl2 1 rfl 2 (by decide) q186 rfl (v := .int (nI ct)) rfl dX6_undoCount_4 ?_
  exact eiX F w hr hlocks rfl ⟨rfl, rfl⟩ (Nat.le_of_ble_eq_true rfl) (Nat.le_of_ble_eq_true rfl) dX6_undoCount_7
set_option maxRecDepth 100000 in
set_option maxHeartbeats 4000000 in
theorem k_dampAfter_ok {G : cG} (g : GOK G) {ad : Nat → Nat → Nat} {svx : Value} {K S Fc F1 F2 : Mem} {nn : Nat} {rr : Int32} (n2 : nn ≤ 30) (hq1 : f_X4_copyFrom Fc S = some F1) (hq2 : nn = 0 → F2 = F1) (hq3 : nn ≠ 0 → ∃ z, f_X4_letPass F1 (nI nn) = some (z, F2)) (hq4 : f_X3_countDamp F2 = some rr) : CX G yX6_dampAfter cX6_dampAfter 2 .int 5 111 0 0 [.ref ((ad 0) 0), .int (nI nn)] (fl [wXo G.2.1 (ad 0) (xF ad) svx K, wSh G.2.1 (ad 1) S, wSh G.2.1 (ad 2) Fc]) (fun r9 w1 => r9 = rr ∧ w1 = fl [wXo G.2.1 (ad 0) (xF ad) svx K, wSh G.2.1 (ad 1) S, wSh G.2.1 (ad 2) F2]) (fun _ _ => False) := by
  refine CX.of g (by decide) rfl (Nat.le_of_ble_eq_true rfl) ?_
  intro p l e s m below meth c A ls hst htab F hr hlocks w hl
  generalize ([.ref ((ad 0) 0), .int (nI nn)] : List Value).toArray = args
  have hl : lv_has ls 2 [(0, .ref ((ad 0) 0)), (1, .int (nI nn))] := hl
  have w : Wd G A s.heap (fl [wXo G.2.1 (ad 0) (xF ad) svx K, wSh G.2.1 (ad 1) S, wSh G.2.1 (ad 2) Fc]) _ _ := w
  refine lv_iload_n F.x F.b dX6_dampAfter_0 rfl (lv_at hl 1 rfl) ?_
  refine lv_if_lt (tgt := 10) F.x F.b dX6_dampAfter_1 (by decide) (fun c9 => absurd c9 (nI_pos (n := nn) (by omega))) (fun _ => ?_)
  refine lv_iload_n F.x F.b dX6_dampAfter_4 rfl (lv_at hl 1 rfl) ?_
  refine lv_bipush (v := 30) F.x F.b dX6_dampAfter_5 (by decide) ?_
  refine lv_icmp_le (tgt := 20) F.x F.b dX6_dampAfter_7 (by decide) (fun _ => ?_) (fun c9 => absurd (show nI nn ≤ (30 : Int32) from nI_le (a := nn) (b := 30) n2 (by omega)) c9)
  refine lv_aload_n F.x F.b dX6_dampAfter_20 rfl (lv_at hl 0 rfl) ?_
  refine rg F w cl6 0 rfl 1 (by decide) q261 rfl (v := .ref ((ad 2) 0)) rfl dX6_dampAfter_21 ?_
  refine lv_aload_n F.x F.b dX6_dampAfter_24 rfl (lv_at hl 0 rfl) ?_
  refine rg F w cl6 0 rfl 0 (by decide) q260 rfl (v := .ref ((ad 1) 0)) rfl dX6_dampAfter_25 ?_
  refine kXv F w hst (LC := [wSh G.2.1 (ad 2) Fc, wSh G.2.1 (ad 1) S]) (LR := [wXo G.2.1 (ad 0) (xF ad) svx K]) (As := [.ref ((ad 1) 0)]) (rest := []) (t_X4_copyFrom F.1 hq1).toX m_X4_copyFrom v_X4_copyFrom q542 (ci := 8) (q0 := 15) rfl rfl rfl 3 [2, 1, 0] rfl rfl rfl ⟨Nat.le_of_ble_eq_true rfl, Nat.le_of_ble_eq_true rfl⟩ rfl hl.1 rfl (Nat.le_of_ble_eq_true rfl) dX6_dampAfter_28 ⟨Nat.le_of_ble_eq_true rfl, Nat.le_of_ble_eq_true rfl⟩ (fun _ _ _ _ _ _ hx => False.elim hx) (fun w1 H locs h9 w => ?_)
  have w := w.jn (L1 := [wSh G.2.1 (ad 2) F1, wSh G.2.1 (ad 1) S]) (L' := [wXo G.2.1 (ad 0) (xF ad) svx K, wSh G.2.1 (ad 1) S, wSh G.2.1 (ad 2) F1]) h9 3 [2, 1, 0] rfl rfl rfl
  have w : Wd G A s.heap (fl [wXo G.2.1 (ad 0) (xF ad) svx K, wSh G.2.1 (ad 1) S, wSh G.2.1 (ad 2) F1]) _ _ := w
  refine lv_iload_n F.x F.b dX6_dampAfter_31 rfl (lv_at hl 1 rfl) ?_
  by_cases hn0 : nn = 0
  · refine lv_if_le (tgt := 44) F.x F.b dX6_dampAfter_32 (by decide) (fun _ => ?_) (fun c9 => absurd (show nI nn ≤ 0 by rw [hn0]; decide) c9)
    rw [← hq2 hn0] at w
    have w : Wd G A s.heap (fl [wXo G.2.1 (ad 0) (xF ad) svx K, wSh G.2.1 (ad 1) S, wSh G.2.1 (ad 2) F2]) _ _ := w
    refine lv_aload_n F.x F.b dX6_dampAfter_44 rfl (lv_at hl 0 rfl) ?_
    refine rg F w cl6 0 rfl 1 (by decide) q261 rfl (v := .ref ((ad 2) 0)) rfl dX6_dampAfter_45 ?_
    refine rgN F w cl4 15 rfl 0 (by decide) q147 rfl (v := .ref ((ad 2) 1)) rfl dX6_dampAfter_48 ?_
    refine kXi F w hst (LC := [wSh G.2.1 (ad 2) F2]) (LR := [wXo G.2.1 (ad 0) (xF ad) svx K, wSh G.2.1 (ad 1) S]) (As := []) (rest := []) (t_X3_countDamp F.1 hq4).toX m_X3_countDamp v_X3_countDamp q299 (ci := 7) (q0 := 16) rfl rfl rfl 3 [2, 0, 1] rfl rfl rfl ⟨Nat.le_of_ble_eq_true rfl, Nat.le_of_ble_eq_true rfl⟩ rfl hl.1 rfl (Nat.le_of_ble_eq_true rfl) dX6_dampAfter_51 ⟨Nat.le_of_ble_eq_true rfl, Nat.le_of_ble_eq_true rfl⟩ (fun _ _ _ _ _ _ hx => False.elim hx) (fun r9 w1 H locs h9 w => ?_)
    obtain ⟨rfl, h9⟩ := h9
    have w := w.jn (L1 := [wSh G.2.1 (ad 2) F2]) (L' := [wXo G.2.1 (ad 0) (xF ad) svx K, wSh G.2.1 (ad 1) S, wSh G.2.1 (ad 2) F2]) h9 3 [1, 2, 0] rfl rfl rfl
    exact eiX F w hr hlocks rfl ⟨rfl, rfl⟩ (Nat.le_of_ble_eq_true rfl) (Nat.le_of_ble_eq_true rfl) dX6_dampAfter_54
  · obtain ⟨zz, hz⟩ := hq3 hn0
    refine lv_if_le (tgt := 44) F.x F.b dX6_dampAfter_32 (by decide) (fun c9 => absurd c9 (nI_nle (n := nn) (by omega) (by omega))) (fun _ => ?_)
    refine lv_aload_n F.x F.b dX6_dampAfter_35 rfl (lv_at hl 0 rfl) ?_
    refine rg F w cl6 0 rfl 1 (by decide) q261 rfl (v := .ref ((ad 2) 0)) rfl dX6_dampAfter_36 ?_
    refine lv_iload_n F.x F.b dX6_dampAfter_39 rfl (lv_at hl 1 rfl) ?_
    refine kXi F w hst (LC := [wSh G.2.1 (ad 2) F1]) (LR := [wXo G.2.1 (ad 0) (xF ad) svx K, wSh G.2.1 (ad 1) S]) (As := [.int (nI nn)]) (rest := []) (t_X4_letPass F.1 hz).toX m_X4_letPass v_X4_letPass q562 (ci := 8) (q0 := 15) rfl rfl rfl 3 [2, 0, 1] rfl rfl rfl ⟨Nat.le_of_ble_eq_true rfl, Nat.le_of_ble_eq_true rfl⟩ rfl hl.1 rfl (Nat.le_of_ble_eq_true rfl) dX6_dampAfter_40 ⟨Nat.le_of_ble_eq_true rfl, Nat.le_of_ble_eq_true rfl⟩ (fun _ _ _ _ _ _ hx => False.elim hx) (fun r9 w1 H locs h9 w => ?_)
    obtain ⟨rfl, h9⟩ := h9
    have w := w.jn (L1 := [wSh G.2.1 (ad 2) F2]) (L' := [wXo G.2.1 (ad 0) (xF ad) svx K, wSh G.2.1 (ad 1) S, wSh G.2.1 (ad 2) F2]) h9 3 [1, 2, 0] rfl rfl rfl
    have w : Wd G A s.heap (fl [wXo G.2.1 (ad 0) (xF ad) svx K, wSh G.2.1 (ad 1) S, wSh G.2.1 (ad 2) F2]) _ _ := w
    refine lv_pop F.x F.b dX6_dampAfter_43 rfl ?_
    refine lv_aload_n F.x F.b dX6_dampAfter_44 rfl (lv_at hl 0 rfl) ?_
    refine rg F w cl6 0 rfl 1 (by decide) q261 rfl (v := .ref ((ad 2) 0)) rfl dX6_dampAfter_45 ?_
    refine rgN F w cl4 15 rfl 0 (by decide) q147 rfl (v := .ref ((ad 2) 1)) rfl dX6_dampAfter_48 ?_
    refine kXi F w hst (LC := [wSh G.2.1 (ad 2) F2]) (LR := [wXo G.2.1 (ad 0) (xF ad) svx K, wSh G.2.1 (ad 1) S]) (As := []) (rest := []) (t_X3_countDamp F.1 hq4).toX m_X3_countDamp v_X3_countDamp q299 (ci := 7) (q0 := 16) rfl rfl rfl 3 [2, 0, 1] rfl rfl rfl ⟨Nat.le_of_ble_eq_true rfl, Nat.le_of_ble_eq_true rfl⟩ rfl hl.1 rfl (Nat.le_of_ble_eq_true rfl) dX6_dampAfter_51 ⟨Nat.le_of_ble_eq_true rfl, Nat.le_of_ble_eq_true rfl⟩ (fun _ _ _ _ _ _ hx => False.elim hx) (fun r9 w1 H locs h9 w => ?_)
    obtain ⟨rfl, h9⟩ := h9
    have w := w.jn (L1 := [wSh G.2.1 (ad 2) F2]) (L' := [wXo G.2.1 (ad 0) (xF ad) svx K, wSh G.2.1 (ad 1) S, wSh G.2.1 (ad 2) F2]) h9 3 [1, 2, 0] rfl rfl rfl
    exact eiX F w hr hlocks rfl ⟨rfl, rfl⟩ (Nat.le_of_ble_eq_true rfl) (Nat.le_of_ble_eq_true rfl) dX6_dampAfter_54

/-! printed by wip/whole/tools/gen91.py: the asks -/
theorem q107 : Cond.fieldLinkNest RX6 95 "CustomsShed$Lots" "ids" "[I" "CustomsShed" ∈ lw_tbl := List.mem_of_getElem? (i := 107) (by decide +kernel)
theorem q110 : Cond.fieldLinkNest RX6 98 "CustomsShed$Lots" "kinds" "[C" "CustomsShed" ∈ lw_tbl := List.mem_of_getElem? (i := 110) (by decide +kernel)
theorem q112 : Cond.fieldLinkNest RX6 105 "CustomsShed$Lots" "quantities" "[I" "CustomsShed" ∈ lw_tbl := List.mem_of_getElem? (i := 112) (by decide +kernel)
theorem q115 : Cond.fieldLinkNest RX6 108 "CustomsShed$Lots" "prices" "[I" "CustomsShed" ∈ lw_tbl := List.mem_of_getElem? (i := 115) (by decide +kernel)
theorem q118 : Cond.fieldLinkNest RX6 114 "CustomsShed$Lots" "bays" "[I" "CustomsShed" ∈ lw_tbl := List.mem_of_getElem? (i := 118) (by decide +kernel)
theorem q121 : Cond.fieldLinkNest RX6 117 "CustomsShed$Lots" "underSeal" "[Z" "CustomsShed" ∈ lw_tbl := List.mem_of_getElem? (i := 121) (by decide +kernel)
theorem q124 : Cond.fieldLinkNest RX6 121 "CustomsShed$Lots" "damp" "[Z" "CustomsShed" ∈ lw_tbl := List.mem_of_getElem? (i := 124) (by decide +kernel)
theorem q158 : Cond.fieldLinkNest RX6 170 "CustomsShed$Tariff" "thresholds" "[I" "CustomsShed" ∈ lw_tbl := List.mem_of_getElem? (i := 158) (by decide +kernel)
theorem q160 : Cond.fieldLinkNest RX6 173 "CustomsShed$Tariff" "rates" "[I" "CustomsShed" ∈ lw_tbl := List.mem_of_getElem? (i := 160) (by decide +kernel)
theorem q178 : Cond.fieldLinkNest RX6 235 "CustomsShed$AuditQueue" "ids" "[I" "CustomsShed" ∈ lw_tbl := List.mem_of_getElem? (i := 178) (by decide +kernel)
theorem q227 : Cond.fieldLinkNest RX6 325 "CustomsShed$History" "count" "I" "CustomsShed" ∈ lw_tbl := List.mem_of_getElem? (i := 227) (by decide +kernel)
theorem q309 : Cond.fieldLink RX6 50 "CustomsShed" "keptErrorPosition" "I" ∈ lw_tbl := List.mem_of_getElem? (i := 309) (by decide +kernel)
theorem q310 : Cond.fieldLink RX6 54 "CustomsShed" "keptFailedCommand" "I" ∈ lw_tbl := List.mem_of_getElem? (i := 310) (by decide +kernel)
theorem q1037 : Cond.methodLink RX6 91 yX6_checkIndex ∈ lw_tbl := List.mem_of_getElem? (i := 1037) (by decide +kernel)
theorem q1047 : Cond.methodLink RX6 102 yX6_slotOf ∈ lw_tbl := List.mem_of_getElem? (i := 1047) (by decide +kernel)
theorem q1078 : Cond.methodLink RX6 111 yX3_valueOf ∈ lw_tbl := List.mem_of_getElem? (i := 1078) (by decide +kernel)
theorem q1107 : Cond.methodLink RX6 124 yX3_slotAt ∈ lw_tbl := List.mem_of_getElem? (i := 1107) (by decide +kernel)
theorem q1124 : Cond.methodLink RX6 136 yX6_isKind ∈ lw_tbl := List.mem_of_getElem? (i := 1124) (by decide +kernel)
theorem q1127 : Cond.methodLink RX6 145 yX3_quantityOf ∈ lw_tbl := List.mem_of_getElem? (i := 1127) (by decide +kernel)
theorem q1138 : Cond.methodLink RX6 149 yX3_slotByValue ∈ lw_tbl := List.mem_of_getElem? (i := 1138) (by decide +kernel)
theorem q1196 : Cond.methodLink RX6 176 yX6_checkValue ∈ lw_tbl := List.mem_of_getElem? (i := 1196) (by decide +kernel)
theorem q1200 : Cond.methodLink RX6 180 yX5_dutyByParts ∈ lw_tbl := List.mem_of_getElem? (i := 1200) (by decide +kernel)
theorem q1208 : Cond.methodLink RX6 183 yX5_dutyByCoins ∈ lw_tbl := List.mem_of_getElem? (i := 1208) (by decide +kernel)
theorem q1216 : Cond.methodLink RX6 186 yX4_dutyOf ∈ lw_tbl := List.mem_of_getElem? (i := 1216) (by decide +kernel)
theorem m_X6_slotOf : YM yX6_slotOf cX6_slotOf 3 (some (.int)) 1 := ⟨⟨List.mem_of_getElem? (i := 1050) (by decide +kernel), by decide +kernel⟩, List.mem_of_getElem? (i := 55) (by decide +kernel), ⟨by decide, by decide⟩, by decide +kernel⟩
theorem v_X6_slotOf : YV yX6_slotOf := ⟨(List.mem_of_getElem? (i := 1049) (by decide +kernel)), List.mem_of_getElem? (i := 5) (by decide +kernel)⟩
theorem m_X6_checkIndex : YM yX6_checkIndex cX6_checkIndex 2 (none) 2 := ⟨⟨List.mem_of_getElem? (i := 1039) (by decide +kernel), by decide +kernel⟩, List.mem_of_getElem? (i := 55) (by decide +kernel), ⟨by decide, by decide⟩, by decide +kernel⟩
theorem v_X6_checkIndex : YS yX6_checkIndex := (List.mem_of_getElem? (i := 1038) (by decide +kernel))
theorem m_X3_quantityOf : YM yX3_quantityOf cX3_quantityOf 4 (some (.int)) 1 := ⟨⟨List.mem_of_getElem? (i := 1130) (by decide +kernel), by decide +kernel⟩, List.mem_of_getElem? (i := 57) (by decide +kernel), ⟨by decide, by decide⟩, by decide +kernel⟩
theorem v_X3_quantityOf : YV yX3_quantityOf := ⟨(List.mem_of_getElem? (i := 1128) (by decide +kernel)), List.mem_of_getElem? (i := 1129) (by decide +kernel)⟩
theorem m_X3_slotByValue : YM yX3_slotByValue cX3_slotByValue 3 (some (.int)) 1 := ⟨⟨List.mem_of_getElem? (i := 1141) (by decide +kernel), by decide +kernel⟩, List.mem_of_getElem? (i := 57) (by decide +kernel), ⟨by decide, by decide⟩, by decide +kernel⟩
theorem v_X3_slotByValue : YV yX3_slotByValue := ⟨(List.mem_of_getElem? (i := 1139) (by decide +kernel)), List.mem_of_getElem? (i := 1140) (by decide +kernel)⟩
theorem m_X6_checkValue : YM yX6_checkValue cX6_checkValue 1 (none) 1 := ⟨⟨List.mem_of_getElem? (i := 1198) (by decide +kernel), by decide +kernel⟩, List.mem_of_getElem? (i := 55) (by decide +kernel), ⟨by decide, by decide⟩, by decide +kernel⟩
theorem v_X6_checkValue : YS yX6_checkValue := (List.mem_of_getElem? (i := 1197) (by decide +kernel))
theorem trf_le {N : Nat} {S : Mem} {f : Nat → Int32} (s : St N S f) {m : Nat} (e : S.1 2 = nI m) (hm : m ≤ 16 := by omega) : m ≤ 6 := by
  obtain ⟨c, t, q, R, -⟩ := s
  have h1 := R.t1
  have h2 := R.t
  rw [e] at h1
  have := (nI_eq (by omega) (by omega)).mp h1
  omega
set_option maxRecDepth 100000 in
set_option maxHeartbeats 4000000 in
theorem k_kind {G : cG} (g : GOK G) (gM : MG G) {ad : Nat → Nat → Nat} {N : Nat} {K S Fc C D B : Mem} {cu ct : Nat} {hs : hS} {sv : sV} {ou : oB} {M : Mem} {x1 : Int32} (h : Top N K S C cu ct hs sv ou M) : KT G ad N yX6_kind cX6_kind 2 .char [.ref ((ad 0) 0), .int x1] (fl (wTop G.2.1 ad K S Fc C D B cu ct hs sv ou)) [(eNSE, 1)] (f_X7_kind M x1) := by
  rcases q_kind h.1 x1 with ⟨hq, b9, M', e2, e3, e4⟩ | ⟨pp, hp, hq, M', e2, e3, e4⟩
  · refine CX.of g (by decide) rfl (Nat.le_of_ble_eq_true rfl) ?_
    intro p l e s m below meth c A ls hst htab F hr hlocks w hl
    generalize ([.ref ((ad 0) 0), .int x1] : List Value).toArray = args
    have hl : lv_has ls 2 [(0, .ref ((ad 0) 0)), (1, .int x1)] := hl
    have w : Wd G A s.heap (fl [wXo G.2.1 (ad 0) (xF ad) (svV sv) K, wSh G.2.1 (ad 1) S, wSh G.2.1 (ad 2) Fc, wTe G.2.1 (ad 4) C, wSb G.2.1 (ad 5) ou, wAd G.2.1 (ad 6) D, wAb G.2.1 (ad 7) B, wHo G.2.1 (ad 3) cu ct hs, hsL G.2.1 hs, blk G.2.1 sv]) _ _ := w
    refine lv_aload_n F.x F.b dX6_kind_0 rfl (lv_at hl 0 rfl) ?_
    refine rg F w cl6 0 rfl 0 (by decide) q301 rfl (v := .ref ((ad 1) 0)) rfl dX6_kind_1 ?_
    refine rgN F w cl4 1 rfl 0 (by decide) q188 rfl (v := .ref ((ad 1) 1)) rfl dX6_kind_4 ?_
    refine rgN F w cl3 2 rfl 1 (by decide) q110 rfl (v := .ref ((ad 1) 3)) rfl dX6_kind_7 ?_
    refine lv_aload_n F.x F.b dX6_kind_10 rfl (lv_at hl 0 rfl) ?_
    refine lv_iload_n F.x F.b dX6_kind_11 rfl (lv_at hl 1 rfl) ?_
    refine kXi F w hst (LC := [wXo G.2.1 (ad 0) (xF ad) (svV sv) K, wSh G.2.1 (ad 1) S]) (LR := [wSh G.2.1 (ad 2) Fc, wTe G.2.1 (ad 4) C, wSb G.2.1 (ad 5) ou, wAd G.2.1 (ad 6) D, wAb G.2.1 (ad 7) B, wHo G.2.1 (ad 3) cu ct hs, hsL G.2.1 hs, blk G.2.1 sv]) (As := [.int x1]) (rest := [.ref ((ad 1) 3)]) (t_X6_slotOf_no F.1 hq gM) m_X6_slotOf v_X6_slotOf q1047 (ci := 10) (q0 := 0) rfl rfl rfl 10 [0, 1, 2, 3, 4, 5, 6, 7, 8, 9] rfl rfl rfl ⟨Nat.le_of_ble_eq_true rfl, Nat.le_of_ble_eq_true rfl⟩ rfl hl.1 rfl (Nat.le_of_ble_eq_true rfl) dX6_kind_12 ⟨Nat.le_of_ble_eq_true rfl, Nat.le_of_ble_eq_true rfl⟩ (fun E w1 ce q H locs hx w hce hcv hcl => by obtain ⟨rfl, hx⟩ := hx; exact exX (w.jn (L1 := [wXo G.2.1 (ad 0) (xF ad) (svV sv) K, wSh G.2.1 (ad 1) S]) (L' := [wXo G.2.1 (ad 0) (xF ad) (svV sv) K, wSh G.2.1 (ad 1) S, wSh G.2.1 (ad 2) Fc, wTe G.2.1 (ad 4) C, wSb G.2.1 (ad 5) ou, wAd G.2.1 (ad 6) D, wAb G.2.1 (ad 7) B, wHo G.2.1 (ad 3) cu ct hs, hsL G.2.1 hs, blk G.2.1 sv]) hx 10 [0, 1, 2, 3, 4, 5, 6, 7, 8, 9] rfl rfl rfl) htab hlocks hce hcv hcl ⟨K, S, Fc, C, D, B, cu, ct, hs, sv, ou, M', b9, 1, rfl, e2, e3, List.mem_cons_self, h.ask e4⟩ (Nat.le_of_ble_eq_true rfl) (Nat.le_of_ble_eq_true rfl)) (fun r9 w1 H locs h9 w => ?_)
    exact False.elim h9
  · refine CX.of g (by decide) rfl (Nat.le_of_ble_eq_true rfl) ?_
    intro p l e s m below meth c A ls hst htab F hr hlocks w hl
    generalize ([.ref ((ad 0) 0), .int x1] : List Value).toArray = args
    have hl : lv_has ls 2 [(0, .ref ((ad 0) 0)), (1, .int x1)] := hl
    have w : Wd G A s.heap (fl [wXo G.2.1 (ad 0) (xF ad) (svV sv) K, wSh G.2.1 (ad 1) S, wSh G.2.1 (ad 2) Fc, wTe G.2.1 (ad 4) C, wSb G.2.1 (ad 5) ou, wAd G.2.1 (ad 6) D, wAb G.2.1 (ad 7) B, wHo G.2.1 (ad 3) cu ct hs, hsL G.2.1 hs, blk G.2.1 sv]) _ _ := w
    refine lv_aload_n F.x F.b dX6_kind_0 rfl (lv_at hl 0 rfl) ?_
    refine rg F w cl6 0 rfl 0 (by decide) q301 rfl (v := .ref ((ad 1) 0)) rfl dX6_kind_1 ?_
    refine rgN F w cl4 1 rfl 0 (by decide) q188 rfl (v := .ref ((ad 1) 1)) rfl dX6_kind_4 ?_
    refine rgN F w cl3 2 rfl 1 (by decide) q110 rfl (v := .ref ((ad 1) 3)) rfl dX6_kind_7 ?_
    refine lv_aload_n F.x F.b dX6_kind_10 rfl (lv_at hl 0 rfl) ?_
    refine lv_iload_n F.x F.b dX6_kind_11 rfl (lv_at hl 1 rfl) ?_
    refine kXi F w hst (LC := [wXo G.2.1 (ad 0) (xF ad) (svV sv) K, wSh G.2.1 (ad 1) S]) (LR := [wSh G.2.1 (ad 2) Fc, wTe G.2.1 (ad 4) C, wSb G.2.1 (ad 5) ou, wAd G.2.1 (ad 6) D, wAb G.2.1 (ad 7) B, wHo G.2.1 (ad 3) cu ct hs, hsL G.2.1 hs, blk G.2.1 sv]) (As := [.int x1]) (rest := [.ref ((ad 1) 3)]) (t_X6_slotOf_ok F.1 hq hp) m_X6_slotOf v_X6_slotOf q1047 (ci := 10) (q0 := 0) rfl rfl rfl 10 [0, 1, 2, 3, 4, 5, 6, 7, 8, 9] rfl rfl rfl ⟨Nat.le_of_ble_eq_true rfl, Nat.le_of_ble_eq_true rfl⟩ rfl hl.1 rfl (Nat.le_of_ble_eq_true rfl) dX6_kind_12 ⟨Nat.le_of_ble_eq_true rfl, Nat.le_of_ble_eq_true rfl⟩ (fun _ _ _ _ _ _ hx => False.elim hx) (fun r9 w1 H locs h9 w => ?_)
    obtain ⟨rfl, h9⟩ := h9
    have w := w.jn (L1 := [wXo G.2.1 (ad 0) (xF ad) (svV sv) K, wSh G.2.1 (ad 1) S]) (L' := [wXo G.2.1 (ad 0) (xF ad) (svV sv) K, wSh G.2.1 (ad 1) S, wSh G.2.1 (ad 2) Fc, wTe G.2.1 (ad 4) C, wSb G.2.1 (ad 5) ou, wAd G.2.1 (ad 6) D, wAb G.2.1 (ad 7) B, wHo G.2.1 (ad 3) cu ct hs, hsL G.2.1 hs, blk G.2.1 sv]) h9 10 [0, 1, 2, 3, 4, 5, 6, 7, 8, 9] rfl rfl rfl
    refine rc F w 4 (n := 16) (f := S.2 1) rfl (ib_nI hp (by omega)) dX6_kind_15 ?_
    exact eiX F w hr hlocks (nar_char (by obtain ⟨n9, n1, n2, e9⟩ := (slot_ok h.1 hp hq).1; rw [nI_clamp (by omega), e9]; exact vnc (by omega))) ⟨K, S, Fc, C, D, B, cu, ct, hs, sv, ou, M', rfl, (by rw [nI_clamp (by omega)]; exact e2), e3, h.ask e4⟩ (Nat.le_of_ble_eq_true rfl) (Nat.le_of_ble_eq_true rfl) dX6_kind_16
set_option maxRecDepth 100000 in
set_option maxHeartbeats 4000000 in
theorem k_quantity {G : cG} (g : GOK G) (gM : MG G) {ad : Nat → Nat → Nat} {N : Nat} {K S Fc C D B : Mem} {cu ct : Nat} {hs : hS} {sv : sV} {ou : oB} {M : Mem} {x1 : Int32} (h : Top N K S C cu ct hs sv ou M) : KT G ad N yX6_quantity cX6_quantity 2 .int [.ref ((ad 0) 0), .int x1] (fl (wTop G.2.1 ad K S Fc C D B cu ct hs sv ou)) [(eNSE, 1)] (f_X7_quantity M x1) := by
  rcases q_quantity h.1 x1 with ⟨hq, b9, M', e2, e3, e4⟩ | ⟨pp, hp, hq, M', e2, e3, e4⟩
  · refine CX.of g (by decide) rfl (Nat.le_of_ble_eq_true rfl) ?_
    intro p l e s m below meth c A ls hst htab F hr hlocks w hl
    generalize ([.ref ((ad 0) 0), .int x1] : List Value).toArray = args
    have hl : lv_has ls 2 [(0, .ref ((ad 0) 0)), (1, .int x1)] := hl
    have w : Wd G A s.heap (fl [wXo G.2.1 (ad 0) (xF ad) (svV sv) K, wSh G.2.1 (ad 1) S, wSh G.2.1 (ad 2) Fc, wTe G.2.1 (ad 4) C, wSb G.2.1 (ad 5) ou, wAd G.2.1 (ad 6) D, wAb G.2.1 (ad 7) B, wHo G.2.1 (ad 3) cu ct hs, hsL G.2.1 hs, blk G.2.1 sv]) _ _ := w
    refine lv_aload_n F.x F.b dX6_quantity_0 rfl (lv_at hl 0 rfl) ?_
    refine rg F w cl6 0 rfl 0 (by decide) q301 rfl (v := .ref ((ad 1) 0)) rfl dX6_quantity_1 ?_
    refine rgN F w cl4 1 rfl 0 (by decide) q188 rfl (v := .ref ((ad 1) 1)) rfl dX6_quantity_4 ?_
    refine rgN F w cl3 2 rfl 2 (by decide) q112 rfl (v := .ref ((ad 1) 4)) rfl dX6_quantity_7 ?_
    refine lv_aload_n F.x F.b dX6_quantity_10 rfl (lv_at hl 0 rfl) ?_
    refine lv_iload_n F.x F.b dX6_quantity_11 rfl (lv_at hl 1 rfl) ?_
    refine kXi F w hst (LC := [wXo G.2.1 (ad 0) (xF ad) (svV sv) K, wSh G.2.1 (ad 1) S]) (LR := [wSh G.2.1 (ad 2) Fc, wTe G.2.1 (ad 4) C, wSb G.2.1 (ad 5) ou, wAd G.2.1 (ad 6) D, wAb G.2.1 (ad 7) B, wHo G.2.1 (ad 3) cu ct hs, hsL G.2.1 hs, blk G.2.1 sv]) (As := [.int x1]) (rest := [.ref ((ad 1) 4)]) (t_X6_slotOf_no F.1 hq gM) m_X6_slotOf v_X6_slotOf q1047 (ci := 10) (q0 := 0) rfl rfl rfl 10 [0, 1, 2, 3, 4, 5, 6, 7, 8, 9] rfl rfl rfl ⟨Nat.le_of_ble_eq_true rfl, Nat.le_of_ble_eq_true rfl⟩ rfl hl.1 rfl (Nat.le_of_ble_eq_true rfl) dX6_quantity_12 ⟨Nat.le_of_ble_eq_true rfl, Nat.le_of_ble_eq_true rfl⟩ (fun E w1 ce q H locs hx w hce hcv hcl => by obtain ⟨rfl, hx⟩ := hx; exact exX (w.jn (L1 := [wXo G.2.1 (ad 0) (xF ad) (svV sv) K, wSh G.2.1 (ad 1) S]) (L' := [wXo G.2.1 (ad 0) (xF ad) (svV sv) K, wSh G.2.1 (ad 1) S, wSh G.2.1 (ad 2) Fc, wTe G.2.1 (ad 4) C, wSb G.2.1 (ad 5) ou, wAd G.2.1 (ad 6) D, wAb G.2.1 (ad 7) B, wHo G.2.1 (ad 3) cu ct hs, hsL G.2.1 hs, blk G.2.1 sv]) hx 10 [0, 1, 2, 3, 4, 5, 6, 7, 8, 9] rfl rfl rfl) htab hlocks hce hcv hcl ⟨K, S, Fc, C, D, B, cu, ct, hs, sv, ou, M', b9, 1, rfl, e2, e3, List.mem_cons_self, h.ask e4⟩ (Nat.le_of_ble_eq_true rfl) (Nat.le_of_ble_eq_true rfl)) (fun r9 w1 H locs h9 w => ?_)
    exact False.elim h9
  · refine CX.of g (by decide) rfl (Nat.le_of_ble_eq_true rfl) ?_
    intro p l e s m below meth c A ls hst htab F hr hlocks w hl
    generalize ([.ref ((ad 0) 0), .int x1] : List Value).toArray = args
    have hl : lv_has ls 2 [(0, .ref ((ad 0) 0)), (1, .int x1)] := hl
    have w : Wd G A s.heap (fl [wXo G.2.1 (ad 0) (xF ad) (svV sv) K, wSh G.2.1 (ad 1) S, wSh G.2.1 (ad 2) Fc, wTe G.2.1 (ad 4) C, wSb G.2.1 (ad 5) ou, wAd G.2.1 (ad 6) D, wAb G.2.1 (ad 7) B, wHo G.2.1 (ad 3) cu ct hs, hsL G.2.1 hs, blk G.2.1 sv]) _ _ := w
    refine lv_aload_n F.x F.b dX6_quantity_0 rfl (lv_at hl 0 rfl) ?_
    refine rg F w cl6 0 rfl 0 (by decide) q301 rfl (v := .ref ((ad 1) 0)) rfl dX6_quantity_1 ?_
    refine rgN F w cl4 1 rfl 0 (by decide) q188 rfl (v := .ref ((ad 1) 1)) rfl dX6_quantity_4 ?_
    refine rgN F w cl3 2 rfl 2 (by decide) q112 rfl (v := .ref ((ad 1) 4)) rfl dX6_quantity_7 ?_
    refine lv_aload_n F.x F.b dX6_quantity_10 rfl (lv_at hl 0 rfl) ?_
    refine lv_iload_n F.x F.b dX6_quantity_11 rfl (lv_at hl 1 rfl) ?_
    refine kXi F w hst (LC := [wXo G.2.1 (ad 0) (xF ad) (svV sv) K, wSh G.2.1 (ad 1) S]) (LR := [wSh G.2.1 (ad 2) Fc, wTe G.2.1 (ad 4) C, wSb G.2.1 (ad 5) ou, wAd G.2.1 (ad 6) D, wAb G.2.1 (ad 7) B, wHo G.2.1 (ad 3) cu ct hs, hsL G.2.1 hs, blk G.2.1 sv]) (As := [.int x1]) (rest := [.ref ((ad 1) 4)]) (t_X6_slotOf_ok F.1 hq hp) m_X6_slotOf v_X6_slotOf q1047 (ci := 10) (q0 := 0) rfl rfl rfl 10 [0, 1, 2, 3, 4, 5, 6, 7, 8, 9] rfl rfl rfl ⟨Nat.le_of_ble_eq_true rfl, Nat.le_of_ble_eq_true rfl⟩ rfl hl.1 rfl (Nat.le_of_ble_eq_true rfl) dX6_quantity_12 ⟨Nat.le_of_ble_eq_true rfl, Nat.le_of_ble_eq_true rfl⟩ (fun _ _ _ _ _ _ hx => False.elim hx) (fun r9 w1 H locs h9 w => ?_)
    obtain ⟨rfl, h9⟩ := h9
    have w := w.jn (L1 := [wXo G.2.1 (ad 0) (xF ad) (svV sv) K, wSh G.2.1 (ad 1) S]) (L' := [wXo G.2.1 (ad 0) (xF ad) (svV sv) K, wSh G.2.1 (ad 1) S, wSh G.2.1 (ad 2) Fc, wTe G.2.1 (ad 4) C, wSb G.2.1 (ad 5) ou, wAd G.2.1 (ad 6) D, wAb G.2.1 (ad 7) B, wHo G.2.1 (ad 3) cu ct hs, hsL G.2.1 hs, blk G.2.1 sv]) h9 10 [0, 1, 2, 3, 4, 5, 6, 7, 8, 9] rfl rfl rfl
    refine ri F w 5 (n := 16) (f := S.2 2) rfl (ib_nI hp (by omega)) dX6_quantity_15 ?_
    exact eiX F w hr hlocks rfl ⟨K, S, Fc, C, D, B, cu, ct, hs, sv, ou, M', rfl, (by rw [nI_clamp (by omega)]; exact e2), e3, h.ask e4⟩ (Nat.le_of_ble_eq_true rfl) (Nat.le_of_ble_eq_true rfl) dX6_quantity_16
set_option maxRecDepth 100000 in
set_option maxHeartbeats 4000000 in
theorem k_price {G : cG} (g : GOK G) (gM : MG G) {ad : Nat → Nat → Nat} {N : Nat} {K S Fc C D B : Mem} {cu ct : Nat} {hs : hS} {sv : sV} {ou : oB} {M : Mem} {x1 : Int32} (h : Top N K S C cu ct hs sv ou M) : KT G ad N yX6_price cX6_price 2 .int [.ref ((ad 0) 0), .int x1] (fl (wTop G.2.1 ad K S Fc C D B cu ct hs sv ou)) [(eNSE, 1)] (f_X7_price M x1) := by
  rcases q_price h.1 x1 with ⟨hq, b9, M', e2, e3, e4⟩ | ⟨pp, hp, hq, M', e2, e3, e4⟩
  · refine CX.of g (by decide) rfl (Nat.le_of_ble_eq_true rfl) ?_
    intro p l e s m below meth c A ls hst htab F hr hlocks w hl
    generalize ([.ref ((ad 0) 0), .int x1] : List Value).toArray = args
    have hl : lv_has ls 2 [(0, .ref ((ad 0) 0)), (1, .int x1)] := hl
    have w : Wd G A s.heap (fl [wXo G.2.1 (ad 0) (xF ad) (svV sv) K, wSh G.2.1 (ad 1) S, wSh G.2.1 (ad 2) Fc, wTe G.2.1 (ad 4) C, wSb G.2.1 (ad 5) ou, wAd G.2.1 (ad 6) D, wAb G.2.1 (ad 7) B, wHo G.2.1 (ad 3) cu ct hs, hsL G.2.1 hs, blk G.2.1 sv]) _ _ := w
    refine lv_aload_n F.x F.b dX6_price_0 rfl (lv_at hl 0 rfl) ?_
    refine rg F w cl6 0 rfl 0 (by decide) q301 rfl (v := .ref ((ad 1) 0)) rfl dX6_price_1 ?_
    refine rgN F w cl4 1 rfl 0 (by decide) q188 rfl (v := .ref ((ad 1) 1)) rfl dX6_price_4 ?_
    refine rgN F w cl3 2 rfl 3 (by decide) q115 rfl (v := .ref ((ad 1) 5)) rfl dX6_price_7 ?_
    refine lv_aload_n F.x F.b dX6_price_10 rfl (lv_at hl 0 rfl) ?_
    refine lv_iload_n F.x F.b dX6_price_11 rfl (lv_at hl 1 rfl) ?_
    refine kXi F w hst (LC := [wXo G.2.1 (ad 0) (xF ad) (svV sv) K, wSh G.2.1 (ad 1) S]) (LR := [wSh G.2.1 (ad 2) Fc, wTe G.2.1 (ad 4) C, wSb G.2.1 (ad 5) ou, wAd G.2.1 (ad 6) D, wAb G.2.1 (ad 7) B, wHo G.2.1 (ad 3) cu ct hs, hsL G.2.1 hs, blk G.2.1 sv]) (As := [.int x1]) (rest := [.ref ((ad 1) 5)]) (t_X6_slotOf_no F.1 hq gM) m_X6_slotOf v_X6_slotOf q1047 (ci := 10) (q0 := 0) rfl rfl rfl 10 [0, 1, 2, 3, 4, 5, 6, 7, 8, 9] rfl rfl rfl ⟨Nat.le_of_ble_eq_true rfl, Nat.le_of_ble_eq_true rfl⟩ rfl hl.1 rfl (Nat.le_of_ble_eq_true rfl) dX6_price_12 ⟨Nat.le_of_ble_eq_true rfl, Nat.le_of_ble_eq_true rfl⟩ (fun E w1 ce q H locs hx w hce hcv hcl => by obtain ⟨rfl, hx⟩ := hx; exact exX (w.jn (L1 := [wXo G.2.1 (ad 0) (xF ad) (svV sv) K, wSh G.2.1 (ad 1) S]) (L' := [wXo G.2.1 (ad 0) (xF ad) (svV sv) K, wSh G.2.1 (ad 1) S, wSh G.2.1 (ad 2) Fc, wTe G.2.1 (ad 4) C, wSb G.2.1 (ad 5) ou, wAd G.2.1 (ad 6) D, wAb G.2.1 (ad 7) B, wHo G.2.1 (ad 3) cu ct hs, hsL G.2.1 hs, blk G.2.1 sv]) hx 10 [0, 1, 2, 3, 4, 5, 6, 7, 8, 9] rfl rfl rfl) htab hlocks hce hcv hcl ⟨K, S, Fc, C, D, B, cu, ct, hs, sv, ou, M', b9, 1, rfl, e2, e3, List.mem_cons_self, h.ask e4⟩ (Nat.le_of_ble_eq_true rfl) (Nat.le_of_ble_eq_true rfl)) (fun r9 w1 H locs h9 w => ?_)
    exact False.elim h9
  · refine CX.of g (by decide) rfl (Nat.le_of_ble_eq_true rfl) ?_
    intro p l e s m below meth c A ls hst htab F hr hlocks w hl
    generalize ([.ref ((ad 0) 0), .int x1] : List Value).toArray = args
    have hl : lv_has ls 2 [(0, .ref ((ad 0) 0)), (1, .int x1)] := hl
    have w : Wd G A s.heap (fl [wXo G.2.1 (ad 0) (xF ad) (svV sv) K, wSh G.2.1 (ad 1) S, wSh G.2.1 (ad 2) Fc, wTe G.2.1 (ad 4) C, wSb G.2.1 (ad 5) ou, wAd G.2.1 (ad 6) D, wAb G.2.1 (ad 7) B, wHo G.2.1 (ad 3) cu ct hs, hsL G.2.1 hs, blk G.2.1 sv]) _ _ := w
    refine lv_aload_n F.x F.b dX6_price_0 rfl (lv_at hl 0 rfl) ?_
    refine rg F w cl6 0 rfl 0 (by decide) q301 rfl (v := .ref ((ad 1) 0)) rfl dX6_price_1 ?_
    refine rgN F w cl4 1 rfl 0 (by decide) q188 rfl (v := .ref ((ad 1) 1)) rfl dX6_price_4 ?_
    refine rgN F w cl3 2 rfl 3 (by decide) q115 rfl (v := .ref ((ad 1) 5)) rfl dX6_price_7 ?_
    refine lv_aload_n F.x F.b dX6_price_10 rfl (lv_at hl 0 rfl) ?_
    refine lv_iload_n F.x F.b dX6_price_11 rfl (lv_at hl 1 rfl) ?_
    refine kXi F w hst (LC := [wXo G.2.1 (ad 0) (xF ad) (svV sv) K, wSh G.2.1 (ad 1) S]) (LR := [wSh G.2.1 (ad 2) Fc, wTe G.2.1 (ad 4) C, wSb G.2.1 (ad 5) ou, wAd G.2.1 (ad 6) D, wAb G.2.1 (ad 7) B, wHo G.2.1 (ad 3) cu ct hs, hsL G.2.1 hs, blk G.2.1 sv]) (As := [.int x1]) (rest := [.ref ((ad 1) 5)]) (t_X6_slotOf_ok F.1 hq hp) m_X6_slotOf v_X6_slotOf q1047 (ci := 10) (q0 := 0) rfl rfl rfl 10 [0, 1, 2, 3, 4, 5, 6, 7, 8, 9] rfl rfl rfl ⟨Nat.le_of_ble_eq_true rfl, Nat.le_of_ble_eq_true rfl⟩ rfl hl.1 rfl (Nat.le_of_ble_eq_true rfl) dX6_price_12 ⟨Nat.le_of_ble_eq_true rfl, Nat.le_of_ble_eq_true rfl⟩ (fun _ _ _ _ _ _ hx => False.elim hx) (fun r9 w1 H locs h9 w => ?_)
    obtain ⟨rfl, h9⟩ := h9
    have w := w.jn (L1 := [wXo G.2.1 (ad 0) (xF ad) (svV sv) K, wSh G.2.1 (ad 1) S]) (L' := [wXo G.2.1 (ad 0) (xF ad) (svV sv) K, wSh G.2.1 (ad 1) S, wSh G.2.1 (ad 2) Fc, wTe G.2.1 (ad 4) C, wSb G.2.1 (ad 5) ou, wAd G.2.1 (ad 6) D, wAb G.2.1 (ad 7) B, wHo G.2.1 (ad 3) cu ct hs, hsL G.2.1 hs, blk G.2.1 sv]) h9 10 [0, 1, 2, 3, 4, 5, 6, 7, 8, 9] rfl rfl rfl
    refine ri F w 6 (n := 16) (f := S.2 3) rfl (ib_nI hp (by omega)) dX6_price_15 ?_
    exact eiX F w hr hlocks rfl ⟨K, S, Fc, C, D, B, cu, ct, hs, sv, ou, M', rfl, (by rw [nI_clamp (by omega)]; exact e2), e3, h.ask e4⟩ (Nat.le_of_ble_eq_true rfl) (Nat.le_of_ble_eq_true rfl) dX6_price_16
set_option maxRecDepth 100000 in
set_option maxHeartbeats 4000000 in
theorem k_bay {G : cG} (g : GOK G) (gM : MG G) {ad : Nat → Nat → Nat} {N : Nat} {K S Fc C D B : Mem} {cu ct : Nat} {hs : hS} {sv : sV} {ou : oB} {M : Mem} {x1 : Int32} (h : Top N K S C cu ct hs sv ou M) : KT G ad N yX6_bay cX6_bay 2 .int [.ref ((ad 0) 0), .int x1] (fl (wTop G.2.1 ad K S Fc C D B cu ct hs sv ou)) [(eNSE, 1)] (f_X7_bay M x1) := by
  rcases q_bay h.1 x1 with ⟨hq, b9, M', e2, e3, e4⟩ | ⟨pp, hp, hq, M', e2, e3, e4⟩
  · refine CX.of g (by decide) rfl (Nat.le_of_ble_eq_true rfl) ?_
    intro p l e s m below meth c A ls hst htab F hr hlocks w hl
    generalize ([.ref ((ad 0) 0), .int x1] : List Value).toArray = args
    have hl : lv_has ls 2 [(0, .ref ((ad 0) 0)), (1, .int x1)] := hl
    have w : Wd G A s.heap (fl [wXo G.2.1 (ad 0) (xF ad) (svV sv) K, wSh G.2.1 (ad 1) S, wSh G.2.1 (ad 2) Fc, wTe G.2.1 (ad 4) C, wSb G.2.1 (ad 5) ou, wAd G.2.1 (ad 6) D, wAb G.2.1 (ad 7) B, wHo G.2.1 (ad 3) cu ct hs, hsL G.2.1 hs, blk G.2.1 sv]) _ _ := w
    refine lv_aload_n F.x F.b dX6_bay_0 rfl (lv_at hl 0 rfl) ?_
    refine rg F w cl6 0 rfl 0 (by decide) q301 rfl (v := .ref ((ad 1) 0)) rfl dX6_bay_1 ?_
    refine rgN F w cl4 1 rfl 0 (by decide) q188 rfl (v := .ref ((ad 1) 1)) rfl dX6_bay_4 ?_
    refine rgN F w cl3 2 rfl 4 (by decide) q118 rfl (v := .ref ((ad 1) 6)) rfl dX6_bay_7 ?_
    refine lv_aload_n F.x F.b dX6_bay_10 rfl (lv_at hl 0 rfl) ?_
    refine lv_iload_n F.x F.b dX6_bay_11 rfl (lv_at hl 1 rfl) ?_
    refine kXi F w hst (LC := [wXo G.2.1 (ad 0) (xF ad) (svV sv) K, wSh G.2.1 (ad 1) S]) (LR := [wSh G.2.1 (ad 2) Fc, wTe G.2.1 (ad 4) C, wSb G.2.1 (ad 5) ou, wAd G.2.1 (ad 6) D, wAb G.2.1 (ad 7) B, wHo G.2.1 (ad 3) cu ct hs, hsL G.2.1 hs, blk G.2.1 sv]) (As := [.int x1]) (rest := [.ref ((ad 1) 6)]) (t_X6_slotOf_no F.1 hq gM) m_X6_slotOf v_X6_slotOf q1047 (ci := 10) (q0 := 0) rfl rfl rfl 10 [0, 1, 2, 3, 4, 5, 6, 7, 8, 9] rfl rfl rfl ⟨Nat.le_of_ble_eq_true rfl, Nat.le_of_ble_eq_true rfl⟩ rfl hl.1 rfl (Nat.le_of_ble_eq_true rfl) dX6_bay_12 ⟨Nat.le_of_ble_eq_true rfl, Nat.le_of_ble_eq_true rfl⟩ (fun E w1 ce q H locs hx w hce hcv hcl => by obtain ⟨rfl, hx⟩ := hx; exact exX (w.jn (L1 := [wXo G.2.1 (ad 0) (xF ad) (svV sv) K, wSh G.2.1 (ad 1) S]) (L' := [wXo G.2.1 (ad 0) (xF ad) (svV sv) K, wSh G.2.1 (ad 1) S, wSh G.2.1 (ad 2) Fc, wTe G.2.1 (ad 4) C, wSb G.2.1 (ad 5) ou, wAd G.2.1 (ad 6) D, wAb G.2.1 (ad 7) B, wHo G.2.1 (ad 3) cu ct hs, hsL G.2.1 hs, blk G.2.1 sv]) hx 10 [0, 1, 2, 3, 4, 5, 6, 7, 8, 9] rfl rfl rfl) htab hlocks hce hcv hcl ⟨K, S, Fc, C, D, B, cu, ct, hs, sv, ou, M', b9, 1, rfl, e2, e3, List.mem_cons_self, h.ask e4⟩ (Nat.le_of_ble_eq_true rfl) (Nat.le_of_ble_eq_true rfl)) (fun r9 w1 H locs h9 w => ?_)
    exact False.elim h9
  · refine CX.of g (by decide) rfl (Nat.le_of_ble_eq_true rfl) ?_
    intro p l e s m below meth c A ls hst htab F hr hlocks w hl
    generalize ([.ref ((ad 0) 0), .int x1] : List Value).toArray = args
    have hl : lv_has ls 2 [(0, .ref ((ad 0) 0)), (1, .int x1)] := hl
    have w : Wd G A s.heap (fl [wXo G.2.1 (ad 0) (xF ad) (svV sv) K, wSh G.2.1 (ad 1) S, wSh G.2.1 (ad 2) Fc, wTe G.2.1 (ad 4) C, wSb G.2.1 (ad 5) ou, wAd G.2.1 (ad 6) D, wAb G.2.1 (ad 7) B, wHo G.2.1 (ad 3) cu ct hs, hsL G.2.1 hs, blk G.2.1 sv]) _ _ := w
    refine lv_aload_n F.x F.b dX6_bay_0 rfl (lv_at hl 0 rfl) ?_
    refine rg F w cl6 0 rfl 0 (by decide) q301 rfl (v := .ref ((ad 1) 0)) rfl dX6_bay_1 ?_
    refine rgN F w cl4 1 rfl 0 (by decide) q188 rfl (v := .ref ((ad 1) 1)) rfl dX6_bay_4 ?_
    refine rgN F w cl3 2 rfl 4 (by decide) q118 rfl (v := .ref ((ad 1) 6)) rfl dX6_bay_7 ?_
    refine lv_aload_n F.x F.b dX6_bay_10 rfl (lv_at hl 0 rfl) ?_
    refine lv_iload_n F.x F.b dX6_bay_11 rfl (lv_at hl 1 rfl) ?_
    refine kXi F w hst (LC := [wXo G.2.1 (ad 0) (xF ad) (svV sv) K, wSh G.2.1 (ad 1) S]) (LR := [wSh G.2.1 (ad 2) Fc, wTe G.2.1 (ad 4) C, wSb G.2.1 (ad 5) ou, wAd G.2.1 (ad 6) D, wAb G.2.1 (ad 7) B, wHo G.2.1 (ad 3) cu ct hs, hsL G.2.1 hs, blk G.2.1 sv]) (As := [.int x1]) (rest := [.ref ((ad 1) 6)]) (t_X6_slotOf_ok F.1 hq hp) m_X6_slotOf v_X6_slotOf q1047 (ci := 10) (q0 := 0) rfl rfl rfl 10 [0, 1, 2, 3, 4, 5, 6, 7, 8, 9] rfl rfl rfl ⟨Nat.le_of_ble_eq_true rfl, Nat.le_of_ble_eq_true rfl⟩ rfl hl.1 rfl (Nat.le_of_ble_eq_true rfl) dX6_bay_12 ⟨Nat.le_of_ble_eq_true rfl, Nat.le_of_ble_eq_true rfl⟩ (fun _ _ _ _ _ _ hx => False.elim hx) (fun r9 w1 H locs h9 w => ?_)
    obtain ⟨rfl, h9⟩ := h9
    have w := w.jn (L1 := [wXo G.2.1 (ad 0) (xF ad) (svV sv) K, wSh G.2.1 (ad 1) S]) (L' := [wXo G.2.1 (ad 0) (xF ad) (svV sv) K, wSh G.2.1 (ad 1) S, wSh G.2.1 (ad 2) Fc, wTe G.2.1 (ad 4) C, wSb G.2.1 (ad 5) ou, wAd G.2.1 (ad 6) D, wAb G.2.1 (ad 7) B, wHo G.2.1 (ad 3) cu ct hs, hsL G.2.1 hs, blk G.2.1 sv]) h9 10 [0, 1, 2, 3, 4, 5, 6, 7, 8, 9] rfl rfl rfl
    refine ri F w 7 (n := 16) (f := S.2 4) rfl (ib_nI hp (by omega)) dX6_bay_15 ?_
    exact eiX F w hr hlocks rfl ⟨K, S, Fc, C, D, B, cu, ct, hs, sv, ou, M', rfl, (by rw [nI_clamp (by omega)]; exact e2), e3, h.ask e4⟩ (Nat.le_of_ble_eq_true rfl) (Nat.le_of_ble_eq_true rfl) dX6_bay_16
set_option maxRecDepth 100000 in
set_option maxHeartbeats 4000000 in
theorem k_isSealed {G : cG} (g : GOK G) (gM : MG G) {ad : Nat → Nat → Nat} {N : Nat} {K S Fc C D B : Mem} {cu ct : Nat} {hs : hS} {sv : sV} {ou : oB} {M : Mem} {x1 : Int32} (h : Top N K S C cu ct hs sv ou M) : KT G ad N yX6_isSealed cX6_isSealed 2 .boolean [.ref ((ad 0) 0), .int x1] (fl (wTop G.2.1 ad K S Fc C D B cu ct hs sv ou)) [(eNSE, 1)] (f_X7_isSealed M x1) := by
  rcases q_sealed h.1 x1 with ⟨hq, b9, M', e2, e3, e4⟩ | ⟨pp, hp, hq, M', e2, e3, e4⟩
  · refine CX.of g (by decide) rfl (Nat.le_of_ble_eq_true rfl) ?_
    intro p l e s m below meth c A ls hst htab F hr hlocks w hl
    generalize ([.ref ((ad 0) 0), .int x1] : List Value).toArray = args
    have hl : lv_has ls 2 [(0, .ref ((ad 0) 0)), (1, .int x1)] := hl
    have w : Wd G A s.heap (fl [wXo G.2.1 (ad 0) (xF ad) (svV sv) K, wSh G.2.1 (ad 1) S, wSh G.2.1 (ad 2) Fc, wTe G.2.1 (ad 4) C, wSb G.2.1 (ad 5) ou, wAd G.2.1 (ad 6) D, wAb G.2.1 (ad 7) B, wHo G.2.1 (ad 3) cu ct hs, hsL G.2.1 hs, blk G.2.1 sv]) _ _ := w
    refine lv_aload_n F.x F.b dX6_isSealed_0 rfl (lv_at hl 0 rfl) ?_
    refine rg F w cl6 0 rfl 0 (by decide) q301 rfl (v := .ref ((ad 1) 0)) rfl dX6_isSealed_1 ?_
    refine rgN F w cl4 1 rfl 0 (by decide) q188 rfl (v := .ref ((ad 1) 1)) rfl dX6_isSealed_4 ?_
    refine rgN F w cl3 2 rfl 5 (by decide) q121 rfl (v := .ref ((ad 1) 7)) rfl dX6_isSealed_7 ?_
    refine lv_aload_n F.x F.b dX6_isSealed_10 rfl (lv_at hl 0 rfl) ?_
    refine lv_iload_n F.x F.b dX6_isSealed_11 rfl (lv_at hl 1 rfl) ?_
    refine kXi F w hst (LC := [wXo G.2.1 (ad 0) (xF ad) (svV sv) K, wSh G.2.1 (ad 1) S]) (LR := [wSh G.2.1 (ad 2) Fc, wTe G.2.1 (ad 4) C, wSb G.2.1 (ad 5) ou, wAd G.2.1 (ad 6) D, wAb G.2.1 (ad 7) B, wHo G.2.1 (ad 3) cu ct hs, hsL G.2.1 hs, blk G.2.1 sv]) (As := [.int x1]) (rest := [.ref ((ad 1) 7)]) (t_X6_slotOf_no F.1 hq gM) m_X6_slotOf v_X6_slotOf q1047 (ci := 10) (q0 := 0) rfl rfl rfl 10 [0, 1, 2, 3, 4, 5, 6, 7, 8, 9] rfl rfl rfl ⟨Nat.le_of_ble_eq_true rfl, Nat.le_of_ble_eq_true rfl⟩ rfl hl.1 rfl (Nat.le_of_ble_eq_true rfl) dX6_isSealed_12 ⟨Nat.le_of_ble_eq_true rfl, Nat.le_of_ble_eq_true rfl⟩ (fun E w1 ce q H locs hx w hce hcv hcl => by obtain ⟨rfl, hx⟩ := hx; exact exX (w.jn (L1 := [wXo G.2.1 (ad 0) (xF ad) (svV sv) K, wSh G.2.1 (ad 1) S]) (L' := [wXo G.2.1 (ad 0) (xF ad) (svV sv) K, wSh G.2.1 (ad 1) S, wSh G.2.1 (ad 2) Fc, wTe G.2.1 (ad 4) C, wSb G.2.1 (ad 5) ou, wAd G.2.1 (ad 6) D, wAb G.2.1 (ad 7) B, wHo G.2.1 (ad 3) cu ct hs, hsL G.2.1 hs, blk G.2.1 sv]) hx 10 [0, 1, 2, 3, 4, 5, 6, 7, 8, 9] rfl rfl rfl) htab hlocks hce hcv hcl ⟨K, S, Fc, C, D, B, cu, ct, hs, sv, ou, M', b9, 1, rfl, e2, e3, List.mem_cons_self, h.ask e4⟩ (Nat.le_of_ble_eq_true rfl) (Nat.le_of_ble_eq_true rfl)) (fun r9 w1 H locs h9 w => ?_)
    exact False.elim h9
  · refine CX.of g (by decide) rfl (Nat.le_of_ble_eq_true rfl) ?_
    intro p l e s m below meth c A ls hst htab F hr hlocks w hl
    generalize ([.ref ((ad 0) 0), .int x1] : List Value).toArray = args
    have hl : lv_has ls 2 [(0, .ref ((ad 0) 0)), (1, .int x1)] := hl
    have w : Wd G A s.heap (fl [wXo G.2.1 (ad 0) (xF ad) (svV sv) K, wSh G.2.1 (ad 1) S, wSh G.2.1 (ad 2) Fc, wTe G.2.1 (ad 4) C, wSb G.2.1 (ad 5) ou, wAd G.2.1 (ad 6) D, wAb G.2.1 (ad 7) B, wHo G.2.1 (ad 3) cu ct hs, hsL G.2.1 hs, blk G.2.1 sv]) _ _ := w
    refine lv_aload_n F.x F.b dX6_isSealed_0 rfl (lv_at hl 0 rfl) ?_
    refine rg F w cl6 0 rfl 0 (by decide) q301 rfl (v := .ref ((ad 1) 0)) rfl dX6_isSealed_1 ?_
    refine rgN F w cl4 1 rfl 0 (by decide) q188 rfl (v := .ref ((ad 1) 1)) rfl dX6_isSealed_4 ?_
    refine rgN F w cl3 2 rfl 5 (by decide) q121 rfl (v := .ref ((ad 1) 7)) rfl dX6_isSealed_7 ?_
    refine lv_aload_n F.x F.b dX6_isSealed_10 rfl (lv_at hl 0 rfl) ?_
    refine lv_iload_n F.x F.b dX6_isSealed_11 rfl (lv_at hl 1 rfl) ?_
    refine kXi F w hst (LC := [wXo G.2.1 (ad 0) (xF ad) (svV sv) K, wSh G.2.1 (ad 1) S]) (LR := [wSh G.2.1 (ad 2) Fc, wTe G.2.1 (ad 4) C, wSb G.2.1 (ad 5) ou, wAd G.2.1 (ad 6) D, wAb G.2.1 (ad 7) B, wHo G.2.1 (ad 3) cu ct hs, hsL G.2.1 hs, blk G.2.1 sv]) (As := [.int x1]) (rest := [.ref ((ad 1) 7)]) (t_X6_slotOf_ok F.1 hq hp) m_X6_slotOf v_X6_slotOf q1047 (ci := 10) (q0 := 0) rfl rfl rfl 10 [0, 1, 2, 3, 4, 5, 6, 7, 8, 9] rfl rfl rfl ⟨Nat.le_of_ble_eq_true rfl, Nat.le_of_ble_eq_true rfl⟩ rfl hl.1 rfl (Nat.le_of_ble_eq_true rfl) dX6_isSealed_12 ⟨Nat.le_of_ble_eq_true rfl, Nat.le_of_ble_eq_true rfl⟩ (fun _ _ _ _ _ _ hx => False.elim hx) (fun r9 w1 H locs h9 w => ?_)
    obtain ⟨rfl, h9⟩ := h9
    have w := w.jn (L1 := [wXo G.2.1 (ad 0) (xF ad) (svV sv) K, wSh G.2.1 (ad 1) S]) (L' := [wXo G.2.1 (ad 0) (xF ad) (svV sv) K, wSh G.2.1 (ad 1) S, wSh G.2.1 (ad 2) Fc, wTe G.2.1 (ad 4) C, wSb G.2.1 (ad 5) ou, wAd G.2.1 (ad 6) D, wAb G.2.1 (ad 7) B, wHo G.2.1 (ad 3) cu ct hs, hsL G.2.1 hs, blk G.2.1 sv]) h9 10 [0, 1, 2, 3, 4, 5, 6, 7, 8, 9] rfl rfl rfl
    refine rz F w 8 (n := 16) (f := S.2 5) rfl (ib_nI hp (by omega)) dX6_isSealed_15 ?_
    exact eiX F w hr hlocks (nar_boolean (by rw [nI_clamp (by omega)]; rcases (slot_ok h.1 hp hq).2.2.2.2.1 with e9 | e9 <;> rw [e9] <;> first | exact vn0 | exact vn1)) ⟨K, S, Fc, C, D, B, cu, ct, hs, sv, ou, M', rfl, (by rw [nI_clamp (by omega)]; exact e2), e3, h.ask e4⟩ (Nat.le_of_ble_eq_true rfl) (Nat.le_of_ble_eq_true rfl) dX6_isSealed_16
set_option maxRecDepth 100000 in
set_option maxHeartbeats 4000000 in
theorem k_isDamp {G : cG} (g : GOK G) (gM : MG G) {ad : Nat → Nat → Nat} {N : Nat} {K S Fc C D B : Mem} {cu ct : Nat} {hs : hS} {sv : sV} {ou : oB} {M : Mem} {x1 : Int32} (h : Top N K S C cu ct hs sv ou M) : KT G ad N yX6_isDamp cX6_isDamp 2 .boolean [.ref ((ad 0) 0), .int x1] (fl (wTop G.2.1 ad K S Fc C D B cu ct hs sv ou)) [(eNSE, 1)] (f_X7_isDamp M x1) := by
  rcases q_damp h.1 x1 with ⟨hq, b9, M', e2, e3, e4⟩ | ⟨pp, hp, hq, M', e2, e3, e4⟩
  · refine CX.of g (by decide) rfl (Nat.le_of_ble_eq_true rfl) ?_
    intro p l e s m below meth c A ls hst htab F hr hlocks w hl
    generalize ([.ref ((ad 0) 0), .int x1] : List Value).toArray = args
    have hl : lv_has ls 2 [(0, .ref ((ad 0) 0)), (1, .int x1)] := hl
    have w : Wd G A s.heap (fl [wXo G.2.1 (ad 0) (xF ad) (svV sv) K, wSh G.2.1 (ad 1) S, wSh G.2.1 (ad 2) Fc, wTe G.2.1 (ad 4) C, wSb G.2.1 (ad 5) ou, wAd G.2.1 (ad 6) D, wAb G.2.1 (ad 7) B, wHo G.2.1 (ad 3) cu ct hs, hsL G.2.1 hs, blk G.2.1 sv]) _ _ := w
    refine lv_aload_n F.x F.b dX6_isDamp_0 rfl (lv_at hl 0 rfl) ?_
    refine rg F w cl6 0 rfl 0 (by decide) q301 rfl (v := .ref ((ad 1) 0)) rfl dX6_isDamp_1 ?_
    refine rgN F w cl4 1 rfl 0 (by decide) q188 rfl (v := .ref ((ad 1) 1)) rfl dX6_isDamp_4 ?_
    refine rgN F w cl3 2 rfl 6 (by decide) q124 rfl (v := .ref ((ad 1) 8)) rfl dX6_isDamp_7 ?_
    refine lv_aload_n F.x F.b dX6_isDamp_10 rfl (lv_at hl 0 rfl) ?_
    refine lv_iload_n F.x F.b dX6_isDamp_11 rfl (lv_at hl 1 rfl) ?_
    refine kXi F w hst (LC := [wXo G.2.1 (ad 0) (xF ad) (svV sv) K, wSh G.2.1 (ad 1) S]) (LR := [wSh G.2.1 (ad 2) Fc, wTe G.2.1 (ad 4) C, wSb G.2.1 (ad 5) ou, wAd G.2.1 (ad 6) D, wAb G.2.1 (ad 7) B, wHo G.2.1 (ad 3) cu ct hs, hsL G.2.1 hs, blk G.2.1 sv]) (As := [.int x1]) (rest := [.ref ((ad 1) 8)]) (t_X6_slotOf_no F.1 hq gM) m_X6_slotOf v_X6_slotOf q1047 (ci := 10) (q0 := 0) rfl rfl rfl 10 [0, 1, 2, 3, 4, 5, 6, 7, 8, 9] rfl rfl rfl ⟨Nat.le_of_ble_eq_true rfl, Nat.le_of_ble_eq_true rfl⟩ rfl hl.1 rfl (Nat.le_of_ble_eq_true rfl) dX6_isDamp_12 ⟨Nat.le_of_ble_eq_true rfl, Nat.le_of_ble_eq_true rfl⟩ (fun E w1 ce q H locs hx w hce hcv hcl => by obtain ⟨rfl, hx⟩ := hx; exact exX (w.jn (L1 := [wXo G.2.1 (ad 0) (xF ad) (svV sv) K, wSh G.2.1 (ad 1) S]) (L' := [wXo G.2.1 (ad 0) (xF ad) (svV sv) K, wSh G.2.1 (ad 1) S, wSh G.2.1 (ad 2) Fc, wTe G.2.1 (ad 4) C, wSb G.2.1 (ad 5) ou, wAd G.2.1 (ad 6) D, wAb G.2.1 (ad 7) B, wHo G.2.1 (ad 3) cu ct hs, hsL G.2.1 hs, blk G.2.1 sv]) hx 10 [0, 1, 2, 3, 4, 5, 6, 7, 8, 9] rfl rfl rfl) htab hlocks hce hcv hcl ⟨K, S, Fc, C, D, B, cu, ct, hs, sv, ou, M', b9, 1, rfl, e2, e3, List.mem_cons_self, h.ask e4⟩ (Nat.le_of_ble_eq_true rfl) (Nat.le_of_ble_eq_true rfl)) (fun r9 w1 H locs h9 w => ?_)
    exact False.elim h9
  · refine CX.of g (by decide) rfl (Nat.le_of_ble_eq_true rfl) ?_
    intro p l e s m below meth c A ls hst htab F hr hlocks w hl
    generalize ([.ref ((ad 0) 0), .int x1] : List Value).toArray = args
    have hl : lv_has ls 2 [(0, .ref ((ad 0) 0)), (1, .int x1)] := hl
    have w : Wd G A s.heap (fl [wXo G.2.1 (ad 0) (xF ad) (svV sv) K, wSh G.2.1 (ad 1) S, wSh G.2.1 (ad 2) Fc, wTe G.2.1 (ad 4) C, wSb G.2.1 (ad 5) ou, wAd G.2.1 (ad 6) D, wAb G.2.1 (ad 7) B, wHo G.2.1 (ad 3) cu ct hs, hsL G.2.1 hs, blk G.2.1 sv]) _ _ := w
    refine lv_aload_n F.x F.b dX6_isDamp_0 rfl (lv_at hl 0 rfl) ?_
    refine rg F w cl6 0 rfl 0 (by decide) q301 rfl (v := .ref ((ad 1) 0)) rfl dX6_isDamp_1 ?_
    refine rgN F w cl4 1 rfl 0 (by decide) q188 rfl (v := .ref ((ad 1) 1)) rfl dX6_isDamp_4 ?_
    refine rgN F w cl3 2 rfl 6 (by decide) q124 rfl (v := .ref ((ad 1) 8)) rfl dX6_isDamp_7 ?_
    refine lv_aload_n F.x F.b dX6_isDamp_10 rfl (lv_at hl 0 rfl) ?_
    refine lv_iload_n F.x F.b dX6_isDamp_11 rfl (lv_at hl 1 rfl) ?_
    refine kXi F w hst (LC := [wXo G.2.1 (ad 0) (xF ad) (svV sv) K, wSh G.2.1 (ad 1) S]) (LR := [wSh G.2.1 (ad 2) Fc, wTe G.2.1 (ad 4) C, wSb G.2.1 (ad 5) ou, wAd G.2.1 (ad 6) D, wAb G.2.1 (ad 7) B, wHo G.2.1 (ad 3) cu ct hs, hsL G.2.1 hs, blk G.2.1 sv]) (As := [.int x1]) (rest := [.ref ((ad 1) 8)]) (t_X6_slotOf_ok F.1 hq hp) m_X6_slotOf v_X6_slotOf q1047 (ci := 10) (q0 := 0) rfl rfl rfl 10 [0, 1, 2, 3, 4, 5, 6, 7, 8, 9] rfl rfl rfl ⟨Nat.le_of_ble_eq_true rfl, Nat.le_of_ble_eq_true rfl⟩ rfl hl.1 rfl (Nat.le_of_ble_eq_true rfl) dX6_isDamp_12 ⟨Nat.le_of_ble_eq_true rfl, Nat.le_of_ble_eq_true rfl⟩ (fun _ _ _ _ _ _ hx => False.elim hx) (fun r9 w1 H locs h9 w => ?_)
    obtain ⟨rfl, h9⟩ := h9
    have w := w.jn (L1 := [wXo G.2.1 (ad 0) (xF ad) (svV sv) K, wSh G.2.1 (ad 1) S]) (L' := [wXo G.2.1 (ad 0) (xF ad) (svV sv) K, wSh G.2.1 (ad 1) S, wSh G.2.1 (ad 2) Fc, wTe G.2.1 (ad 4) C, wSb G.2.1 (ad 5) ou, wAd G.2.1 (ad 6) D, wAb G.2.1 (ad 7) B, wHo G.2.1 (ad 3) cu ct hs, hsL G.2.1 hs, blk G.2.1 sv]) h9 10 [0, 1, 2, 3, 4, 5, 6, 7, 8, 9] rfl rfl rfl
    refine rz F w 9 (n := 16) (f := S.2 6) rfl (ib_nI hp (by omega)) dX6_isDamp_15 ?_
    exact eiX F w hr hlocks (nar_boolean (by rw [nI_clamp (by omega)]; rcases (slot_ok h.1 hp hq).2.2.2.2.2.1 with e9 | e9 <;> rw [e9] <;> first | exact vn0 | exact vn1)) ⟨K, S, Fc, C, D, B, cu, ct, hs, sv, ou, M', rfl, (by rw [nI_clamp (by omega)]; exact e2), e3, h.ask e4⟩ (Nat.le_of_ble_eq_true rfl) (Nat.le_of_ble_eq_true rfl) dX6_isDamp_16
set_option maxRecDepth 100000 in
set_option maxHeartbeats 4000000 in
theorem k_value {G : cG} (g : GOK G) (gM : MG G) {ad : Nat → Nat → Nat} {N : Nat} {K S Fc C D B : Mem} {cu ct : Nat} {hs : hS} {sv : sV} {ou : oB} {M : Mem} {x1 : Int32} (h : Top N K S C cu ct hs sv ou M) : KT G ad N yX6_value cX6_value 2 .int [.ref ((ad 0) 0), .int x1] (fl (wTop G.2.1 ad K S Fc C D B cu ct hs sv ou)) [(eNSE, 1)] (f_X7_value M x1) := by
  rcases q_value h.1 x1 with ⟨hq, b9, M', e2, e3, e4⟩ | ⟨pp, hp, hq, M', e2, e3, e4⟩
  · refine CX.of g (by decide) rfl (Nat.le_of_ble_eq_true rfl) ?_
    intro p l e s m below meth c A ls hst htab F hr hlocks w hl
    generalize ([.ref ((ad 0) 0), .int x1] : List Value).toArray = args
    have hl : lv_has ls 2 [(0, .ref ((ad 0) 0)), (1, .int x1)] := hl
    have w : Wd G A s.heap (fl [wXo G.2.1 (ad 0) (xF ad) (svV sv) K, wSh G.2.1 (ad 1) S, wSh G.2.1 (ad 2) Fc, wTe G.2.1 (ad 4) C, wSb G.2.1 (ad 5) ou, wAd G.2.1 (ad 6) D, wAb G.2.1 (ad 7) B, wHo G.2.1 (ad 3) cu ct hs, hsL G.2.1 hs, blk G.2.1 sv]) _ _ := w
    refine lv_aload_n F.x F.b dX6_value_0 rfl (lv_at hl 0 rfl) ?_
    refine rg F w cl6 0 rfl 0 (by decide) q301 rfl (v := .ref ((ad 1) 0)) rfl dX6_value_1 ?_
    refine rgN F w cl4 1 rfl 0 (by decide) q188 rfl (v := .ref ((ad 1) 1)) rfl dX6_value_4 ?_
    refine lv_aload_n F.x F.b dX6_value_7 rfl (lv_at hl 0 rfl) ?_
    refine lv_iload_n F.x F.b dX6_value_8 rfl (lv_at hl 1 rfl) ?_
    refine kXi F w hst (LC := [wXo G.2.1 (ad 0) (xF ad) (svV sv) K, wSh G.2.1 (ad 1) S]) (LR := [wSh G.2.1 (ad 2) Fc, wTe G.2.1 (ad 4) C, wSb G.2.1 (ad 5) ou, wAd G.2.1 (ad 6) D, wAb G.2.1 (ad 7) B, wHo G.2.1 (ad 3) cu ct hs, hsL G.2.1 hs, blk G.2.1 sv]) (As := [.int x1]) (rest := [.ref ((ad 1) 1)]) (t_X6_slotOf_no F.1 hq gM) m_X6_slotOf v_X6_slotOf q1047 (ci := 10) (q0 := 0) rfl rfl rfl 10 [0, 1, 2, 3, 4, 5, 6, 7, 8, 9] rfl rfl rfl ⟨Nat.le_of_ble_eq_true rfl, Nat.le_of_ble_eq_true rfl⟩ rfl hl.1 rfl (Nat.le_of_ble_eq_true rfl) dX6_value_9 ⟨Nat.le_of_ble_eq_true rfl, Nat.le_of_ble_eq_true rfl⟩ (fun E w1 ce q H locs hx w hce hcv hcl => by obtain ⟨rfl, hx⟩ := hx; exact exX (w.jn (L1 := [wXo G.2.1 (ad 0) (xF ad) (svV sv) K, wSh G.2.1 (ad 1) S]) (L' := [wXo G.2.1 (ad 0) (xF ad) (svV sv) K, wSh G.2.1 (ad 1) S, wSh G.2.1 (ad 2) Fc, wTe G.2.1 (ad 4) C, wSb G.2.1 (ad 5) ou, wAd G.2.1 (ad 6) D, wAb G.2.1 (ad 7) B, wHo G.2.1 (ad 3) cu ct hs, hsL G.2.1 hs, blk G.2.1 sv]) hx 10 [0, 1, 2, 3, 4, 5, 6, 7, 8, 9] rfl rfl rfl) htab hlocks hce hcv hcl ⟨K, S, Fc, C, D, B, cu, ct, hs, sv, ou, M', b9, 1, rfl, e2, e3, List.mem_cons_self, h.ask e4⟩ (Nat.le_of_ble_eq_true rfl) (Nat.le_of_ble_eq_true rfl)) (fun r9 w1 H locs h9 w => ?_)
    exact False.elim h9
  · refine CX.of g (by decide) rfl (Nat.le_of_ble_eq_true rfl) ?_
    intro p l e s m below meth c A ls hst htab F hr hlocks w hl
    generalize ([.ref ((ad 0) 0), .int x1] : List Value).toArray = args
    have hl : lv_has ls 2 [(0, .ref ((ad 0) 0)), (1, .int x1)] := hl
    have w : Wd G A s.heap (fl [wXo G.2.1 (ad 0) (xF ad) (svV sv) K, wSh G.2.1 (ad 1) S, wSh G.2.1 (ad 2) Fc, wTe G.2.1 (ad 4) C, wSb G.2.1 (ad 5) ou, wAd G.2.1 (ad 6) D, wAb G.2.1 (ad 7) B, wHo G.2.1 (ad 3) cu ct hs, hsL G.2.1 hs, blk G.2.1 sv]) _ _ := w
    refine lv_aload_n F.x F.b dX6_value_0 rfl (lv_at hl 0 rfl) ?_
    refine rg F w cl6 0 rfl 0 (by decide) q301 rfl (v := .ref ((ad 1) 0)) rfl dX6_value_1 ?_
    refine rgN F w cl4 1 rfl 0 (by decide) q188 rfl (v := .ref ((ad 1) 1)) rfl dX6_value_4 ?_
    refine lv_aload_n F.x F.b dX6_value_7 rfl (lv_at hl 0 rfl) ?_
    refine lv_iload_n F.x F.b dX6_value_8 rfl (lv_at hl 1 rfl) ?_
    refine kXi F w hst (LC := [wXo G.2.1 (ad 0) (xF ad) (svV sv) K, wSh G.2.1 (ad 1) S]) (LR := [wSh G.2.1 (ad 2) Fc, wTe G.2.1 (ad 4) C, wSb G.2.1 (ad 5) ou, wAd G.2.1 (ad 6) D, wAb G.2.1 (ad 7) B, wHo G.2.1 (ad 3) cu ct hs, hsL G.2.1 hs, blk G.2.1 sv]) (As := [.int x1]) (rest := [.ref ((ad 1) 1)]) (t_X6_slotOf_ok F.1 hq hp) m_X6_slotOf v_X6_slotOf q1047 (ci := 10) (q0 := 0) rfl rfl rfl 10 [0, 1, 2, 3, 4, 5, 6, 7, 8, 9] rfl rfl rfl ⟨Nat.le_of_ble_eq_true rfl, Nat.le_of_ble_eq_true rfl⟩ rfl hl.1 rfl (Nat.le_of_ble_eq_true rfl) dX6_value_9 ⟨Nat.le_of_ble_eq_true rfl, Nat.le_of_ble_eq_true rfl⟩ (fun _ _ _ _ _ _ hx => False.elim hx) (fun r9 w1 H locs h9 w => ?_)
    obtain ⟨rfl, h9⟩ := h9
    have w := w.jn (L1 := [wXo G.2.1 (ad 0) (xF ad) (svV sv) K, wSh G.2.1 (ad 1) S]) (L' := [wXo G.2.1 (ad 0) (xF ad) (svV sv) K, wSh G.2.1 (ad 1) S, wSh G.2.1 (ad 2) Fc, wTe G.2.1 (ad 4) C, wSb G.2.1 (ad 5) ou, wAd G.2.1 (ad 6) D, wAb G.2.1 (ad 7) B, wHo G.2.1 (ad 3) cu ct hs, hsL G.2.1 hs, blk G.2.1 sv]) h9 10 [0, 1, 2, 3, 4, 5, 6, 7, 8, 9] rfl rfl rfl
    refine kXi F w hst (LC := [wSh G.2.1 (ad 1) S]) (LR := [wXo G.2.1 (ad 0) (xF ad) (svV sv) K, wSh G.2.1 (ad 2) Fc, wTe G.2.1 (ad 4) C, wSb G.2.1 (ad 5) ou, wAd G.2.1 (ad 6) D, wAb G.2.1 (ad 7) B, wHo G.2.1 (ad 3) cu ct hs, hsL G.2.1 hs, blk G.2.1 sv]) (As := [.int (nI pp)]) (rest := []) (t_X3_valueOf F.1 (c_valueOf S hp)).toX m_X3_valueOf v_X3_valueOf q1078 (ci := 7) (q0 := 2) rfl rfl rfl 10 [1, 0, 2, 3, 4, 5, 6, 7, 8, 9] rfl rfl rfl ⟨Nat.le_of_ble_eq_true rfl, Nat.le_of_ble_eq_true rfl⟩ rfl hl.1 rfl (Nat.le_of_ble_eq_true rfl) dX6_value_12 ⟨Nat.le_of_ble_eq_true rfl, Nat.le_of_ble_eq_true rfl⟩ (fun _ _ _ _ _ _ hx => False.elim hx) (fun r9 w1 H locs h9 w => ?_)
    obtain ⟨rfl, h9⟩ := h9
    have w := w.jn (L1 := [wSh G.2.1 (ad 1) S]) (L' := [wXo G.2.1 (ad 0) (xF ad) (svV sv) K, wSh G.2.1 (ad 1) S, wSh G.2.1 (ad 2) Fc, wTe G.2.1 (ad 4) C, wSb G.2.1 (ad 5) ou, wAd G.2.1 (ad 6) D, wAb G.2.1 (ad 7) B, wHo G.2.1 (ad 3) cu ct hs, hsL G.2.1 hs, blk G.2.1 sv]) h9 10 [1, 0, 2, 3, 4, 5, 6, 7, 8, 9] rfl rfl rfl
    exact eiX F w hr hlocks rfl ⟨K, S, Fc, C, D, B, cu, ct, hs, sv, ou, M', rfl, e2, e3, h.ask e4⟩ (Nat.le_of_ble_eq_true rfl) (Nat.le_of_ble_eq_true rfl) dX6_value_15
set_option maxRecDepth 100000 in
set_option maxHeartbeats 4000000 in
theorem k_duty {G : cG} (g : GOK G) (gM : MG G) {ad : Nat → Nat → Nat} {N : Nat} {K S Fc C D B : Mem} {cu ct : Nat} {hs : hS} {sv : sV} {ou : oB} {M : Mem} {x1 : Int32} (h : Top N K S C cu ct hs sv ou M) : KT G ad N yX6_duty cX6_duty 2 .int [.ref ((ad 0) 0), .int x1] (fl (wTop G.2.1 ad K S Fc C D B cu ct hs sv ou)) [(eNSE, 1)] (f_X7_duty M x1) := by
  rcases q_duty h.1 x1 with ⟨hq, b9, M', e2, e3, e4⟩ | ⟨pp, rr, hp, hq, hd, M', e2, e3, e4⟩
  · refine CX.of g (by decide) rfl (Nat.le_of_ble_eq_true rfl) ?_
    intro p l e s m below meth c A ls hst htab F hr hlocks w hl
    generalize ([.ref ((ad 0) 0), .int x1] : List Value).toArray = args
    have hl : lv_has ls 2 [(0, .ref ((ad 0) 0)), (1, .int x1)] := hl
    have w : Wd G A s.heap (fl [wXo G.2.1 (ad 0) (xF ad) (svV sv) K, wSh G.2.1 (ad 1) S, wSh G.2.1 (ad 2) Fc, wTe G.2.1 (ad 4) C, wSb G.2.1 (ad 5) ou, wAd G.2.1 (ad 6) D, wAb G.2.1 (ad 7) B, wHo G.2.1 (ad 3) cu ct hs, hsL G.2.1 hs, blk G.2.1 sv]) _ _ := w
    refine lv_aload_n F.x F.b dX6_duty_0 rfl (lv_at hl 0 rfl) ?_
    refine rg F w cl6 0 rfl 0 (by decide) q301 rfl (v := .ref ((ad 1) 0)) rfl dX6_duty_1 ?_
    refine lv_aload_n F.x F.b dX6_duty_4 rfl (lv_at hl 0 rfl) ?_
    refine lv_iload_n F.x F.b dX6_duty_5 rfl (lv_at hl 1 rfl) ?_
    refine kXi F w hst (LC := [wXo G.2.1 (ad 0) (xF ad) (svV sv) K, wSh G.2.1 (ad 1) S]) (LR := [wSh G.2.1 (ad 2) Fc, wTe G.2.1 (ad 4) C, wSb G.2.1 (ad 5) ou, wAd G.2.1 (ad 6) D, wAb G.2.1 (ad 7) B, wHo G.2.1 (ad 3) cu ct hs, hsL G.2.1 hs, blk G.2.1 sv]) (As := [.int x1]) (rest := [.ref ((ad 1) 0)]) (t_X6_slotOf_no F.1 hq gM) m_X6_slotOf v_X6_slotOf q1047 (ci := 10) (q0 := 0) rfl rfl rfl 10 [0, 1, 2, 3, 4, 5, 6, 7, 8, 9] rfl rfl rfl ⟨Nat.le_of_ble_eq_true rfl, Nat.le_of_ble_eq_true rfl⟩ rfl hl.1 rfl (Nat.le_of_ble_eq_true rfl) dX6_duty_6 ⟨Nat.le_of_ble_eq_true rfl, Nat.le_of_ble_eq_true rfl⟩ (fun E w1 ce q H locs hx w hce hcv hcl => by obtain ⟨rfl, hx⟩ := hx; exact exX (w.jn (L1 := [wXo G.2.1 (ad 0) (xF ad) (svV sv) K, wSh G.2.1 (ad 1) S]) (L' := [wXo G.2.1 (ad 0) (xF ad) (svV sv) K, wSh G.2.1 (ad 1) S, wSh G.2.1 (ad 2) Fc, wTe G.2.1 (ad 4) C, wSb G.2.1 (ad 5) ou, wAd G.2.1 (ad 6) D, wAb G.2.1 (ad 7) B, wHo G.2.1 (ad 3) cu ct hs, hsL G.2.1 hs, blk G.2.1 sv]) hx 10 [0, 1, 2, 3, 4, 5, 6, 7, 8, 9] rfl rfl rfl) htab hlocks hce hcv hcl ⟨K, S, Fc, C, D, B, cu, ct, hs, sv, ou, M', b9, 1, rfl, e2, e3, List.mem_cons_self, h.ask e4⟩ (Nat.le_of_ble_eq_true rfl) (Nat.le_of_ble_eq_true rfl)) (fun r9 w1 H locs h9 w => ?_)
    exact False.elim h9
  · refine CX.of g (by decide) rfl (Nat.le_of_ble_eq_true rfl) ?_
    intro p l e s m below meth c A ls hst htab F hr hlocks w hl
    generalize ([.ref ((ad 0) 0), .int x1] : List Value).toArray = args
    have hl : lv_has ls 2 [(0, .ref ((ad 0) 0)), (1, .int x1)] := hl
    have w : Wd G A s.heap (fl [wXo G.2.1 (ad 0) (xF ad) (svV sv) K, wSh G.2.1 (ad 1) S, wSh G.2.1 (ad 2) Fc, wTe G.2.1 (ad 4) C, wSb G.2.1 (ad 5) ou, wAd G.2.1 (ad 6) D, wAb G.2.1 (ad 7) B, wHo G.2.1 (ad 3) cu ct hs, hsL G.2.1 hs, blk G.2.1 sv]) _ _ := w
    refine lv_aload_n F.x F.b dX6_duty_0 rfl (lv_at hl 0 rfl) ?_
    refine rg F w cl6 0 rfl 0 (by decide) q301 rfl (v := .ref ((ad 1) 0)) rfl dX6_duty_1 ?_
    refine lv_aload_n F.x F.b dX6_duty_4 rfl (lv_at hl 0 rfl) ?_
    refine lv_iload_n F.x F.b dX6_duty_5 rfl (lv_at hl 1 rfl) ?_
    refine kXi F w hst (LC := [wXo G.2.1 (ad 0) (xF ad) (svV sv) K, wSh G.2.1 (ad 1) S]) (LR := [wSh G.2.1 (ad 2) Fc, wTe G.2.1 (ad 4) C, wSb G.2.1 (ad 5) ou, wAd G.2.1 (ad 6) D, wAb G.2.1 (ad 7) B, wHo G.2.1 (ad 3) cu ct hs, hsL G.2.1 hs, blk G.2.1 sv]) (As := [.int x1]) (rest := [.ref ((ad 1) 0)]) (t_X6_slotOf_ok F.1 hq hp) m_X6_slotOf v_X6_slotOf q1047 (ci := 10) (q0 := 0) rfl rfl rfl 10 [0, 1, 2, 3, 4, 5, 6, 7, 8, 9] rfl rfl rfl ⟨Nat.le_of_ble_eq_true rfl, Nat.le_of_ble_eq_true rfl⟩ rfl hl.1 rfl (Nat.le_of_ble_eq_true rfl) dX6_duty_6 ⟨Nat.le_of_ble_eq_true rfl, Nat.le_of_ble_eq_true rfl⟩ (fun _ _ _ _ _ _ hx => False.elim hx) (fun r9 w1 H locs h9 w => ?_)
    obtain ⟨rfl, h9⟩ := h9
    have w := w.jn (L1 := [wXo G.2.1 (ad 0) (xF ad) (svV sv) K, wSh G.2.1 (ad 1) S]) (L' := [wXo G.2.1 (ad 0) (xF ad) (svV sv) K, wSh G.2.1 (ad 1) S, wSh G.2.1 (ad 2) Fc, wTe G.2.1 (ad 4) C, wSb G.2.1 (ad 5) ou, wAd G.2.1 (ad 6) D, wAb G.2.1 (ad 7) B, wHo G.2.1 (ad 3) cu ct hs, hsL G.2.1 hs, blk G.2.1 sv]) h9 10 [0, 1, 2, 3, 4, 5, 6, 7, 8, 9] rfl rfl rfl
    refine kXi F w hst (LC := [wSh G.2.1 (ad 1) S]) (LR := [wXo G.2.1 (ad 0) (xF ad) (svV sv) K, wSh G.2.1 (ad 2) Fc, wTe G.2.1 (ad 4) C, wSb G.2.1 (ad 5) ou, wAd G.2.1 (ad 6) D, wAb G.2.1 (ad 7) B, wHo G.2.1 (ad 3) cu ct hs, hsL G.2.1 hs, blk G.2.1 sv]) (As := [.int (nI pp)]) (rest := []) (t_X4_dutyOf F.1 hd).toX m_X4_dutyOf v_X4_dutyOf q1216 (ci := 8) (q0 := 1) rfl rfl rfl 10 [1, 0, 2, 3, 4, 5, 6, 7, 8, 9] rfl rfl rfl ⟨Nat.le_of_ble_eq_true rfl, Nat.le_of_ble_eq_true rfl⟩ rfl hl.1 rfl (Nat.le_of_ble_eq_true rfl) dX6_duty_9 ⟨Nat.le_of_ble_eq_true rfl, Nat.le_of_ble_eq_true rfl⟩ (fun _ _ _ _ _ _ hx => False.elim hx) (fun r9 w1 H locs h9 w => ?_)
    obtain ⟨rfl, h9⟩ := h9
    have w := w.jn (L1 := [wSh G.2.1 (ad 1) S]) (L' := [wXo G.2.1 (ad 0) (xF ad) (svV sv) K, wSh G.2.1 (ad 1) S, wSh G.2.1 (ad 2) Fc, wTe G.2.1 (ad 4) C, wSb G.2.1 (ad 5) ou, wAd G.2.1 (ad 6) D, wAb G.2.1 (ad 7) B, wHo G.2.1 (ad 3) cu ct hs, hsL G.2.1 hs, blk G.2.1 sv]) h9 10 [1, 0, 2, 3, 4, 5, 6, 7, 8, 9] rfl rfl rfl
    exact eiX F w hr hlocks rfl ⟨K, S, Fc, C, D, B, cu, ct, hs, sv, ou, M', rfl, e2, e3, h.ask e4⟩ (Nat.le_of_ble_eq_true rfl) (Nat.le_of_ble_eq_true rfl) dX6_duty_12
set_option maxRecDepth 100000 in
set_option maxHeartbeats 4000000 in
theorem k_lot {G : cG} (g : GOK G) (gM : MG G) {ad : Nat → Nat → Nat} {N : Nat} {K S Fc C D B : Mem} {cu ct : Nat} {hs : hS} {sv : sV} {ou : oB} {M : Mem} {x1 : Int32} (h : Top N K S C cu ct hs sv ou M) : KT G ad N yX6_lot cX6_lot 2 .int [.ref ((ad 0) 0), .int x1] (fl (wTop G.2.1 ad K S Fc C D B cu ct hs sv ou)) [(eIOB, 1)] (f_X7_lot M x1) := by
  rcases q_lot h.1 x1 with ⟨hi, b9, M', e2, e3, e4⟩ | ⟨kk, mm, em, hk, hm, rfl, M', e2, e3, e4⟩
  · refine CX.of g (by decide) rfl (Nat.le_of_ble_eq_true rfl) ?_
    intro p l e s m below meth c A ls hst htab F hr hlocks w hl
    generalize ([.ref ((ad 0) 0), .int x1] : List Value).toArray = args
    have hl : lv_has ls 2 [(0, .ref ((ad 0) 0)), (1, .int x1)] := hl
    have w : Wd G A s.heap (fl [wXo G.2.1 (ad 0) (xF ad) (svV sv) K, wSh G.2.1 (ad 1) S, wSh G.2.1 (ad 2) Fc, wTe G.2.1 (ad 4) C, wSb G.2.1 (ad 5) ou, wAd G.2.1 (ad 6) D, wAb G.2.1 (ad 7) B, wHo G.2.1 (ad 3) cu ct hs, hsL G.2.1 hs, blk G.2.1 sv]) _ _ := w
    refine lv_iload_n F.x F.b dX6_lot_0 rfl (lv_at hl 1 rfl) ?_
    refine lv_aload_n F.x F.b dX6_lot_1 rfl (lv_at hl 0 rfl) ?_
    refine rg F w cl6 0 rfl 0 (by decide) q301 rfl (v := .ref ((ad 1) 0)) rfl dX6_lot_2 ?_
    refine rgN F w cl4 1 rfl 0 (by decide) q188 rfl (v := .ref ((ad 1) 1)) rfl dX6_lot_5 ?_
    refine rgN F w cl3 2 rfl 7 (by decide) q127 rfl (v := .int (S.1 0)) rfl dX6_lot_8 ?_
    refine kXSv F w hst (As := [.int x1, .int (S.1 0)]) (rest := []) (t_X6_checkIndex_no F.1 gM hi) m_X6_checkIndex v_X6_checkIndex q1037 ⟨Nat.le_of_ble_eq_true rfl, Nat.le_of_ble_eq_true rfl⟩ rfl hl.1 rfl (Nat.le_of_ble_eq_true rfl) dX6_lot_11 ⟨Nat.le_of_ble_eq_true rfl, Nat.le_of_ble_eq_true rfl⟩ (fun E w1 ce q H locs hx w hce hcv hcl => by obtain ⟨rfl, rfl⟩ := hx; exact exX w htab hlocks hce hcv hcl ⟨K, S, Fc, C, D, B, cu, ct, hs, sv, ou, M', b9, 1, rfl, e2, e3, List.mem_cons_self, h.ask e4⟩ (Nat.le_of_ble_eq_true rfl) (Nat.le_of_ble_eq_true rfl)) (fun w1 H locs h9 w => ?_)
    exact False.elim h9
  · refine CX.of g (by decide) rfl (Nat.le_of_ble_eq_true rfl) ?_
    intro p l e s m below meth c A ls hst htab F hr hlocks w hl
    generalize ([.ref ((ad 0) 0), .int (nI kk)] : List Value).toArray = args
    have hl : lv_has ls 2 [(0, .ref ((ad 0) 0)), (1, .int (nI kk))] := hl
    have w : Wd G A s.heap (fl [wXo G.2.1 (ad 0) (xF ad) (svV sv) K, wSh G.2.1 (ad 1) S, wSh G.2.1 (ad 2) Fc, wTe G.2.1 (ad 4) C, wSb G.2.1 (ad 5) ou, wAd G.2.1 (ad 6) D, wAb G.2.1 (ad 7) B, wHo G.2.1 (ad 3) cu ct hs, hsL G.2.1 hs, blk G.2.1 sv]) _ _ := w
    refine lv_iload_n F.x F.b dX6_lot_0 rfl (lv_at hl 1 rfl) ?_
    refine lv_aload_n F.x F.b dX6_lot_1 rfl (lv_at hl 0 rfl) ?_
    refine rg F w cl6 0 rfl 0 (by decide) q301 rfl (v := .ref ((ad 1) 0)) rfl dX6_lot_2 ?_
    refine rgN F w cl4 1 rfl 0 (by decide) q188 rfl (v := .ref ((ad 1) 1)) rfl dX6_lot_5 ?_
    refine rgN F w cl3 2 rfl 7 (by decide) q127 rfl (v := .int (S.1 0)) rfl dX6_lot_8 ?_
    refine kXSv F w hst (As := [.int (nI kk), .int (S.1 0)]) (rest := []) (t_X6_checkIndex_ok F.1 (by rw [em]; exact fun q => q.elim (nI_pos (by omega)) (nI_ge hk (by omega)))) m_X6_checkIndex v_X6_checkIndex q1037 ⟨Nat.le_of_ble_eq_true rfl, Nat.le_of_ble_eq_true rfl⟩ rfl hl.1 rfl (Nat.le_of_ble_eq_true rfl) dX6_lot_11 ⟨Nat.le_of_ble_eq_true rfl, Nat.le_of_ble_eq_true rfl⟩ (fun _ _ _ _ _ _ hx => False.elim hx) (fun w1 H locs h9 w => ?_)
    obtain rfl := h9
    have w : Wd G A s.heap (fl [wXo G.2.1 (ad 0) (xF ad) (svV sv) K, wSh G.2.1 (ad 1) S, wSh G.2.1 (ad 2) Fc, wTe G.2.1 (ad 4) C, wSb G.2.1 (ad 5) ou, wAd G.2.1 (ad 6) D, wAb G.2.1 (ad 7) B, wHo G.2.1 (ad 3) cu ct hs, hsL G.2.1 hs, blk G.2.1 sv]) _ _ := w
    refine lv_aload_n F.x F.b dX6_lot_14 rfl (lv_at hl 0 rfl) ?_
    refine rg F w cl6 0 rfl 0 (by decide) q301 rfl (v := .ref ((ad 1) 0)) rfl dX6_lot_15 ?_
    refine rgN F w cl4 1 rfl 0 (by decide) q188 rfl (v := .ref ((ad 1) 1)) rfl dX6_lot_18 ?_
    refine rgN F w cl3 2 rfl 0 (by decide) q107 rfl (v := .ref ((ad 1) 2)) rfl dX6_lot_21 ?_
    refine lv_iload_n F.x F.b dX6_lot_24 rfl (lv_at hl 1 rfl) ?_
    refine ri F w 3 (n := 16) (f := S.2 0) rfl (ib_nI (by omega) (by omega)) dX6_lot_25 ?_
    exact eiX F w hr hlocks rfl ⟨K, S, Fc, C, D, B, cu, ct, hs, sv, ou, M', rfl, (by rw [nI_clamp (by omega)]; exact e2), e3, h.ask e4⟩ (Nat.le_of_ble_eq_true rfl) (Nat.le_of_ble_eq_true rfl) dX6_lot_26
set_option maxRecDepth 100000 in
set_option maxHeartbeats 4000000 in
theorem k_threshold {G : cG} (g : GOK G) (gM : MG G) {ad : Nat → Nat → Nat} {N : Nat} {K S Fc C D B : Mem} {cu ct : Nat} {hs : hS} {sv : sV} {ou : oB} {M : Mem} {x1 : Int32} (h : Top N K S C cu ct hs sv ou M) : KT G ad N yX6_threshold cX6_threshold 2 .int [.ref ((ad 0) 0), .int x1] (fl (wTop G.2.1 ad K S Fc C D B cu ct hs sv ou)) [(eIOB, 1)] (f_X7_threshold M x1) := by
  rcases q_threshold h.1 x1 with ⟨hi, b9, M', e2, e3, e4⟩ | ⟨kk, mm, em, hk, hm, rfl, M', e2, e3, e4⟩
  · refine CX.of g (by decide) rfl (Nat.le_of_ble_eq_true rfl) ?_
    intro p l e s m below meth c A ls hst htab F hr hlocks w hl
    generalize ([.ref ((ad 0) 0), .int x1] : List Value).toArray = args
    have hl : lv_has ls 2 [(0, .ref ((ad 0) 0)), (1, .int x1)] := hl
    have w : Wd G A s.heap (fl [wXo G.2.1 (ad 0) (xF ad) (svV sv) K, wSh G.2.1 (ad 1) S, wSh G.2.1 (ad 2) Fc, wTe G.2.1 (ad 4) C, wSb G.2.1 (ad 5) ou, wAd G.2.1 (ad 6) D, wAb G.2.1 (ad 7) B, wHo G.2.1 (ad 3) cu ct hs, hsL G.2.1 hs, blk G.2.1 sv]) _ _ := w
    refine lv_iload_n F.x F.b dX6_threshold_0 rfl (lv_at hl 1 rfl) ?_
    refine lv_aload_n F.x F.b dX6_threshold_1 rfl (lv_at hl 0 rfl) ?_
    refine rg F w cl6 0 rfl 0 (by decide) q301 rfl (v := .ref ((ad 1) 0)) rfl dX6_threshold_2 ?_
    refine rgN F w cl4 1 rfl 1 (by decide) q190 rfl (v := .ref ((ad 1) 9)) rfl dX6_threshold_5 ?_
    refine rgN F w cl5 10 rfl 2 (by decide) q162 rfl (v := .int (S.1 2)) rfl dX6_threshold_8 ?_
    refine kXSv F w hst (As := [.int x1, .int (S.1 2)]) (rest := []) (t_X6_checkIndex_no F.1 gM hi) m_X6_checkIndex v_X6_checkIndex q1037 ⟨Nat.le_of_ble_eq_true rfl, Nat.le_of_ble_eq_true rfl⟩ rfl hl.1 rfl (Nat.le_of_ble_eq_true rfl) dX6_threshold_11 ⟨Nat.le_of_ble_eq_true rfl, Nat.le_of_ble_eq_true rfl⟩ (fun E w1 ce q H locs hx w hce hcv hcl => by obtain ⟨rfl, rfl⟩ := hx; exact exX w htab hlocks hce hcv hcl ⟨K, S, Fc, C, D, B, cu, ct, hs, sv, ou, M', b9, 1, rfl, e2, e3, List.mem_cons_self, h.ask e4⟩ (Nat.le_of_ble_eq_true rfl) (Nat.le_of_ble_eq_true rfl)) (fun w1 H locs h9 w => ?_)
    exact False.elim h9
  · refine CX.of g (by decide) rfl (Nat.le_of_ble_eq_true rfl) ?_
    intro p l e s m below meth c A ls hst htab F hr hlocks w hl
    generalize ([.ref ((ad 0) 0), .int (nI kk)] : List Value).toArray = args
    have hl : lv_has ls 2 [(0, .ref ((ad 0) 0)), (1, .int (nI kk))] := hl
    have w : Wd G A s.heap (fl [wXo G.2.1 (ad 0) (xF ad) (svV sv) K, wSh G.2.1 (ad 1) S, wSh G.2.1 (ad 2) Fc, wTe G.2.1 (ad 4) C, wSb G.2.1 (ad 5) ou, wAd G.2.1 (ad 6) D, wAb G.2.1 (ad 7) B, wHo G.2.1 (ad 3) cu ct hs, hsL G.2.1 hs, blk G.2.1 sv]) _ _ := w
    refine lv_iload_n F.x F.b dX6_threshold_0 rfl (lv_at hl 1 rfl) ?_
    refine lv_aload_n F.x F.b dX6_threshold_1 rfl (lv_at hl 0 rfl) ?_
    refine rg F w cl6 0 rfl 0 (by decide) q301 rfl (v := .ref ((ad 1) 0)) rfl dX6_threshold_2 ?_
    refine rgN F w cl4 1 rfl 1 (by decide) q190 rfl (v := .ref ((ad 1) 9)) rfl dX6_threshold_5 ?_
    refine rgN F w cl5 10 rfl 2 (by decide) q162 rfl (v := .int (S.1 2)) rfl dX6_threshold_8 ?_
    refine kXSv F w hst (As := [.int (nI kk), .int (S.1 2)]) (rest := []) (t_X6_checkIndex_ok F.1 (by rw [em]; exact fun q => q.elim (nI_pos (by omega)) (nI_ge hk (by omega)))) m_X6_checkIndex v_X6_checkIndex q1037 ⟨Nat.le_of_ble_eq_true rfl, Nat.le_of_ble_eq_true rfl⟩ rfl hl.1 rfl (Nat.le_of_ble_eq_true rfl) dX6_threshold_11 ⟨Nat.le_of_ble_eq_true rfl, Nat.le_of_ble_eq_true rfl⟩ (fun _ _ _ _ _ _ hx => False.elim hx) (fun w1 H locs h9 w => ?_)
    obtain rfl := h9
    have w : Wd G A s.heap (fl [wXo G.2.1 (ad 0) (xF ad) (svV sv) K, wSh G.2.1 (ad 1) S, wSh G.2.1 (ad 2) Fc, wTe G.2.1 (ad 4) C, wSb G.2.1 (ad 5) ou, wAd G.2.1 (ad 6) D, wAb G.2.1 (ad 7) B, wHo G.2.1 (ad 3) cu ct hs, hsL G.2.1 hs, blk G.2.1 sv]) _ _ := w
    refine lv_aload_n F.x F.b dX6_threshold_14 rfl (lv_at hl 0 rfl) ?_
    refine rg F w cl6 0 rfl 0 (by decide) q301 rfl (v := .ref ((ad 1) 0)) rfl dX6_threshold_15 ?_
    refine rgN F w cl4 1 rfl 1 (by decide) q190 rfl (v := .ref ((ad 1) 9)) rfl dX6_threshold_18 ?_
    refine rgN F w cl5 10 rfl 0 (by decide) q158 rfl (v := .ref ((ad 1) 10)) rfl dX6_threshold_21 ?_
    refine lv_iload_n F.x F.b dX6_threshold_24 rfl (lv_at hl 1 rfl) ?_
    refine ri F w 11 (n := 6) (f := S.2 7) rfl (ib_nI (Nat.lt_of_lt_of_le hk (trf_le h.1 em)) (by omega)) dX6_threshold_25 ?_
    exact eiX F w hr hlocks rfl ⟨K, S, Fc, C, D, B, cu, ct, hs, sv, ou, M', rfl, (by rw [nI_clamp (by omega)]; exact e2), e3, h.ask e4⟩ (Nat.le_of_ble_eq_true rfl) (Nat.le_of_ble_eq_true rfl) dX6_threshold_26
set_option maxRecDepth 100000 in
set_option maxHeartbeats 4000000 in
theorem k_rate {G : cG} (g : GOK G) (gM : MG G) {ad : Nat → Nat → Nat} {N : Nat} {K S Fc C D B : Mem} {cu ct : Nat} {hs : hS} {sv : sV} {ou : oB} {M : Mem} {x1 : Int32} (h : Top N K S C cu ct hs sv ou M) : KT G ad N yX6_rate cX6_rate 2 .int [.ref ((ad 0) 0), .int x1] (fl (wTop G.2.1 ad K S Fc C D B cu ct hs sv ou)) [(eIOB, 1)] (f_X7_rate M x1) := by
  rcases q_rate h.1 x1 with ⟨hi, b9, M', e2, e3, e4⟩ | ⟨kk, mm, em, hk, hm, rfl, M', e2, e3, e4⟩
  · refine CX.of g (by decide) rfl (Nat.le_of_ble_eq_true rfl) ?_
    intro p l e s m below meth c A ls hst htab F hr hlocks w hl
    generalize ([.ref ((ad 0) 0), .int x1] : List Value).toArray = args
    have hl : lv_has ls 2 [(0, .ref ((ad 0) 0)), (1, .int x1)] := hl
    have w : Wd G A s.heap (fl [wXo G.2.1 (ad 0) (xF ad) (svV sv) K, wSh G.2.1 (ad 1) S, wSh G.2.1 (ad 2) Fc, wTe G.2.1 (ad 4) C, wSb G.2.1 (ad 5) ou, wAd G.2.1 (ad 6) D, wAb G.2.1 (ad 7) B, wHo G.2.1 (ad 3) cu ct hs, hsL G.2.1 hs, blk G.2.1 sv]) _ _ := w
    refine lv_iload_n F.x F.b dX6_rate_0 rfl (lv_at hl 1 rfl) ?_
    refine lv_aload_n F.x F.b dX6_rate_1 rfl (lv_at hl 0 rfl) ?_
    refine rg F w cl6 0 rfl 0 (by decide) q301 rfl (v := .ref ((ad 1) 0)) rfl dX6_rate_2 ?_
    refine rgN F w cl4 1 rfl 1 (by decide) q190 rfl (v := .ref ((ad 1) 9)) rfl dX6_rate_5 ?_
    refine rgN F w cl5 10 rfl 2 (by decide) q162 rfl (v := .int (S.1 2)) rfl dX6_rate_8 ?_
    refine kXSv F w hst (As := [.int x1, .int (S.1 2)]) (rest := []) (t_X6_checkIndex_no F.1 gM hi) m_X6_checkIndex v_X6_checkIndex q1037 ⟨Nat.le_of_ble_eq_true rfl, Nat.le_of_ble_eq_true rfl⟩ rfl hl.1 rfl (Nat.le_of_ble_eq_true rfl) dX6_rate_11 ⟨Nat.le_of_ble_eq_true rfl, Nat.le_of_ble_eq_true rfl⟩ (fun E w1 ce q H locs hx w hce hcv hcl => by obtain ⟨rfl, rfl⟩ := hx; exact exX w htab hlocks hce hcv hcl ⟨K, S, Fc, C, D, B, cu, ct, hs, sv, ou, M', b9, 1, rfl, e2, e3, List.mem_cons_self, h.ask e4⟩ (Nat.le_of_ble_eq_true rfl) (Nat.le_of_ble_eq_true rfl)) (fun w1 H locs h9 w => ?_)
    exact False.elim h9
  · refine CX.of g (by decide) rfl (Nat.le_of_ble_eq_true rfl) ?_
    intro p l e s m below meth c A ls hst htab F hr hlocks w hl
    generalize ([.ref ((ad 0) 0), .int (nI kk)] : List Value).toArray = args
    have hl : lv_has ls 2 [(0, .ref ((ad 0) 0)), (1, .int (nI kk))] := hl
    have w : Wd G A s.heap (fl [wXo G.2.1 (ad 0) (xF ad) (svV sv) K, wSh G.2.1 (ad 1) S, wSh G.2.1 (ad 2) Fc, wTe G.2.1 (ad 4) C, wSb G.2.1 (ad 5) ou, wAd G.2.1 (ad 6) D, wAb G.2.1 (ad 7) B, wHo G.2.1 (ad 3) cu ct hs, hsL G.2.1 hs, blk G.2.1 sv]) _ _ := w
    refine lv_iload_n F.x F.b dX6_rate_0 rfl (lv_at hl 1 rfl) ?_
    refine lv_aload_n F.x F.b dX6_rate_1 rfl (lv_at hl 0 rfl) ?_
    refine rg F w cl6 0 rfl 0 (by decide) q301 rfl (v := .ref ((ad 1) 0)) rfl dX6_rate_2 ?_
    refine rgN F w cl4 1 rfl 1 (by decide) q190 rfl (v := .ref ((ad 1) 9)) rfl dX6_rate_5 ?_
    refine rgN F w cl5 10 rfl 2 (by decide) q162 rfl (v := .int (S.1 2)) rfl dX6_rate_8 ?_
    refine kXSv F w hst (As := [.int (nI kk), .int (S.1 2)]) (rest := []) (t_X6_checkIndex_ok F.1 (by rw [em]; exact fun q => q.elim (nI_pos (by omega)) (nI_ge hk (by omega)))) m_X6_checkIndex v_X6_checkIndex q1037 ⟨Nat.le_of_ble_eq_true rfl, Nat.le_of_ble_eq_true rfl⟩ rfl hl.1 rfl (Nat.le_of_ble_eq_true rfl) dX6_rate_11 ⟨Nat.le_of_ble_eq_true rfl, Nat.le_of_ble_eq_true rfl⟩ (fun _ _ _ _ _ _ hx => False.elim hx) (fun w1 H locs h9 w => ?_)
    obtain rfl := h9
    have w : Wd G A s.heap (fl [wXo G.2.1 (ad 0) (xF ad) (svV sv) K, wSh G.2.1 (ad 1) S, wSh G.2.1 (ad 2) Fc, wTe G.2.1 (ad 4) C, wSb G.2.1 (ad 5) ou, wAd G.2.1 (ad 6) D, wAb G.2.1 (ad 7) B, wHo G.2.1 (ad 3) cu ct hs, hsL G.2.1 hs, blk G.2.1 sv]) _ _ := w
    refine lv_aload_n F.x F.b dX6_rate_14 rfl (lv_at hl 0 rfl) ?_
    refine rg F w cl6 0 rfl 0 (by decide) q301 rfl (v := .ref ((ad 1) 0)) rfl dX6_rate_15 ?_
    refine rgN F w cl4 1 rfl 1 (by decide) q190 rfl (v := .ref ((ad 1) 9)) rfl dX6_rate_18 ?_
    refine rgN F w cl5 10 rfl 1 (by decide) q160 rfl (v := .ref ((ad 1) 11)) rfl dX6_rate_21 ?_
    refine lv_iload_n F.x F.b dX6_rate_24 rfl (lv_at hl 1 rfl) ?_
    refine ri F w 12 (n := 6) (f := S.2 8) rfl (ib_nI (Nat.lt_of_lt_of_le hk (trf_le h.1 em)) (by omega)) dX6_rate_25 ?_
    exact eiX F w hr hlocks rfl ⟨K, S, Fc, C, D, B, cu, ct, hs, sv, ou, M', rfl, (by rw [nI_clamp (by omega)]; exact e2), e3, h.ask e4⟩ (Nat.le_of_ble_eq_true rfl) (Nat.le_of_ble_eq_true rfl) dX6_rate_26
set_option maxRecDepth 100000 in
set_option maxHeartbeats 4000000 in
theorem k_queued {G : cG} (g : GOK G) (gM : MG G) {ad : Nat → Nat → Nat} {N : Nat} {K S Fc C D B : Mem} {cu ct : Nat} {hs : hS} {sv : sV} {ou : oB} {M : Mem} {x1 : Int32} (h : Top N K S C cu ct hs sv ou M) : KT G ad N yX6_queued cX6_queued 2 .int [.ref ((ad 0) 0), .int x1] (fl (wTop G.2.1 ad K S Fc C D B cu ct hs sv ou)) [(eIOB, 1)] (f_X7_queued M x1) := by
  rcases q_queued h.1 x1 with ⟨hi, b9, M', e2, e3, e4⟩ | ⟨kk, mm, em, hk, hm, rfl, M', e2, e3, e4⟩
  · refine CX.of g (by decide) rfl (Nat.le_of_ble_eq_true rfl) ?_
    intro p l e s m below meth c A ls hst htab F hr hlocks w hl
    generalize ([.ref ((ad 0) 0), .int x1] : List Value).toArray = args
    have hl : lv_has ls 2 [(0, .ref ((ad 0) 0)), (1, .int x1)] := hl
    have w : Wd G A s.heap (fl [wXo G.2.1 (ad 0) (xF ad) (svV sv) K, wSh G.2.1 (ad 1) S, wSh G.2.1 (ad 2) Fc, wTe G.2.1 (ad 4) C, wSb G.2.1 (ad 5) ou, wAd G.2.1 (ad 6) D, wAb G.2.1 (ad 7) B, wHo G.2.1 (ad 3) cu ct hs, hsL G.2.1 hs, blk G.2.1 sv]) _ _ := w
    refine lv_iload_n F.x F.b dX6_queued_0 rfl (lv_at hl 1 rfl) ?_
    refine lv_aload_n F.x F.b dX6_queued_1 rfl (lv_at hl 0 rfl) ?_
    refine rg F w cl6 0 rfl 0 (by decide) q301 rfl (v := .ref ((ad 1) 0)) rfl dX6_queued_2 ?_
    refine rgN F w cl4 1 rfl 2 (by decide) q192 rfl (v := .ref ((ad 1) 12)) rfl dX6_queued_5 ?_
    refine rgN F w cl0 13 rfl 1 (by decide) q181 rfl (v := .int (S.1 7)) rfl dX6_queued_8 ?_
    refine kXSv F w hst (As := [.int x1, .int (S.1 7)]) (rest := []) (t_X6_checkIndex_no F.1 gM hi) m_X6_checkIndex v_X6_checkIndex q1037 ⟨Nat.le_of_ble_eq_true rfl, Nat.le_of_ble_eq_true rfl⟩ rfl hl.1 rfl (Nat.le_of_ble_eq_true rfl) dX6_queued_11 ⟨Nat.le_of_ble_eq_true rfl, Nat.le_of_ble_eq_true rfl⟩ (fun E w1 ce q H locs hx w hce hcv hcl => by obtain ⟨rfl, rfl⟩ := hx; exact exX w htab hlocks hce hcv hcl ⟨K, S, Fc, C, D, B, cu, ct, hs, sv, ou, M', b9, 1, rfl, e2, e3, List.mem_cons_self, h.ask e4⟩ (Nat.le_of_ble_eq_true rfl) (Nat.le_of_ble_eq_true rfl)) (fun w1 H locs h9 w => ?_)
    exact False.elim h9
  · refine CX.of g (by decide) rfl (Nat.le_of_ble_eq_true rfl) ?_
    intro p l e s m below meth c A ls hst htab F hr hlocks w hl
    generalize ([.ref ((ad 0) 0), .int (nI kk)] : List Value).toArray = args
    have hl : lv_has ls 2 [(0, .ref ((ad 0) 0)), (1, .int (nI kk))] := hl
    have w : Wd G A s.heap (fl [wXo G.2.1 (ad 0) (xF ad) (svV sv) K, wSh G.2.1 (ad 1) S, wSh G.2.1 (ad 2) Fc, wTe G.2.1 (ad 4) C, wSb G.2.1 (ad 5) ou, wAd G.2.1 (ad 6) D, wAb G.2.1 (ad 7) B, wHo G.2.1 (ad 3) cu ct hs, hsL G.2.1 hs, blk G.2.1 sv]) _ _ := w
    refine lv_iload_n F.x F.b dX6_queued_0 rfl (lv_at hl 1 rfl) ?_
    refine lv_aload_n F.x F.b dX6_queued_1 rfl (lv_at hl 0 rfl) ?_
    refine rg F w cl6 0 rfl 0 (by decide) q301 rfl (v := .ref ((ad 1) 0)) rfl dX6_queued_2 ?_
    refine rgN F w cl4 1 rfl 2 (by decide) q192 rfl (v := .ref ((ad 1) 12)) rfl dX6_queued_5 ?_
    refine rgN F w cl0 13 rfl 1 (by decide) q181 rfl (v := .int (S.1 7)) rfl dX6_queued_8 ?_
    refine kXSv F w hst (As := [.int (nI kk), .int (S.1 7)]) (rest := []) (t_X6_checkIndex_ok F.1 (by rw [em]; exact fun q => q.elim (nI_pos (by omega)) (nI_ge hk (by omega)))) m_X6_checkIndex v_X6_checkIndex q1037 ⟨Nat.le_of_ble_eq_true rfl, Nat.le_of_ble_eq_true rfl⟩ rfl hl.1 rfl (Nat.le_of_ble_eq_true rfl) dX6_queued_11 ⟨Nat.le_of_ble_eq_true rfl, Nat.le_of_ble_eq_true rfl⟩ (fun _ _ _ _ _ _ hx => False.elim hx) (fun w1 H locs h9 w => ?_)
    obtain rfl := h9
    have w : Wd G A s.heap (fl [wXo G.2.1 (ad 0) (xF ad) (svV sv) K, wSh G.2.1 (ad 1) S, wSh G.2.1 (ad 2) Fc, wTe G.2.1 (ad 4) C, wSb G.2.1 (ad 5) ou, wAd G.2.1 (ad 6) D, wAb G.2.1 (ad 7) B, wHo G.2.1 (ad 3) cu ct hs, hsL G.2.1 hs, blk G.2.1 sv]) _ _ := w
    refine lv_aload_n F.x F.b dX6_queued_14 rfl (lv_at hl 0 rfl) ?_
    refine rg F w cl6 0 rfl 0 (by decide) q301 rfl (v := .ref ((ad 1) 0)) rfl dX6_queued_15 ?_
    refine rgN F w cl4 1 rfl 2 (by decide) q192 rfl (v := .ref ((ad 1) 12)) rfl dX6_queued_18 ?_
    refine rgN F w cl0 13 rfl 0 (by decide) q178 rfl (v := .ref ((ad 1) 13)) rfl dX6_queued_21 ?_
    refine lv_iload_n F.x F.b dX6_queued_24 rfl (lv_at hl 1 rfl) ?_
    refine ri F w 14 (n := 16) (f := S.2 9) rfl (ib_nI (by omega) (by omega)) dX6_queued_25 ?_
    exact eiX F w hr hlocks rfl ⟨K, S, Fc, C, D, B, cu, ct, hs, sv, ou, M', rfl, (by rw [nI_clamp (by omega)]; exact e2), e3, h.ask e4⟩ (Nat.le_of_ble_eq_true rfl) (Nat.le_of_ble_eq_true rfl) dX6_queued_26
set_option maxRecDepth 100000 in
set_option maxHeartbeats 4000000 in
theorem k_lotAt {G : cG} (g : GOK G) (gM : MG G) {ad : Nat → Nat → Nat} {N : Nat} {K S Fc C D B : Mem} {cu ct : Nat} {hs : hS} {sv : sV} {ou : oB} {M : Mem} {x1 : Int32} (h : Top N K S C cu ct hs sv ou M) : KT G ad N yX6_lotAt cX6_lotAt 3 .int [.ref ((ad 0) 0), .int x1] (fl (wTop G.2.1 ad K S Fc C D B cu ct hs sv ou)) [(eIOB, 1), (eNSE, 2)] (f_X7_lotAt M x1) := by
  rcases q_lotAt h.1 x1 with ⟨hi, b9, M', e2, e3, e4⟩ | ⟨bb, hb, rfl, ⟨hq, b9, M', e2, e3, e4⟩ | ⟨pp, hp, hq, M', e2, e3, e4⟩⟩
  · refine CX.of g (by decide) rfl (Nat.le_of_ble_eq_true rfl) ?_
    intro p l e s m below meth c A ls hst htab F hr hlocks w hl
    generalize ([.ref ((ad 0) 0), .int x1] : List Value).toArray = args
    have hl : lv_has ls 3 [(0, .ref ((ad 0) 0)), (1, .int x1)] := hl
    have w : Wd G A s.heap (fl [wXo G.2.1 (ad 0) (xF ad) (svV sv) K, wSh G.2.1 (ad 1) S, wSh G.2.1 (ad 2) Fc, wTe G.2.1 (ad 4) C, wSb G.2.1 (ad 5) ou, wAd G.2.1 (ad 6) D, wAb G.2.1 (ad 7) B, wHo G.2.1 (ad 3) cu ct hs, hsL G.2.1 hs, blk G.2.1 sv]) _ _ := w
    refine lv_iload_n F.x F.b dX6_lotAt_0 rfl (lv_at hl 1 rfl) ?_
    refine lv_bipush (v := 24) F.x F.b dX6_lotAt_1 (by decide) ?_
    refine kXSv F w hst (As := [.int x1, .int 24]) (rest := []) (t_X6_checkIndex_no F.1 gM hi) m_X6_checkIndex v_X6_checkIndex q1037 ⟨Nat.le_of_ble_eq_true rfl, Nat.le_of_ble_eq_true rfl⟩ rfl hl.1 rfl (Nat.le_of_ble_eq_true rfl) dX6_lotAt_3 ⟨Nat.le_of_ble_eq_true rfl, Nat.le_of_ble_eq_true rfl⟩ (fun E w1 ce q H locs hx w hce hcv hcl => by obtain ⟨rfl, rfl⟩ := hx; exact exX w htab hlocks hce hcv hcl ⟨K, S, Fc, C, D, B, cu, ct, hs, sv, ou, M', b9, 1, rfl, e2, e3, List.mem_cons_self, h.ask e4⟩ (Nat.le_of_ble_eq_true rfl) (Nat.le_of_ble_eq_true rfl)) (fun w1 H locs h9 w => ?_)
    exact False.elim h9
  · refine CX.of g (by decide) rfl (Nat.le_of_ble_eq_true rfl) ?_
    intro p l e s m below meth c A ls hst htab F hr hlocks w hl
    generalize ([.ref ((ad 0) 0), .int (nI bb)] : List Value).toArray = args
    have hl : lv_has ls 3 [(0, .ref ((ad 0) 0)), (1, .int (nI bb))] := hl
    have w : Wd G A s.heap (fl [wXo G.2.1 (ad 0) (xF ad) (svV sv) K, wSh G.2.1 (ad 1) S, wSh G.2.1 (ad 2) Fc, wTe G.2.1 (ad 4) C, wSb G.2.1 (ad 5) ou, wAd G.2.1 (ad 6) D, wAb G.2.1 (ad 7) B, wHo G.2.1 (ad 3) cu ct hs, hsL G.2.1 hs, blk G.2.1 sv]) _ _ := w
    refine lv_iload_n F.x F.b dX6_lotAt_0 rfl (lv_at hl 1 rfl) ?_
    refine lv_bipush (v := 24) F.x F.b dX6_lotAt_1 (by decide) ?_
    refine kXSv F w hst (As := [.int (nI bb), .int 24]) (rest := []) (t_X6_checkIndex_ok F.1 (fun q => q.elim (nI_pos (by omega)) (nI_ge (a := bb) (b := 24) hb (by omega)))) m_X6_checkIndex v_X6_checkIndex q1037 ⟨Nat.le_of_ble_eq_true rfl, Nat.le_of_ble_eq_true rfl⟩ rfl hl.1 rfl (Nat.le_of_ble_eq_true rfl) dX6_lotAt_3 ⟨Nat.le_of_ble_eq_true rfl, Nat.le_of_ble_eq_true rfl⟩ (fun _ _ _ _ _ _ hx => False.elim hx) (fun w1 H locs h9 w => ?_)
    obtain rfl := h9
    have w : Wd G A s.heap (fl [wXo G.2.1 (ad 0) (xF ad) (svV sv) K, wSh G.2.1 (ad 1) S, wSh G.2.1 (ad 2) Fc, wTe G.2.1 (ad 4) C, wSb G.2.1 (ad 5) ou, wAd G.2.1 (ad 6) D, wAb G.2.1 (ad 7) B, wHo G.2.1 (ad 3) cu ct hs, hsL G.2.1 hs, blk G.2.1 sv]) _ _ := w
    refine lv_aload_n F.x F.b dX6_lotAt_6 rfl (lv_at hl 0 rfl) ?_
    refine rg F w cl6 0 rfl 0 (by decide) q301 rfl (v := .ref ((ad 1) 0)) rfl dX6_lotAt_7 ?_
    refine rgN F w cl4 1 rfl 0 (by decide) q188 rfl (v := .ref ((ad 1) 1)) rfl dX6_lotAt_10 ?_
    refine lv_iload_n F.x F.b dX6_lotAt_13 rfl (lv_at hl 1 rfl) ?_
    refine kXi F w hst (LC := [wSh G.2.1 (ad 1) S]) (LR := [wXo G.2.1 (ad 0) (xF ad) (svV sv) K, wSh G.2.1 (ad 2) Fc, wTe G.2.1 (ad 4) C, wSb G.2.1 (ad 5) ou, wAd G.2.1 (ad 6) D, wAb G.2.1 (ad 7) B, wHo G.2.1 (ad 3) cu ct hs, hsL G.2.1 hs, blk G.2.1 sv]) (As := [.int (nI bb)]) (rest := []) (t_X3_slotAt F.1 hq).toX m_X3_slotAt v_X3_slotAt q1107 (ci := 7) (q0 := 2) rfl rfl rfl 10 [1, 0, 2, 3, 4, 5, 6, 7, 8, 9] rfl rfl rfl ⟨Nat.le_of_ble_eq_true rfl, Nat.le_of_ble_eq_true rfl⟩ rfl hl.1 rfl (Nat.le_of_ble_eq_true rfl) dX6_lotAt_14 ⟨Nat.le_of_ble_eq_true rfl, Nat.le_of_ble_eq_true rfl⟩ (fun _ _ _ _ _ _ hx => False.elim hx) (fun r9 w1 H locs h9 w => ?_)
    obtain ⟨rfl, h9⟩ := h9
    have w := w.jn (L1 := [wSh G.2.1 (ad 1) S]) (L' := [wXo G.2.1 (ad 0) (xF ad) (svV sv) K, wSh G.2.1 (ad 1) S, wSh G.2.1 (ad 2) Fc, wTe G.2.1 (ad 4) C, wSb G.2.1 (ad 5) ou, wAd G.2.1 (ad 6) D, wAb G.2.1 (ad 7) B, wHo G.2.1 (ad 3) cu ct hs, hsL G.2.1 hs, blk G.2.1 sv]) h9 10 [1, 0, 2, 3, 4, 5, 6, 7, 8, 9] rfl rfl rfl
    refine lv_istore_n (lv' := [(2, .int (-1)), (0, .ref ((ad 0) 0)), (1, .int (nI bb))]) F.x F.b dX6_lotAt_17 rfl hl (by decide) rfl (fun ls hl => ?_)
    refine lv_iload_n F.x F.b dX6_lotAt_18 rfl (lv_at hl 0 rfl) ?_
    refine lv_if_ge (tgt := 32) F.x F.b dX6_lotAt_19 (by decide) (fun c9 => absurd c9 (by decide)) (fun _ => ?_)
    exact wTN F w gM hst htab hlocks (is := 129) (by decide +kernel : (129, "the bay is empty") ∈ msgs) (⟨K, S, Fc, C, D, B, cu, ct, hs, sv, ou, M', b9, 2, rfl, e2, e3, (List.mem_cons_of_mem _ List.mem_cons_self), h.ask e4⟩) hl.1 dX6_lotAt_22 dX6_lotAt_25 dX6_lotAt_26 dX6_lotAt_28 dX6_lotAt_31 ⟨Nat.le_of_ble_eq_true rfl, Nat.le_of_ble_eq_true rfl, Nat.le_of_ble_eq_true rfl, Nat.le_of_ble_eq_true rfl⟩ ⟨Nat.le_of_ble_eq_true rfl, Nat.le_of_ble_eq_true rfl⟩
  · refine CX.of g (by decide) rfl (Nat.le_of_ble_eq_true rfl) ?_
    intro p l e s m below meth c A ls hst htab F hr hlocks w hl
    generalize ([.ref ((ad 0) 0), .int (nI bb)] : List Value).toArray = args
    have hl : lv_has ls 3 [(0, .ref ((ad 0) 0)), (1, .int (nI bb))] := hl
    have w : Wd G A s.heap (fl [wXo G.2.1 (ad 0) (xF ad) (svV sv) K, wSh G.2.1 (ad 1) S, wSh G.2.1 (ad 2) Fc, wTe G.2.1 (ad 4) C, wSb G.2.1 (ad 5) ou, wAd G.2.1 (ad 6) D, wAb G.2.1 (ad 7) B, wHo G.2.1 (ad 3) cu ct hs, hsL G.2.1 hs, blk G.2.1 sv]) _ _ := w
    refine lv_iload_n F.x F.b dX6_lotAt_0 rfl (lv_at hl 1 rfl) ?_
    refine lv_bipush (v := 24) F.x F.b dX6_lotAt_1 (by decide) ?_
    refine kXSv F w hst (As := [.int (nI bb), .int 24]) (rest := []) (t_X6_checkIndex_ok F.1 (fun q => q.elim (nI_pos (by omega)) (nI_ge (a := bb) (b := 24) hb (by omega)))) m_X6_checkIndex v_X6_checkIndex q1037 ⟨Nat.le_of_ble_eq_true rfl, Nat.le_of_ble_eq_true rfl⟩ rfl hl.1 rfl (Nat.le_of_ble_eq_true rfl) dX6_lotAt_3 ⟨Nat.le_of_ble_eq_true rfl, Nat.le_of_ble_eq_true rfl⟩ (fun _ _ _ _ _ _ hx => False.elim hx) (fun w1 H locs h9 w => ?_)
    obtain rfl := h9
    have w : Wd G A s.heap (fl [wXo G.2.1 (ad 0) (xF ad) (svV sv) K, wSh G.2.1 (ad 1) S, wSh G.2.1 (ad 2) Fc, wTe G.2.1 (ad 4) C, wSb G.2.1 (ad 5) ou, wAd G.2.1 (ad 6) D, wAb G.2.1 (ad 7) B, wHo G.2.1 (ad 3) cu ct hs, hsL G.2.1 hs, blk G.2.1 sv]) _ _ := w
    refine lv_aload_n F.x F.b dX6_lotAt_6 rfl (lv_at hl 0 rfl) ?_
    refine rg F w cl6 0 rfl 0 (by decide) q301 rfl (v := .ref ((ad 1) 0)) rfl dX6_lotAt_7 ?_
    refine rgN F w cl4 1 rfl 0 (by decide) q188 rfl (v := .ref ((ad 1) 1)) rfl dX6_lotAt_10 ?_
    refine lv_iload_n F.x F.b dX6_lotAt_13 rfl (lv_at hl 1 rfl) ?_
    refine kXi F w hst (LC := [wSh G.2.1 (ad 1) S]) (LR := [wXo G.2.1 (ad 0) (xF ad) (svV sv) K, wSh G.2.1 (ad 2) Fc, wTe G.2.1 (ad 4) C, wSb G.2.1 (ad 5) ou, wAd G.2.1 (ad 6) D, wAb G.2.1 (ad 7) B, wHo G.2.1 (ad 3) cu ct hs, hsL G.2.1 hs, blk G.2.1 sv]) (As := [.int (nI bb)]) (rest := []) (t_X3_slotAt F.1 hq).toX m_X3_slotAt v_X3_slotAt q1107 (ci := 7) (q0 := 2) rfl rfl rfl 10 [1, 0, 2, 3, 4, 5, 6, 7, 8, 9] rfl rfl rfl ⟨Nat.le_of_ble_eq_true rfl, Nat.le_of_ble_eq_true rfl⟩ rfl hl.1 rfl (Nat.le_of_ble_eq_true rfl) dX6_lotAt_14 ⟨Nat.le_of_ble_eq_true rfl, Nat.le_of_ble_eq_true rfl⟩ (fun _ _ _ _ _ _ hx => False.elim hx) (fun r9 w1 H locs h9 w => ?_)
    obtain ⟨rfl, h9⟩ := h9
    have w := w.jn (L1 := [wSh G.2.1 (ad 1) S]) (L' := [wXo G.2.1 (ad 0) (xF ad) (svV sv) K, wSh G.2.1 (ad 1) S, wSh G.2.1 (ad 2) Fc, wTe G.2.1 (ad 4) C, wSb G.2.1 (ad 5) ou, wAd G.2.1 (ad 6) D, wAb G.2.1 (ad 7) B, wHo G.2.1 (ad 3) cu ct hs, hsL G.2.1 hs, blk G.2.1 sv]) h9 10 [1, 0, 2, 3, 4, 5, 6, 7, 8, 9] rfl rfl rfl
    refine lv_istore_n (lv' := [(2, .int (nI pp)), (0, .ref ((ad 0) 0)), (1, .int (nI bb))]) F.x F.b dX6_lotAt_17 rfl hl (by decide) rfl (fun ls hl => ?_)
    refine lv_iload_n F.x F.b dX6_lotAt_18 rfl (lv_at hl 0 rfl) ?_
    refine lv_if_ge (tgt := 32) F.x F.b dX6_lotAt_19 (by decide) (fun _ => ?_) (fun c9 => absurd (nI_pos' (n := pp) (by omega)) c9)
    refine lv_aload_n F.x F.b dX6_lotAt_32 rfl (lv_at hl 1 rfl) ?_
    refine rg F w cl6 0 rfl 0 (by decide) q301 rfl (v := .ref ((ad 1) 0)) rfl dX6_lotAt_33 ?_
    refine rgN F w cl4 1 rfl 0 (by decide) q188 rfl (v := .ref ((ad 1) 1)) rfl dX6_lotAt_36 ?_
    refine rgN F w cl3 2 rfl 0 (by decide) q107 rfl (v := .ref ((ad 1) 2)) rfl dX6_lotAt_39 ?_
    refine lv_iload_n F.x F.b dX6_lotAt_42 rfl (lv_at hl 0 rfl) ?_
    refine ri F w 3 (n := 16) (f := S.2 0) rfl (ib_nI hp (by omega)) dX6_lotAt_43 ?_
    exact eiX F w hr hlocks rfl ⟨K, S, Fc, C, D, B, cu, ct, hs, sv, ou, M', rfl, (by rw [nI_clamp (by omega)]; exact e2), e3, h.ask e4⟩ (Nat.le_of_ble_eq_true rfl) (Nat.le_of_ble_eq_true rfl) dX6_lotAt_44
set_option maxRecDepth 100000 in
set_option maxHeartbeats 4000000 in
theorem k_quantityOfKind {G : cG} (g : GOK G) (gM : MG G) {ad : Nat → Nat → Nat} {N : Nat} {K S Fc C D B : Mem} {cu ct : Nat} {hs : hS} {sv : sV} {ou : oB} {M : Mem} {x1 : Int32} (h : Top N K S C cu ct hs sv ou M) : KT G ad N yX6_quantityOfKind cX6_quantityOfKind 2 .int [.ref ((ad 0) 0), .int x1] (fl (wTop G.2.1 ad K S Fc C D B cu ct hs sv ou)) [(eIAE, 1)] (f_X7_quantityOfKind M x1) := by
  rcases q_ofKind h.1 x1 with ⟨hk, b9, M', e2, e3, e4⟩ | ⟨hk, rr, hq, M', e2, e3, e4⟩
  · refine CX.of g (by decide) rfl (Nat.le_of_ble_eq_true rfl) ?_
    intro p l e s m below meth c A ls hst htab F hr hlocks w hl
    generalize ([.ref ((ad 0) 0), .int x1] : List Value).toArray = args
    have hl : lv_has ls 2 [(0, .ref ((ad 0) 0)), (1, .int x1)] := hl
    have w : Wd G A s.heap (fl [wXo G.2.1 (ad 0) (xF ad) (svV sv) K, wSh G.2.1 (ad 1) S, wSh G.2.1 (ad 2) Fc, wTe G.2.1 (ad 4) C, wSb G.2.1 (ad 5) ou, wAd G.2.1 (ad 6) D, wAb G.2.1 (ad 7) B, wHo G.2.1 (ad 3) cu ct hs, hsL G.2.1 hs, blk G.2.1 sv]) _ _ := w
    refine lv_iload_n F.x F.b dX6_quantityOfKind_0 rfl (lv_at hl 1 rfl) ?_
    refine kSi F w (t_X6_isKind F.1 hk) m_X6_isKind v_X6_isKind q1124 (As := [.int x1]) (rest := []) ⟨Nat.le_of_ble_eq_true rfl, Nat.le_of_ble_eq_true rfl⟩ rfl hl.1 rfl (Nat.le_of_ble_eq_true rfl) dX6_quantityOfKind_1 ⟨Nat.le_of_ble_eq_true rfl, Nat.le_of_ble_eq_true rfl⟩ (fun H locs w => ?_)
    refine lv_if_ne (tgt := 17) F.x F.b dX6_quantityOfKind_4 (by decide) (fun c9 => absurd (by decide) c9) (fun _ => ?_)
    exact wTS F w gM hst htab hlocks hS_IAE (is := 142) (by decide +kernel : (142, "a kind is from a to e") ∈ msgs) (⟨K, S, Fc, C, D, B, cu, ct, hs, sv, ou, M', b9, 1, rfl, e2, e3, List.mem_cons_self, h.ask e4⟩) hl.1 dX6_quantityOfKind_7 dX6_quantityOfKind_10 dX6_quantityOfKind_11 dX6_quantityOfKind_13 dX6_quantityOfKind_16 ⟨Nat.le_of_ble_eq_true rfl, Nat.le_of_ble_eq_true rfl, Nat.le_of_ble_eq_true rfl, Nat.le_of_ble_eq_true rfl⟩ ⟨Nat.le_of_ble_eq_true rfl, Nat.le_of_ble_eq_true rfl⟩
  · refine CX.of g (by decide) rfl (Nat.le_of_ble_eq_true rfl) ?_
    intro p l e s m below meth c A ls hst htab F hr hlocks w hl
    generalize ([.ref ((ad 0) 0), .int x1] : List Value).toArray = args
    have hl : lv_has ls 2 [(0, .ref ((ad 0) 0)), (1, .int x1)] := hl
    have w : Wd G A s.heap (fl [wXo G.2.1 (ad 0) (xF ad) (svV sv) K, wSh G.2.1 (ad 1) S, wSh G.2.1 (ad 2) Fc, wTe G.2.1 (ad 4) C, wSb G.2.1 (ad 5) ou, wAd G.2.1 (ad 6) D, wAb G.2.1 (ad 7) B, wHo G.2.1 (ad 3) cu ct hs, hsL G.2.1 hs, blk G.2.1 sv]) _ _ := w
    refine lv_iload_n F.x F.b dX6_quantityOfKind_0 rfl (lv_at hl 1 rfl) ?_
    refine kSi F w (t_X6_isKind F.1 hk) m_X6_isKind v_X6_isKind q1124 (As := [.int x1]) (rest := []) ⟨Nat.le_of_ble_eq_true rfl, Nat.le_of_ble_eq_true rfl⟩ rfl hl.1 rfl (Nat.le_of_ble_eq_true rfl) dX6_quantityOfKind_1 ⟨Nat.le_of_ble_eq_true rfl, Nat.le_of_ble_eq_true rfl⟩ (fun H locs w => ?_)
    refine lv_if_ne (tgt := 17) F.x F.b dX6_quantityOfKind_4 (by decide) (fun _ => ?_) (fun c9 => absurd c9 (by decide))
    refine lv_aload_n F.x F.b dX6_quantityOfKind_17 rfl (lv_at hl 0 rfl) ?_
    refine rg F w cl6 0 rfl 0 (by decide) q301 rfl (v := .ref ((ad 1) 0)) rfl dX6_quantityOfKind_18 ?_
    refine rgN F w cl4 1 rfl 0 (by decide) q188 rfl (v := .ref ((ad 1) 1)) rfl dX6_quantityOfKind_21 ?_
    refine lv_iload_n F.x F.b dX6_quantityOfKind_24 rfl (lv_at hl 1 rfl) ?_
    refine kXi F w hst (LC := [wSh G.2.1 (ad 1) S]) (LR := [wXo G.2.1 (ad 0) (xF ad) (svV sv) K, wSh G.2.1 (ad 2) Fc, wTe G.2.1 (ad 4) C, wSb G.2.1 (ad 5) ou, wAd G.2.1 (ad 6) D, wAb G.2.1 (ad 7) B, wHo G.2.1 (ad 3) cu ct hs, hsL G.2.1 hs, blk G.2.1 sv]) (As := [.int x1]) (rest := []) (t_X3_quantityOf F.1 hq).toX m_X3_quantityOf v_X3_quantityOf q1127 (ci := 7) (q0 := 2) rfl rfl rfl 10 [1, 0, 2, 3, 4, 5, 6, 7, 8, 9] rfl rfl rfl ⟨Nat.le_of_ble_eq_true rfl, Nat.le_of_ble_eq_true rfl⟩ rfl hl.1 rfl (Nat.le_of_ble_eq_true rfl) dX6_quantityOfKind_25 ⟨Nat.le_of_ble_eq_true rfl, Nat.le_of_ble_eq_true rfl⟩ (fun _ _ _ _ _ _ hx => False.elim hx) (fun r9 w1 H locs h9 w => ?_)
    obtain ⟨rfl, h9⟩ := h9
    have w := w.jn (L1 := [wSh G.2.1 (ad 1) S]) (L' := [wXo G.2.1 (ad 0) (xF ad) (svV sv) K, wSh G.2.1 (ad 1) S, wSh G.2.1 (ad 2) Fc, wTe G.2.1 (ad 4) C, wSb G.2.1 (ad 5) ou, wAd G.2.1 (ad 6) D, wAb G.2.1 (ad 7) B, wHo G.2.1 (ad 3) cu ct hs, hsL G.2.1 hs, blk G.2.1 sv]) h9 10 [1, 0, 2, 3, 4, 5, 6, 7, 8, 9] rfl rfl rfl
    exact eiX F w hr hlocks rfl ⟨K, S, Fc, C, D, B, cu, ct, hs, sv, ou, M', rfl, e2, e3, h.ask e4⟩ (Nat.le_of_ble_eq_true rfl) (Nat.le_of_ble_eq_true rfl) dX6_quantityOfKind_28
set_option maxRecDepth 100000 in
set_option maxHeartbeats 4000000 in
theorem k_lotByValue {G : cG} (g : GOK G) (gM : MG G) {ad : Nat → Nat → Nat} {N : Nat} {K S Fc C D B : Mem} {cu ct : Nat} {hs : hS} {sv : sV} {ou : oB} {M : Mem} {x1 : Int32} (h : Top N K S C cu ct hs sv ou M) : KT G ad N yX6_lotByValue cX6_lotByValue 3 .int [.ref ((ad 0) 0), .int x1] (fl (wTop G.2.1 ad K S Fc C D B cu ct hs sv ou)) [(eIOB, 1)] (f_X7_lotByValue M x1) := by
  rcases q_rank h.1 x1 with ⟨hq, b9, M', e2, e3, e4⟩ | ⟨pp, hp, hq, M', e2, e3, e4⟩
  · refine CX.of g (by decide) rfl (Nat.le_of_ble_eq_true rfl) ?_
    intro p l e s m below meth c A ls hst htab F hr hlocks w hl
    generalize ([.ref ((ad 0) 0), .int x1] : List Value).toArray = args
    have hl : lv_has ls 3 [(0, .ref ((ad 0) 0)), (1, .int x1)] := hl
    have w : Wd G A s.heap (fl [wXo G.2.1 (ad 0) (xF ad) (svV sv) K, wSh G.2.1 (ad 1) S, wSh G.2.1 (ad 2) Fc, wTe G.2.1 (ad 4) C, wSb G.2.1 (ad 5) ou, wAd G.2.1 (ad 6) D, wAb G.2.1 (ad 7) B, wHo G.2.1 (ad 3) cu ct hs, hsL G.2.1 hs, blk G.2.1 sv]) _ _ := w
    refine lv_aload_n F.x F.b dX6_lotByValue_0 rfl (lv_at hl 0 rfl) ?_
    refine rg F w cl6 0 rfl 0 (by decide) q301 rfl (v := .ref ((ad 1) 0)) rfl dX6_lotByValue_1 ?_
    refine rgN F w cl4 1 rfl 0 (by decide) q188 rfl (v := .ref ((ad 1) 1)) rfl dX6_lotByValue_4 ?_
    refine lv_iload_n F.x F.b dX6_lotByValue_7 rfl (lv_at hl 1 rfl) ?_
    refine kXi F w hst (LC := [wSh G.2.1 (ad 1) S]) (LR := [wXo G.2.1 (ad 0) (xF ad) (svV sv) K, wSh G.2.1 (ad 2) Fc, wTe G.2.1 (ad 4) C, wSb G.2.1 (ad 5) ou, wAd G.2.1 (ad 6) D, wAb G.2.1 (ad 7) B, wHo G.2.1 (ad 3) cu ct hs, hsL G.2.1 hs, blk G.2.1 sv]) (As := [.int x1]) (rest := []) (t_X3_slotByValue F.1 hq).toX m_X3_slotByValue v_X3_slotByValue q1138 (ci := 7) (q0 := 2) rfl rfl rfl 10 [1, 0, 2, 3, 4, 5, 6, 7, 8, 9] rfl rfl rfl ⟨Nat.le_of_ble_eq_true rfl, Nat.le_of_ble_eq_true rfl⟩ rfl hl.1 rfl (Nat.le_of_ble_eq_true rfl) dX6_lotByValue_8 ⟨Nat.le_of_ble_eq_true rfl, Nat.le_of_ble_eq_true rfl⟩ (fun _ _ _ _ _ _ hx => False.elim hx) (fun r9 w1 H locs h9 w => ?_)
    obtain ⟨rfl, h9⟩ := h9
    have w := w.jn (L1 := [wSh G.2.1 (ad 1) S]) (L' := [wXo G.2.1 (ad 0) (xF ad) (svV sv) K, wSh G.2.1 (ad 1) S, wSh G.2.1 (ad 2) Fc, wTe G.2.1 (ad 4) C, wSb G.2.1 (ad 5) ou, wAd G.2.1 (ad 6) D, wAb G.2.1 (ad 7) B, wHo G.2.1 (ad 3) cu ct hs, hsL G.2.1 hs, blk G.2.1 sv]) h9 10 [1, 0, 2, 3, 4, 5, 6, 7, 8, 9] rfl rfl rfl
    refine lv_istore_n (lv' := [(2, .int (-1)), (0, .ref ((ad 0) 0)), (1, .int x1)]) F.x F.b dX6_lotByValue_11 rfl hl (by decide) rfl (fun ls hl => ?_)
    refine lv_iload_n F.x F.b dX6_lotByValue_12 rfl (lv_at hl 0 rfl) ?_
    refine lv_if_ge (tgt := 26) F.x F.b dX6_lotByValue_13 (by decide) (fun c9 => absurd c9 (by decide)) (fun _ => ?_)
    exact wTS F w gM hst htab hlocks hS_IOB (is := 154) (by decide +kernel : (154, "no such rank") ∈ msgs) (⟨K, S, Fc, C, D, B, cu, ct, hs, sv, ou, M', b9, 1, rfl, e2, e3, List.mem_cons_self, h.ask e4⟩) hl.1 dX6_lotByValue_16 dX6_lotByValue_19 dX6_lotByValue_20 dX6_lotByValue_22 dX6_lotByValue_25 ⟨Nat.le_of_ble_eq_true rfl, Nat.le_of_ble_eq_true rfl, Nat.le_of_ble_eq_true rfl, Nat.le_of_ble_eq_true rfl⟩ ⟨Nat.le_of_ble_eq_true rfl, Nat.le_of_ble_eq_true rfl⟩
  · refine CX.of g (by decide) rfl (Nat.le_of_ble_eq_true rfl) ?_
    intro p l e s m below meth c A ls hst htab F hr hlocks w hl
    generalize ([.ref ((ad 0) 0), .int x1] : List Value).toArray = args
    have hl : lv_has ls 3 [(0, .ref ((ad 0) 0)), (1, .int x1)] := hl
    have w : Wd G A s.heap (fl [wXo G.2.1 (ad 0) (xF ad) (svV sv) K, wSh G.2.1 (ad 1) S, wSh G.2.1 (ad 2) Fc, wTe G.2.1 (ad 4) C, wSb G.2.1 (ad 5) ou, wAd G.2.1 (ad 6) D, wAb G.2.1 (ad 7) B, wHo G.2.1 (ad 3) cu ct hs, hsL G.2.1 hs, blk G.2.1 sv]) _ _ := w
    refine lv_aload_n F.x F.b dX6_lotByValue_0 rfl (lv_at hl 0 rfl) ?_
    refine rg F w cl6 0 rfl 0 (by decide) q301 rfl (v := .ref ((ad 1) 0)) rfl dX6_lotByValue_1 ?_
    refine rgN F w cl4 1 rfl 0 (by decide) q188 rfl (v := .ref ((ad 1) 1)) rfl dX6_lotByValue_4 ?_
    refine lv_iload_n F.x F.b dX6_lotByValue_7 rfl (lv_at hl 1 rfl) ?_
    refine kXi F w hst (LC := [wSh G.2.1 (ad 1) S]) (LR := [wXo G.2.1 (ad 0) (xF ad) (svV sv) K, wSh G.2.1 (ad 2) Fc, wTe G.2.1 (ad 4) C, wSb G.2.1 (ad 5) ou, wAd G.2.1 (ad 6) D, wAb G.2.1 (ad 7) B, wHo G.2.1 (ad 3) cu ct hs, hsL G.2.1 hs, blk G.2.1 sv]) (As := [.int x1]) (rest := []) (t_X3_slotByValue F.1 hq).toX m_X3_slotByValue v_X3_slotByValue q1138 (ci := 7) (q0 := 2) rfl rfl rfl 10 [1, 0, 2, 3, 4, 5, 6, 7, 8, 9] rfl rfl rfl ⟨Nat.le_of_ble_eq_true rfl, Nat.le_of_ble_eq_true rfl⟩ rfl hl.1 rfl (Nat.le_of_ble_eq_true rfl) dX6_lotByValue_8 ⟨Nat.le_of_ble_eq_true rfl, Nat.le_of_ble_eq_true rfl⟩ (fun _ _ _ _ _ _ hx => False.elim hx) (fun r9 w1 H locs h9 w => ?_)
    obtain ⟨rfl, h9⟩ := h9
    have w := w.jn (L1 := [wSh G.2.1 (ad 1) S]) (L' := [wXo G.2.1 (ad 0) (xF ad) (svV sv) K, wSh G.2.1 (ad 1) S, wSh G.2.1 (ad 2) Fc, wTe G.2.1 (ad 4) C, wSb G.2.1 (ad 5) ou, wAd G.2.1 (ad 6) D, wAb G.2.1 (ad 7) B, wHo G.2.1 (ad 3) cu ct hs, hsL G.2.1 hs, blk G.2.1 sv]) h9 10 [1, 0, 2, 3, 4, 5, 6, 7, 8, 9] rfl rfl rfl
    refine lv_istore_n (lv' := [(2, .int (nI pp)), (0, .ref ((ad 0) 0)), (1, .int x1)]) F.x F.b dX6_lotByValue_11 rfl hl (by decide) rfl (fun ls hl => ?_)
    refine lv_iload_n F.x F.b dX6_lotByValue_12 rfl (lv_at hl 0 rfl) ?_
    refine lv_if_ge (tgt := 26) F.x F.b dX6_lotByValue_13 (by decide) (fun _ => ?_) (fun c9 => absurd (nI_pos' (n := pp) (by omega)) c9)
    refine lv_aload_n F.x F.b dX6_lotByValue_26 rfl (lv_at hl 1 rfl) ?_
    refine rg F w cl6 0 rfl 0 (by decide) q301 rfl (v := .ref ((ad 1) 0)) rfl dX6_lotByValue_27 ?_
    refine rgN F w cl4 1 rfl 0 (by decide) q188 rfl (v := .ref ((ad 1) 1)) rfl dX6_lotByValue_30 ?_
    refine rgN F w cl3 2 rfl 0 (by decide) q107 rfl (v := .ref ((ad 1) 2)) rfl dX6_lotByValue_33 ?_
    refine lv_iload_n F.x F.b dX6_lotByValue_36 rfl (lv_at hl 0 rfl) ?_
    refine ri F w 3 (n := 16) (f := S.2 0) rfl (ib_nI hp (by omega)) dX6_lotByValue_37 ?_
    exact eiX F w hr hlocks rfl ⟨K, S, Fc, C, D, B, cu, ct, hs, sv, ou, M', rfl, (by rw [nI_clamp (by omega)]; exact e2), e3, h.ask e4⟩ (Nat.le_of_ble_eq_true rfl) (Nat.le_of_ble_eq_true rfl) dX6_lotByValue_38
set_option maxRecDepth 100000 in
set_option maxHeartbeats 4000000 in
theorem k_dutyOn {G : cG} (g : GOK G) (gM : MG G) {ad : Nat → Nat → Nat} {N : Nat} {K S Fc C D B : Mem} {cu ct : Nat} {hs : hS} {sv : sV} {ou : oB} {M : Mem} {x1 : Int32} (h : Top N K S C cu ct hs sv ou M) : KT G ad N yX6_dutyOn cX6_dutyOn 2 .int [.ref ((ad 0) 0), .int x1] (fl (wTop G.2.1 ad K S Fc C D B cu ct hs sv ou)) [(eIAE, 1)] (f_X7_dutyOn M x1) := by
  rcases q_dutyOn h.1 x1 with ⟨hi, ⟨b9, M', e2, e3, e4⟩, -⟩ | ⟨hi, rr, hq, -, ⟨M', e2, e3, e4⟩, -⟩
  · refine CX.of g (by decide) rfl (Nat.le_of_ble_eq_true rfl) ?_
    intro p l e s m below meth c A ls hst htab F hr hlocks w hl
    generalize ([.ref ((ad 0) 0), .int x1] : List Value).toArray = args
    have hl : lv_has ls 2 [(0, .ref ((ad 0) 0)), (1, .int x1)] := hl
    have w : Wd G A s.heap (fl [wXo G.2.1 (ad 0) (xF ad) (svV sv) K, wSh G.2.1 (ad 1) S, wSh G.2.1 (ad 2) Fc, wTe G.2.1 (ad 4) C, wSb G.2.1 (ad 5) ou, wAd G.2.1 (ad 6) D, wAb G.2.1 (ad 7) B, wHo G.2.1 (ad 3) cu ct hs, hsL G.2.1 hs, blk G.2.1 sv]) _ _ := w
    refine lv_iload_n F.x F.b dX6_dutyOn_0 rfl (lv_at hl 1 rfl) ?_
    refine kXSv F w hst (As := [.int x1]) (rest := []) (t_X6_checkValue_no F.1 gM hi) m_X6_checkValue v_X6_checkValue q1196 ⟨Nat.le_of_ble_eq_true rfl, Nat.le_of_ble_eq_true rfl⟩ rfl hl.1 rfl (Nat.le_of_ble_eq_true rfl) dX6_dutyOn_1 ⟨Nat.le_of_ble_eq_true rfl, Nat.le_of_ble_eq_true rfl⟩ (fun E w1 ce q H locs hx w hce hcv hcl => by obtain ⟨rfl, rfl⟩ := hx; exact exX w htab hlocks hce hcv hcl ⟨K, S, Fc, C, D, B, cu, ct, hs, sv, ou, M', b9, 1, rfl, e2, e3, List.mem_cons_self, h.ask e4⟩ (Nat.le_of_ble_eq_true rfl) (Nat.le_of_ble_eq_true rfl)) (fun w1 H locs h9 w => ?_)
    exact False.elim h9
  · refine CX.of g (by decide) rfl (Nat.le_of_ble_eq_true rfl) ?_
    intro p l e s m below meth c A ls hst htab F hr hlocks w hl
    generalize ([.ref ((ad 0) 0), .int x1] : List Value).toArray = args
    have hl : lv_has ls 2 [(0, .ref ((ad 0) 0)), (1, .int x1)] := hl
    have w : Wd G A s.heap (fl [wXo G.2.1 (ad 0) (xF ad) (svV sv) K, wSh G.2.1 (ad 1) S, wSh G.2.1 (ad 2) Fc, wTe G.2.1 (ad 4) C, wSb G.2.1 (ad 5) ou, wAd G.2.1 (ad 6) D, wAb G.2.1 (ad 7) B, wHo G.2.1 (ad 3) cu ct hs, hsL G.2.1 hs, blk G.2.1 sv]) _ _ := w
    refine lv_iload_n F.x F.b dX6_dutyOn_0 rfl (lv_at hl 1 rfl) ?_
    refine kXSv F w hst (As := [.int x1]) (rest := []) (t_X6_checkValue_ok F.1 hi) m_X6_checkValue v_X6_checkValue q1196 ⟨Nat.le_of_ble_eq_true rfl, Nat.le_of_ble_eq_true rfl⟩ rfl hl.1 rfl (Nat.le_of_ble_eq_true rfl) dX6_dutyOn_1 ⟨Nat.le_of_ble_eq_true rfl, Nat.le_of_ble_eq_true rfl⟩ (fun _ _ _ _ _ _ hx => False.elim hx) (fun w1 H locs h9 w => ?_)
    obtain rfl := h9
    have w : Wd G A s.heap (fl [wXo G.2.1 (ad 0) (xF ad) (svV sv) K, wSh G.2.1 (ad 1) S, wSh G.2.1 (ad 2) Fc, wTe G.2.1 (ad 4) C, wSb G.2.1 (ad 5) ou, wAd G.2.1 (ad 6) D, wAb G.2.1 (ad 7) B, wHo G.2.1 (ad 3) cu ct hs, hsL G.2.1 hs, blk G.2.1 sv]) _ _ := w
    refine lv_aload_n F.x F.b dX6_dutyOn_4 rfl (lv_at hl 0 rfl) ?_
    refine rg F w cl6 0 rfl 0 (by decide) q301 rfl (v := .ref ((ad 1) 0)) rfl dX6_dutyOn_5 ?_
    refine rgN F w cl4 1 rfl 1 (by decide) q190 rfl (v := .ref ((ad 1) 9)) rfl dX6_dutyOn_8 ?_
    refine lv_iload_n F.x F.b dX6_dutyOn_11 rfl (lv_at hl 1 rfl) ?_
    refine kXi F w hst (LC := [wSh G.2.1 (ad 1) S]) (LR := [wXo G.2.1 (ad 0) (xF ad) (svV sv) K, wSh G.2.1 (ad 2) Fc, wTe G.2.1 (ad 4) C, wSb G.2.1 (ad 5) ou, wAd G.2.1 (ad 6) D, wAb G.2.1 (ad 7) B, wHo G.2.1 (ad 3) cu ct hs, hsL G.2.1 hs, blk G.2.1 sv]) (As := [.int x1]) (rest := []) (t_X5_dutyByParts F.1 hq).toX m_X5_dutyByParts v_X5_dutyByParts q1200 (ci := 9) (q0 := 10) rfl rfl rfl 10 [1, 0, 2, 3, 4, 5, 6, 7, 8, 9] rfl rfl rfl ⟨Nat.le_of_ble_eq_true rfl, Nat.le_of_ble_eq_true rfl⟩ rfl hl.1 rfl (Nat.le_of_ble_eq_true rfl) dX6_dutyOn_12 ⟨Nat.le_of_ble_eq_true rfl, Nat.le_of_ble_eq_true rfl⟩ (fun _ _ _ _ _ _ hx => False.elim hx) (fun r9 w1 H locs h9 w => ?_)
    obtain ⟨rfl, h9⟩ := h9
    have w := w.jn (L1 := [wSh G.2.1 (ad 1) S]) (L' := [wXo G.2.1 (ad 0) (xF ad) (svV sv) K, wSh G.2.1 (ad 1) S, wSh G.2.1 (ad 2) Fc, wTe G.2.1 (ad 4) C, wSb G.2.1 (ad 5) ou, wAd G.2.1 (ad 6) D, wAb G.2.1 (ad 7) B, wHo G.2.1 (ad 3) cu ct hs, hsL G.2.1 hs, blk G.2.1 sv]) h9 10 [1, 0, 2, 3, 4, 5, 6, 7, 8, 9] rfl rfl rfl
    exact eiX F w hr hlocks rfl ⟨K, S, Fc, C, D, B, cu, ct, hs, sv, ou, M', rfl, e2, e3, h.ask e4⟩ (Nat.le_of_ble_eq_true rfl) (Nat.le_of_ble_eq_true rfl) dX6_dutyOn_15
set_option maxRecDepth 100000 in
set_option maxHeartbeats 4000000 in
theorem k_dutyOnByCoins {G : cG} (g : GOK G) (gM : MG G) {ad : Nat → Nat → Nat} {N : Nat} {K S Fc C D B : Mem} {cu ct : Nat} {hs : hS} {sv : sV} {ou : oB} {M : Mem} {x1 : Int32} (h : Top N K S C cu ct hs sv ou M) : KT G ad N yX6_dutyOnByCoins cX6_dutyOnByCoins 2 .int [.ref ((ad 0) 0), .int x1] (fl (wTop G.2.1 ad K S Fc C D B cu ct hs sv ou)) [(eIAE, 1)] (f_X7_dutyOnByCoins M x1) := by
  rcases q_dutyOn h.1 x1 with ⟨hi, -, b9, M', e2, e3, e4⟩ | ⟨hi, rr, -, hq, -, M', e2, e3, e4⟩
  · refine CX.of g (by decide) rfl (Nat.le_of_ble_eq_true rfl) ?_
    intro p l e s m below meth c A ls hst htab F hr hlocks w hl
    generalize ([.ref ((ad 0) 0), .int x1] : List Value).toArray = args
    have hl : lv_has ls 2 [(0, .ref ((ad 0) 0)), (1, .int x1)] := hl
    have w : Wd G A s.heap (fl [wXo G.2.1 (ad 0) (xF ad) (svV sv) K, wSh G.2.1 (ad 1) S, wSh G.2.1 (ad 2) Fc, wTe G.2.1 (ad 4) C, wSb G.2.1 (ad 5) ou, wAd G.2.1 (ad 6) D, wAb G.2.1 (ad 7) B, wHo G.2.1 (ad 3) cu ct hs, hsL G.2.1 hs, blk G.2.1 sv]) _ _ := w
    refine lv_iload_n F.x F.b dX6_dutyOnByCoins_0 rfl (lv_at hl 1 rfl) ?_
    refine kXSv F w hst (As := [.int x1]) (rest := []) (t_X6_checkValue_no F.1 gM hi) m_X6_checkValue v_X6_checkValue q1196 ⟨Nat.le_of_ble_eq_true rfl, Nat.le_of_ble_eq_true rfl⟩ rfl hl.1 rfl (Nat.le_of_ble_eq_true rfl) dX6_dutyOnByCoins_1 ⟨Nat.le_of_ble_eq_true rfl, Nat.le_of_ble_eq_true rfl⟩ (fun E w1 ce q H locs hx w hce hcv hcl => by obtain ⟨rfl, rfl⟩ := hx; exact exX w htab hlocks hce hcv hcl ⟨K, S, Fc, C, D, B, cu, ct, hs, sv, ou, M', b9, 1, rfl, e2, e3, List.mem_cons_self, h.ask e4⟩ (Nat.le_of_ble_eq_true rfl) (Nat.le_of_ble_eq_true rfl)) (fun w1 H locs h9 w => ?_)
    exact False.elim h9
  · refine CX.of g (by decide) rfl (Nat.le_of_ble_eq_true rfl) ?_
    intro p l e s m below meth c A ls hst htab F hr hlocks w hl
    generalize ([.ref ((ad 0) 0), .int x1] : List Value).toArray = args
    have hl : lv_has ls 2 [(0, .ref ((ad 0) 0)), (1, .int x1)] := hl
    have w : Wd G A s.heap (fl [wXo G.2.1 (ad 0) (xF ad) (svV sv) K, wSh G.2.1 (ad 1) S, wSh G.2.1 (ad 2) Fc, wTe G.2.1 (ad 4) C, wSb G.2.1 (ad 5) ou, wAd G.2.1 (ad 6) D, wAb G.2.1 (ad 7) B, wHo G.2.1 (ad 3) cu ct hs, hsL G.2.1 hs, blk G.2.1 sv]) _ _ := w
    refine lv_iload_n F.x F.b dX6_dutyOnByCoins_0 rfl (lv_at hl 1 rfl) ?_
    refine kXSv F w hst (As := [.int x1]) (rest := []) (t_X6_checkValue_ok F.1 hi) m_X6_checkValue v_X6_checkValue q1196 ⟨Nat.le_of_ble_eq_true rfl, Nat.le_of_ble_eq_true rfl⟩ rfl hl.1 rfl (Nat.le_of_ble_eq_true rfl) dX6_dutyOnByCoins_1 ⟨Nat.le_of_ble_eq_true rfl, Nat.le_of_ble_eq_true rfl⟩ (fun _ _ _ _ _ _ hx => False.elim hx) (fun w1 H locs h9 w => ?_)
    obtain rfl := h9
    have w : Wd G A s.heap (fl [wXo G.2.1 (ad 0) (xF ad) (svV sv) K, wSh G.2.1 (ad 1) S, wSh G.2.1 (ad 2) Fc, wTe G.2.1 (ad 4) C, wSb G.2.1 (ad 5) ou, wAd G.2.1 (ad 6) D, wAb G.2.1 (ad 7) B, wHo G.2.1 (ad 3) cu ct hs, hsL G.2.1 hs, blk G.2.1 sv]) _ _ := w
    refine lv_aload_n F.x F.b dX6_dutyOnByCoins_4 rfl (lv_at hl 0 rfl) ?_
    refine rg F w cl6 0 rfl 0 (by decide) q301 rfl (v := .ref ((ad 1) 0)) rfl dX6_dutyOnByCoins_5 ?_
    refine rgN F w cl4 1 rfl 1 (by decide) q190 rfl (v := .ref ((ad 1) 9)) rfl dX6_dutyOnByCoins_8 ?_
    refine lv_iload_n F.x F.b dX6_dutyOnByCoins_11 rfl (lv_at hl 1 rfl) ?_
    refine kXi F w hst (LC := [wSh G.2.1 (ad 1) S]) (LR := [wXo G.2.1 (ad 0) (xF ad) (svV sv) K, wSh G.2.1 (ad 2) Fc, wTe G.2.1 (ad 4) C, wSb G.2.1 (ad 5) ou, wAd G.2.1 (ad 6) D, wAb G.2.1 (ad 7) B, wHo G.2.1 (ad 3) cu ct hs, hsL G.2.1 hs, blk G.2.1 sv]) (As := [.int x1]) (rest := []) (t_X5_dutyByCoins F.1 hq).toX m_X5_dutyByCoins v_X5_dutyByCoins q1208 (ci := 9) (q0 := 10) rfl rfl rfl 10 [1, 0, 2, 3, 4, 5, 6, 7, 8, 9] rfl rfl rfl ⟨Nat.le_of_ble_eq_true rfl, Nat.le_of_ble_eq_true rfl⟩ rfl hl.1 rfl (Nat.le_of_ble_eq_true rfl) dX6_dutyOnByCoins_12 ⟨Nat.le_of_ble_eq_true rfl, Nat.le_of_ble_eq_true rfl⟩ (fun _ _ _ _ _ _ hx => False.elim hx) (fun r9 w1 H locs h9 w => ?_)
    obtain ⟨rfl, h9⟩ := h9
    have w := w.jn (L1 := [wSh G.2.1 (ad 1) S]) (L' := [wXo G.2.1 (ad 0) (xF ad) (svV sv) K, wSh G.2.1 (ad 1) S, wSh G.2.1 (ad 2) Fc, wTe G.2.1 (ad 4) C, wSb G.2.1 (ad 5) ou, wAd G.2.1 (ad 6) D, wAb G.2.1 (ad 7) B, wHo G.2.1 (ad 3) cu ct hs, hsL G.2.1 hs, blk G.2.1 sv]) h9 10 [1, 0, 2, 3, 4, 5, 6, 7, 8, 9] rfl rfl rfl
    exact eiX F w hr hlocks rfl ⟨K, S, Fc, C, D, B, cu, ct, hs, sv, ou, M', rfl, e2, e3, h.ask e4⟩ (Nat.le_of_ble_eq_true rfl) (Nat.le_of_ble_eq_true rfl) dX6_dutyOnByCoins_15
set_option maxRecDepth 100000 in
set_option maxHeartbeats 4000000 in
theorem k_nextEmptyBay {G : cG} (g : GOK G) (gM : MG G) {ad : Nat → Nat → Nat} {N : Nat} {K S Fc C D B : Mem} {cu ct : Nat} {hs : hS} {sv : sV} {ou : oB} {M : Mem} {x1 : Int32} (h : Top N K S C cu ct hs sv ou M) : KT G ad N yX6_nextEmptyBay cX6_nextEmptyBay 3 .int [.ref ((ad 0) 0), .int x1] (fl (wTop G.2.1 ad K S Fc C D B cu ct hs sv ou)) [(eIOB, 1), (eNSE, 2)] (f_X7_nextEmptyBay M x1) := by
  rcases q_next h.1 x1 with ⟨hi, b9, M', e2, e3, e4⟩ | ⟨bb, hb, rfl, E, hE, hf⟩
  · refine CX.of g (by decide) rfl (Nat.le_of_ble_eq_true rfl) ?_
    intro p l e s m below meth c A ls hst htab F hr hlocks w hl
    generalize ([.ref ((ad 0) 0), .int x1] : List Value).toArray = args
    have hl : lv_has ls 3 [(0, .ref ((ad 0) 0)), (1, .int x1)] := hl
    have w : Wd G A s.heap (fl [wXo G.2.1 (ad 0) (xF ad) (svV sv) K, wSh G.2.1 (ad 1) S, wSh G.2.1 (ad 2) Fc, wTe G.2.1 (ad 4) C, wSb G.2.1 (ad 5) ou, wAd G.2.1 (ad 6) D, wAb G.2.1 (ad 7) B, wHo G.2.1 (ad 3) cu ct hs, hsL G.2.1 hs, blk G.2.1 sv]) _ _ := w
    refine lv_iload_n F.x F.b dX6_nextEmptyBay_0 rfl (lv_at hl 1 rfl) ?_
    refine lv_bipush (v := 24) F.x F.b dX6_nextEmptyBay_1 (by decide) ?_
    refine kXSv F w hst (As := [.int x1, .int 24]) (rest := []) (t_X6_checkIndex_no F.1 gM hi) m_X6_checkIndex v_X6_checkIndex q1037 ⟨Nat.le_of_ble_eq_true rfl, Nat.le_of_ble_eq_true rfl⟩ rfl hl.1 rfl (Nat.le_of_ble_eq_true rfl) dX6_nextEmptyBay_3 ⟨Nat.le_of_ble_eq_true rfl, Nat.le_of_ble_eq_true rfl⟩ (fun E w1 ce q H locs hx w hce hcv hcl => by obtain ⟨rfl, rfl⟩ := hx; exact exX w htab hlocks hce hcv hcl ⟨K, S, Fc, C, D, B, cu, ct, hs, sv, ou, M', b9, 1, rfl, e2, e3, List.mem_cons_self, h.ask e4⟩ (Nat.le_of_ble_eq_true rfl) (Nat.le_of_ble_eq_true rfl)) (fun w1 H locs h9 w => ?_)
    exact False.elim h9
  · refine CX.of g (by decide) rfl (Nat.le_of_ble_eq_true rfl) ?_
    intro p l e s m below meth c A ls hst htab F hr hlocks w hl
    generalize ([.ref ((ad 0) 0), .int (nI bb)] : List Value).toArray = args
    have hl : lv_has ls 3 [(0, .ref ((ad 0) 0)), (1, .int (nI bb))] := hl
    have w : Wd G A s.heap (fl [wXo G.2.1 (ad 0) (xF ad) (svV sv) K, wSh G.2.1 (ad 1) S, wSh G.2.1 (ad 2) Fc, wTe G.2.1 (ad 4) C, wSb G.2.1 (ad 5) ou, wAd G.2.1 (ad 6) D, wAb G.2.1 (ad 7) B, wHo G.2.1 (ad 3) cu ct hs, hsL G.2.1 hs, blk G.2.1 sv]) _ _ := w
    refine lv_iload_n F.x F.b dX6_nextEmptyBay_0 rfl (lv_at hl 1 rfl) ?_
    refine lv_bipush (v := 24) F.x F.b dX6_nextEmptyBay_1 (by decide) ?_
    refine kXSv F w hst (As := [.int (nI bb), .int 24]) (rest := []) (t_X6_checkIndex_ok F.1 (fun q => q.elim (nI_pos (by omega)) (nI_ge (a := bb) (b := 24) hb (by omega)))) m_X6_checkIndex v_X6_checkIndex q1037 ⟨Nat.le_of_ble_eq_true rfl, Nat.le_of_ble_eq_true rfl⟩ rfl hl.1 rfl (Nat.le_of_ble_eq_true rfl) dX6_nextEmptyBay_3 ⟨Nat.le_of_ble_eq_true rfl, Nat.le_of_ble_eq_true rfl⟩ (fun _ _ _ _ _ _ hx => False.elim hx) (fun w1 H locs h9 w => ?_)
    obtain rfl := h9
    have w : Wd G A s.heap (fl [wXo G.2.1 (ad 0) (xF ad) (svV sv) K, wSh G.2.1 (ad 1) S, wSh G.2.1 (ad 2) Fc, wTe G.2.1 (ad 4) C, wSb G.2.1 (ad 5) ou, wAd G.2.1 (ad 6) D, wAb G.2.1 (ad 7) B, wHo G.2.1 (ad 3) cu ct hs, hsL G.2.1 hs, blk G.2.1 sv]) _ _ := w
    refine lv_iload_n F.x F.b dX6_nextEmptyBay_6 rfl (lv_at hl 1 rfl) ?_
    refine lv_istore_n (lv' := [(2, .int (nI bb)), (0, .ref ((ad 0) 0)), (1, .int (nI bb))]) F.x F.b dX6_nextEmptyBay_7 rfl hl (by decide) rfl (fun ls hl => ?_)
    have loop : ∀ (d y : Nat) (H : Heap) (locs : List Loc) (ls : Array Slot), y + d = 24 → fk (fnd E d y) (Thr M 2 (f_X7_nextEmptyBay M (nI bb))) (fun y => Val M (nI y) (f_X7_nextEmptyBay M (nI bb))) → Wd G A s.heap (fl [wXo G.2.1 (ad 0) (xF ad) (svV sv) K, wSh G.2.1 (ad 1) S, wSh G.2.1 (ad 2) Fc, wTe G.2.1 (ad 4) C, wSb G.2.1 (ad 5) ou, wAd G.2.1 (ad 6) D, wAb G.2.1 (ad 7) B, wHo G.2.1 (ad 3) cu ct hs, hsL G.2.1 hs, blk G.2.1 sv]) H locs → lv_has ls 3 [(2, .int (nI y)), (0, .ref ((ad 0) 0)), (1, .int (nI bb))] → W p l e { frames := 40, cells := 20, slots := 200, locals := 1500 } s m args below meth c H locs 0 0 (XI G A (OKr G ad N (f_X7_nextEmptyBay M (nI bb))) (NOe G ad N [(eIOB, 1), (eNSE, 2)] (f_X7_nextEmptyBay M (nI bb))) 20 200 below args s) (F0 m 8 ls []) := by
      clear w hl hf
      intro d
      induction d with
      | zero =>
        intro y H locs ls hy hf w hl
        obtain rfl : y = 24 := by omega
        obtain ⟨b9, M', e2, e3, e4⟩ := (show Thr M 2 (f_X7_nextEmptyBay M (nI bb)) from hf)
        refine lv_iload_n F.x F.b dX6_nextEmptyBay_8 rfl (lv_at hl 0 rfl) ?_
        refine lv_bipush (v := 24) F.x F.b dX6_nextEmptyBay_9 (by decide) ?_
        refine lv_icmp_ge (tgt := 36) F.x F.b dX6_nextEmptyBay_11 (by decide) (fun _ => ?_) (fun c9 => absurd (show (24 : Int32) ≤ nI 24 by decide) c9)
        exact wTN F w gM hst htab hlocks (is := 134) (by decide +kernel : (134, "no empty bay from there on") ∈ msgs) (⟨K, S, Fc, C, D, B, cu, ct, hs, sv, ou, M', b9, 2, rfl, e2, e3, (List.mem_cons_of_mem _ List.mem_cons_self), h.ask e4⟩) hl.1 dX6_nextEmptyBay_36 dX6_nextEmptyBay_39 dX6_nextEmptyBay_40 dX6_nextEmptyBay_42 dX6_nextEmptyBay_45 ⟨Nat.le_of_ble_eq_true rfl, Nat.le_of_ble_eq_true rfl, Nat.le_of_ble_eq_true rfl, Nat.le_of_ble_eq_true rfl⟩ ⟨Nat.le_of_ble_eq_true rfl, Nat.le_of_ble_eq_true rfl⟩
      | succ d ih =>
        intro y H locs ls hy hf w hl
        rcases hE y (by omega) with ⟨hq, hy1⟩ | ⟨⟨pp, hp, hq⟩, hy1⟩
        · rw [fnd, if_pos hy1] at hf
          obtain ⟨M', e2, e3, e4⟩ := (show Val M (nI y) (f_X7_nextEmptyBay M (nI bb)) from hf)
          refine lv_iload_n F.x F.b dX6_nextEmptyBay_8 rfl (lv_at hl 0 rfl) ?_
          refine lv_bipush (v := 24) F.x F.b dX6_nextEmptyBay_9 (by decide) ?_
          refine lv_icmp_ge (tgt := 36) F.x F.b dX6_nextEmptyBay_11 (by decide) (fun c9 => absurd c9 (show ¬ (24 : Int32) ≤ nI y from nI_ge (a := y) (b := 24) (by omega) (by omega))) (fun _ => ?_)
          refine lv_aload_n F.x F.b dX6_nextEmptyBay_14 rfl (lv_at hl 1 rfl) ?_
          refine rg F w cl6 0 rfl 0 (by decide) q301 rfl (v := .ref ((ad 1) 0)) rfl dX6_nextEmptyBay_15 ?_
          refine rgN F w cl4 1 rfl 0 (by decide) q188 rfl (v := .ref ((ad 1) 1)) rfl dX6_nextEmptyBay_18 ?_
          refine lv_iload_n F.x F.b dX6_nextEmptyBay_21 rfl (lv_at hl 0 rfl) ?_
          refine kXi F w hst (LC := [wSh G.2.1 (ad 1) S]) (LR := [wXo G.2.1 (ad 0) (xF ad) (svV sv) K, wSh G.2.1 (ad 2) Fc, wTe G.2.1 (ad 4) C, wSb G.2.1 (ad 5) ou, wAd G.2.1 (ad 6) D, wAb G.2.1 (ad 7) B, wHo G.2.1 (ad 3) cu ct hs, hsL G.2.1 hs, blk G.2.1 sv]) (As := [.int (nI y)]) (rest := []) (t_X3_slotAt F.1 hq).toX m_X3_slotAt v_X3_slotAt q1107 (ci := 7) (q0 := 2) rfl rfl rfl 10 [1, 0, 2, 3, 4, 5, 6, 7, 8, 9] rfl rfl rfl ⟨Nat.le_of_ble_eq_true rfl, Nat.le_of_ble_eq_true rfl⟩ rfl hl.1 rfl (Nat.le_of_ble_eq_true rfl) dX6_nextEmptyBay_22 ⟨Nat.le_of_ble_eq_true rfl, Nat.le_of_ble_eq_true rfl⟩ (fun _ _ _ _ _ _ hx => False.elim hx) (fun r9 w1 H locs h9 w => ?_)
          obtain ⟨rfl, h9⟩ := h9
          have w := w.jn (L1 := [wSh G.2.1 (ad 1) S]) (L' := [wXo G.2.1 (ad 0) (xF ad) (svV sv) K, wSh G.2.1 (ad 1) S, wSh G.2.1 (ad 2) Fc, wTe G.2.1 (ad 4) C, wSb G.2.1 (ad 5) ou, wAd G.2.1 (ad 6) D, wAb G.2.1 (ad 7) B, wHo G.2.1 (ad 3) cu ct hs, hsL G.2.1 hs, blk G.2.1 sv]) h9 10 [1, 0, 2, 3, 4, 5, 6, 7, 8, 9] rfl rfl rfl
          refine lv_if_ge (tgt := 30) F.x F.b dX6_nextEmptyBay_25 (by decide) (fun c9 => absurd c9 (by decide)) (fun _ => ?_)
          refine lv_iload_n F.x F.b dX6_nextEmptyBay_28 rfl (lv_at hl 0 rfl) ?_
          exact eiX F w hr hlocks rfl ⟨K, S, Fc, C, D, B, cu, ct, hs, sv, ou, M', rfl, e2, e3, h.ask e4⟩ (Nat.le_of_ble_eq_true rfl) (Nat.le_of_ble_eq_true rfl) dX6_nextEmptyBay_29
        · rw [fnd, if_neg (by rw [hy1]; decide)] at hf
          refine lv_iload_n F.x F.b dX6_nextEmptyBay_8 rfl (lv_at hl 0 rfl) ?_
          refine lv_bipush (v := 24) F.x F.b dX6_nextEmptyBay_9 (by decide) ?_
          refine lv_icmp_ge (tgt := 36) F.x F.b dX6_nextEmptyBay_11 (by decide) (fun c9 => absurd c9 (show ¬ (24 : Int32) ≤ nI y from nI_ge (a := y) (b := 24) (by omega) (by omega))) (fun _ => ?_)
          refine lv_aload_n F.x F.b dX6_nextEmptyBay_14 rfl (lv_at hl 1 rfl) ?_
          refine rg F w cl6 0 rfl 0 (by decide) q301 rfl (v := .ref ((ad 1) 0)) rfl dX6_nextEmptyBay_15 ?_
          refine rgN F w cl4 1 rfl 0 (by decide) q188 rfl (v := .ref ((ad 1) 1)) rfl dX6_nextEmptyBay_18 ?_
          refine lv_iload_n F.x F.b dX6_nextEmptyBay_21 rfl (lv_at hl 0 rfl) ?_
          refine kXi F w hst (LC := [wSh G.2.1 (ad 1) S]) (LR := [wXo G.2.1 (ad 0) (xF ad) (svV sv) K, wSh G.2.1 (ad 2) Fc, wTe G.2.1 (ad 4) C, wSb G.2.1 (ad 5) ou, wAd G.2.1 (ad 6) D, wAb G.2.1 (ad 7) B, wHo G.2.1 (ad 3) cu ct hs, hsL G.2.1 hs, blk G.2.1 sv]) (As := [.int (nI y)]) (rest := []) (t_X3_slotAt F.1 hq).toX m_X3_slotAt v_X3_slotAt q1107 (ci := 7) (q0 := 2) rfl rfl rfl 10 [1, 0, 2, 3, 4, 5, 6, 7, 8, 9] rfl rfl rfl ⟨Nat.le_of_ble_eq_true rfl, Nat.le_of_ble_eq_true rfl⟩ rfl hl.1 rfl (Nat.le_of_ble_eq_true rfl) dX6_nextEmptyBay_22 ⟨Nat.le_of_ble_eq_true rfl, Nat.le_of_ble_eq_true rfl⟩ (fun _ _ _ _ _ _ hx => False.elim hx) (fun r9 w1 H locs h9 w => ?_)
          obtain ⟨rfl, h9⟩ := h9
          have w := w.jn (L1 := [wSh G.2.1 (ad 1) S]) (L' := [wXo G.2.1 (ad 0) (xF ad) (svV sv) K, wSh G.2.1 (ad 1) S, wSh G.2.1 (ad 2) Fc, wTe G.2.1 (ad 4) C, wSb G.2.1 (ad 5) ou, wAd G.2.1 (ad 6) D, wAb G.2.1 (ad 7) B, wHo G.2.1 (ad 3) cu ct hs, hsL G.2.1 hs, blk G.2.1 sv]) h9 10 [1, 0, 2, 3, 4, 5, 6, 7, 8, 9] rfl rfl rfl
          refine lv_if_ge (tgt := 30) F.x F.b dX6_nextEmptyBay_25 (by decide) (fun _ => ?_) (fun c9 => absurd (nI_pos' (n := pp) (by omega)) c9)
          refine lv_iinc (v := ((nI y) + 1)) (lv' := [(2, .int ((nI y) + 1)), (0, .ref ((ad 0) 0)), (1, .int (nI bb))]) F.x F.b dX6_nextEmptyBay_30 hl (k := 0) rfl rfl (by decide) rfl (fun ls hl => ?_)
          refine lv_goto (tgt := 8) F.x F.b dX6_nextEmptyBay_33 (by decide) ?_
          rw [nI_1] at hl
          exact ih (y + 1) _ _ _ (by omega) hf w hl
    exact loop (24 - bb) bb _ _ _ (by omega) hf w hl
set_option maxRecDepth 100000 in
set_option maxHeartbeats 4000000 in
theorem k_undoCount {G : cG} (g : GOK G) (gM : MG G) {ad : Nat → Nat → Nat} {N : Nat} {K S Fc C D B : Mem} {cu ct : Nat} {hs : hS} {sv : sV} {ou : oB} {M : Mem} (h : Top N K S C cu ct hs sv ou M) : KT G ad N yX6_undoCount cX6_undoCount 1 .int [.ref ((ad 0) 0)] (fl (wTop G.2.1 ad K S Fc C D B cu ct hs sv ou)) [] (f_X7_undoCount M) := by
  obtain ⟨M', e2, e3, e4⟩ := q_undoCount h
  refine CX.of g (by decide) rfl (Nat.le_of_ble_eq_true rfl) ?_
  intro p l e s m below meth c A ls hst htab F hr hlocks w hl
  generalize ([.ref ((ad 0) 0)] : List Value).toArray = args
  have hl : lv_has ls 1 [(0, .ref ((ad 0) 0))] := hl
  have w : Wd G A s.heap (fl [wXo G.2.1 (ad 0) (xF ad) (svV sv) K, wSh G.2.1 (ad 1) S, wSh G.2.1 (ad 2) Fc, wTe G.2.1 (ad 4) C, wSb G.2.1 (ad 5) ou, wAd G.2.1 (ad 6) D, wAb G.2.1 (ad 7) B, wHo G.2.1 (ad 3) cu ct hs, hsL G.2.1 hs, blk G.2.1 sv]) _ _ := w
  refine lv_aload_n F.x F.b dX6_undoCount_0 rfl (lv_at hl 0 rfl) ?_
  refine rg F w cl6 0 rfl 2 (by decide) q303 rfl (v := .ref ((ad 3) 0)) rfl dX6_undoCount_1 ?_
  refine rgN F w cl2 36 rfl 2 (by decide) q227 rfl (v := .int (nI ct)) rfl dX6_undoCount_4 ?_
  exact eiX F w hr hlocks rfl ⟨K, S, Fc, C, D, B, cu, ct, hs, sv, ou, M', rfl, e2, e3, h.ask e4⟩ (Nat.le_of_ble_eq_true rfl) (Nat.le_of_ble_eq_true rfl) dX6_undoCount_7
set_option maxRecDepth 100000 in
set_option maxHeartbeats 4000000 in
theorem k_errorPosition {G : cG} (g : GOK G) (gM : MG G) {ad : Nat → Nat → Nat} {N : Nat} {K S Fc C D B : Mem} {cu ct : Nat} {hs : hS} {sv : sV} {ou : oB} {M : Mem} (h : Top N K S C cu ct hs sv ou M) : KT G ad N yX6_errorPosition cX6_errorPosition 1 .int [.ref ((ad 0) 0)] (fl (wTop G.2.1 ad K S Fc C D B cu ct hs sv ou)) [(eNSE, 1)] (f_X7_errorPosition M) := by
  rcases q_err h.2.2.2.1 with ⟨hk, b9, M', e2, e3, e4⟩ | ⟨pp, hp, hk, M', e2, e3, e4⟩
  · refine CX.of g (by decide) rfl (Nat.le_of_ble_eq_true rfl) ?_
    intro p l e s m below meth c A ls hst htab F hr hlocks w hl
    generalize ([.ref ((ad 0) 0)] : List Value).toArray = args
    have hl : lv_has ls 1 [(0, .ref ((ad 0) 0))] := hl
    have w : Wd G A s.heap (fl [wXo G.2.1 (ad 0) (xF ad) (svV sv) K, wSh G.2.1 (ad 1) S, wSh G.2.1 (ad 2) Fc, wTe G.2.1 (ad 4) C, wSb G.2.1 (ad 5) ou, wAd G.2.1 (ad 6) D, wAb G.2.1 (ad 7) B, wHo G.2.1 (ad 3) cu ct hs, hsL G.2.1 hs, blk G.2.1 sv]) _ _ := w
    refine lv_aload_n F.x F.b dX6_errorPosition_0 rfl (lv_at hl 0 rfl) ?_
    refine rg F w cl6 0 rfl 8 (by decide) q309 rfl (v := .int (K.1 0)) rfl dX6_errorPosition_1 ?_
    refine lv_if_ge (tgt := 18) F.x F.b dX6_errorPosition_4 (by decide) (fun c9 => absurd c9 (by rw [hk]; decide)) (fun _ => ?_)
    exact wTNW F w gM hst htab hlocks (is := 321) (by decide +kernel : (321, "no error position was kept") ∈ msgs) (⟨K, S, Fc, C, D, B, cu, ct, hs, sv, ou, M', b9, 1, rfl, e2, e3, List.mem_cons_self, h.ask e4⟩) hl.1 dX6_errorPosition_7 dX6_errorPosition_10 dX6_errorPosition_11 dX6_errorPosition_14 dX6_errorPosition_17 ⟨Nat.le_of_ble_eq_true rfl, Nat.le_of_ble_eq_true rfl, Nat.le_of_ble_eq_true rfl, Nat.le_of_ble_eq_true rfl⟩ ⟨Nat.le_of_ble_eq_true rfl, Nat.le_of_ble_eq_true rfl⟩
  · refine CX.of g (by decide) rfl (Nat.le_of_ble_eq_true rfl) ?_
    intro p l e s m below meth c A ls hst htab F hr hlocks w hl
    generalize ([.ref ((ad 0) 0)] : List Value).toArray = args
    have hl : lv_has ls 1 [(0, .ref ((ad 0) 0))] := hl
    have w : Wd G A s.heap (fl [wXo G.2.1 (ad 0) (xF ad) (svV sv) K, wSh G.2.1 (ad 1) S, wSh G.2.1 (ad 2) Fc, wTe G.2.1 (ad 4) C, wSb G.2.1 (ad 5) ou, wAd G.2.1 (ad 6) D, wAb G.2.1 (ad 7) B, wHo G.2.1 (ad 3) cu ct hs, hsL G.2.1 hs, blk G.2.1 sv]) _ _ := w
    refine lv_aload_n F.x F.b dX6_errorPosition_0 rfl (lv_at hl 0 rfl) ?_
    refine rg F w cl6 0 rfl 8 (by decide) q309 rfl (v := .int (K.1 0)) rfl dX6_errorPosition_1 ?_
    refine lv_if_ge (tgt := 18) F.x F.b dX6_errorPosition_4 (by decide) (fun _ => ?_) (fun c9 => absurd (by rw [hk]; exact nI_pos' (n := pp) (by omega)) c9)
    refine lv_aload_n F.x F.b dX6_errorPosition_18 rfl (lv_at hl 0 rfl) ?_
    refine rg F w cl6 0 rfl 8 (by decide) q309 rfl (v := .int (K.1 0)) rfl dX6_errorPosition_19 ?_
    exact eiX F w hr hlocks rfl ⟨K, S, Fc, C, D, B, cu, ct, hs, sv, ou, M', rfl, (by rw [hk]; exact e2), e3, h.ask e4⟩ (Nat.le_of_ble_eq_true rfl) (Nat.le_of_ble_eq_true rfl) dX6_errorPosition_22
set_option maxRecDepth 100000 in
set_option maxHeartbeats 4000000 in
theorem k_failedCommand {G : cG} (g : GOK G) (gM : MG G) {ad : Nat → Nat → Nat} {N : Nat} {K S Fc C D B : Mem} {cu ct : Nat} {hs : hS} {sv : sV} {ou : oB} {M : Mem} (h : Top N K S C cu ct hs sv ou M) : KT G ad N yX6_failedCommand cX6_failedCommand 1 .int [.ref ((ad 0) 0)] (fl (wTop G.2.1 ad K S Fc C D B cu ct hs sv ou)) [(eNSE, 1)] (f_X7_failedCommand M) := by
  rcases q_fail h.2.2.2.1 with ⟨hk, b9, M', e2, e3, e4⟩ | ⟨pp, hp, hk, M', e2, e3, e4⟩
  · refine CX.of g (by decide) rfl (Nat.le_of_ble_eq_true rfl) ?_
    intro p l e s m below meth c A ls hst htab F hr hlocks w hl
    generalize ([.ref ((ad 0) 0)] : List Value).toArray = args
    have hl : lv_has ls 1 [(0, .ref ((ad 0) 0))] := hl
    have w : Wd G A s.heap (fl [wXo G.2.1 (ad 0) (xF ad) (svV sv) K, wSh G.2.1 (ad 1) S, wSh G.2.1 (ad 2) Fc, wTe G.2.1 (ad 4) C, wSb G.2.1 (ad 5) ou, wAd G.2.1 (ad 6) D, wAb G.2.1 (ad 7) B, wHo G.2.1 (ad 3) cu ct hs, hsL G.2.1 hs, blk G.2.1 sv]) _ _ := w
    refine lv_aload_n F.x F.b dX6_failedCommand_0 rfl (lv_at hl 0 rfl) ?_
    refine rg F w cl6 0 rfl 9 (by decide) q310 rfl (v := .int (K.1 1)) rfl dX6_failedCommand_1 ?_
    refine lv_if_ge (tgt := 18) F.x F.b dX6_failedCommand_4 (by decide) (fun c9 => absurd c9 (by rw [hk]; decide)) (fun _ => ?_)
    exact wTNW F w gM hst htab hlocks (is := 323) (by decide +kernel : (323, "no failed command was kept") ∈ msgs) (⟨K, S, Fc, C, D, B, cu, ct, hs, sv, ou, M', b9, 1, rfl, e2, e3, List.mem_cons_self, h.ask e4⟩) hl.1 dX6_failedCommand_7 dX6_failedCommand_10 dX6_failedCommand_11 dX6_failedCommand_14 dX6_failedCommand_17 ⟨Nat.le_of_ble_eq_true rfl, Nat.le_of_ble_eq_true rfl, Nat.le_of_ble_eq_true rfl, Nat.le_of_ble_eq_true rfl⟩ ⟨Nat.le_of_ble_eq_true rfl, Nat.le_of_ble_eq_true rfl⟩
  · refine CX.of g (by decide) rfl (Nat.le_of_ble_eq_true rfl) ?_
    intro p l e s m below meth c A ls hst htab F hr hlocks w hl
    generalize ([.ref ((ad 0) 0)] : List Value).toArray = args
    have hl : lv_has ls 1 [(0, .ref ((ad 0) 0))] := hl
    have w : Wd G A s.heap (fl [wXo G.2.1 (ad 0) (xF ad) (svV sv) K, wSh G.2.1 (ad 1) S, wSh G.2.1 (ad 2) Fc, wTe G.2.1 (ad 4) C, wSb G.2.1 (ad 5) ou, wAd G.2.1 (ad 6) D, wAb G.2.1 (ad 7) B, wHo G.2.1 (ad 3) cu ct hs, hsL G.2.1 hs, blk G.2.1 sv]) _ _ := w
    refine lv_aload_n F.x F.b dX6_failedCommand_0 rfl (lv_at hl 0 rfl) ?_
    refine rg F w cl6 0 rfl 9 (by decide) q310 rfl (v := .int (K.1 1)) rfl dX6_failedCommand_1 ?_
    refine lv_if_ge (tgt := 18) F.x F.b dX6_failedCommand_4 (by decide) (fun _ => ?_) (fun c9 => absurd (by rw [hk]; exact nI_pos' (n := pp) (by omega)) c9)
    refine lv_aload_n F.x F.b dX6_failedCommand_18 rfl (lv_at hl 0 rfl) ?_
    refine rg F w cl6 0 rfl 9 (by decide) q310 rfl (v := .int (K.1 1)) rfl dX6_failedCommand_19 ?_
    exact eiX F w hr hlocks rfl ⟨K, S, Fc, C, D, B, cu, ct, hs, sv, ou, M', rfl, (by rw [hk]; exact e2), e3, h.ask e4⟩ (Nat.le_of_ble_eq_true rfl) (Nat.le_of_ble_eq_true rfl) dX6_failedCommand_22

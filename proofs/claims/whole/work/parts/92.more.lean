/-! printed by wip/whole/tools/gen92.py: feed, undo, save, restore, execute, dampAfter -/
theorem q94 : Cond.classLink RX6 7 RX4 ∈ lw_tbl := List.mem_of_getElem? (i := 94) (by decide +kernel)
theorem q96 : Cond.methodLinkNest RX6 9 yX4_init "CustomsShed" ∈ lw_tbl := List.mem_of_getElem? (i := 96) (by decide +kernel)
theorem q245 : Cond.fieldLinkNest RX6 295 "CustomsShed$CommandText" "length" "I" "CustomsShed" ∈ lw_tbl := List.mem_of_getElem? (i := 245) (by decide +kernel)
theorem q247 : Cond.fieldLinkNest RX6 299 "CustomsShed$CommandText" "cursor" "I" "CustomsShed" ∈ lw_tbl := List.mem_of_getElem? (i := 247) (by decide +kernel)
theorem q302 : Cond.fieldLink RX6 16 "CustomsShed" "forecast" "LCustomsShed$Shed;" ∈ lw_tbl := List.mem_of_getElem? (i := 302) (by decide +kernel)
theorem q308 : Cond.fieldLink RX6 47 "CustomsShed" "saved" "LCustomsShed$Shed;" ∈ lw_tbl := List.mem_of_getElem? (i := 308) (by decide +kernel)
theorem q843 : Cond.methodLink RX6 207 yX4_copyFrom ∈ lw_tbl := List.mem_of_getElem? (i := 843) (by decide +kernel)
theorem q1386 : Cond.methodLink RX6 288 yX1_append ∈ lw_tbl := List.mem_of_getElem? (i := 1386) (by decide +kernel)
theorem q1402 : Cond.methodLink RX6 296 yX1_countCommands ∈ lw_tbl := List.mem_of_getElem? (i := 1402) (by decide +kernel)
theorem q1465 : Cond.methodLink RX6 302 yX1_clear ∈ lw_tbl := List.mem_of_getElem? (i := 1465) (by decide +kernel)
theorem q1470 : Cond.methodLink RX6 307 yX6_performFirst ∈ lw_tbl := List.mem_of_getElem? (i := 1470) (by decide +kernel)
theorem q1491 : Cond.methodLink RX6 310 yX2_takeBack ∈ lw_tbl := List.mem_of_getElem? (i := 1491) (by decide +kernel)
theorem q1524 : Cond.methodLink RX6 328 yX2_undoLatest ∈ lw_tbl := List.mem_of_getElem? (i := 1524) (by decide +kernel)
theorem q1537 : Cond.methodLink RX6 333 yX2_forget ∈ lw_tbl := List.mem_of_getElem? (i := 1537) (by decide +kernel)
theorem m_X1_append : YM yX1_append cX1_append 2 (some (.boolean)) 1 := ⟨⟨List.mem_of_getElem? (i := 1389) (by decide +kernel), by decide +kernel⟩, List.mem_of_getElem? (i := 61) (by decide +kernel), ⟨by decide, by decide⟩, by decide +kernel⟩
theorem v_X1_append : YV yX1_append := ⟨(List.mem_of_getElem? (i := 1387) (by decide +kernel)), List.mem_of_getElem? (i := 1388) (by decide +kernel)⟩
theorem m_X2_undoLatest : YM yX2_undoLatest cX2_undoLatest 2 (none) 1 := ⟨⟨List.mem_of_getElem? (i := 1527) (by decide +kernel), by decide +kernel⟩, List.mem_of_getElem? (i := 60) (by decide +kernel), ⟨by decide, by decide⟩, by decide +kernel⟩
theorem v_X2_undoLatest : YV yX2_undoLatest := ⟨(List.mem_of_getElem? (i := 1525) (by decide +kernel)), List.mem_of_getElem? (i := 1526) (by decide +kernel)⟩
theorem m_X2_forget : YM yX2_forget cX2_forget 1 (none) 0 := ⟨⟨List.mem_of_getElem? (i := 1540) (by decide +kernel), by decide +kernel⟩, List.mem_of_getElem? (i := 60) (by decide +kernel), ⟨by decide, by decide⟩, by decide +kernel⟩
theorem v_X2_forget : YV yX2_forget := ⟨(List.mem_of_getElem? (i := 1538) (by decide +kernel)), List.mem_of_getElem? (i := 1539) (by decide +kernel)⟩
theorem m_X1_countCommands : YM yX1_countCommands cX1_countCommands 2 (some (.int)) 0 := ⟨⟨List.mem_of_getElem? (i := 1405) (by decide +kernel), by decide +kernel⟩, List.mem_of_getElem? (i := 61) (by decide +kernel), ⟨by decide, by decide⟩, by decide +kernel⟩
theorem v_X1_countCommands : YV yX1_countCommands := ⟨(List.mem_of_getElem? (i := 1403) (by decide +kernel)), List.mem_of_getElem? (i := 1404) (by decide +kernel)⟩
theorem m_X1_clear : YM yX1_clear cX1_clear 1 (none) 0 := ⟨⟨List.mem_of_getElem? (i := 1468) (by decide +kernel), by decide +kernel⟩, List.mem_of_getElem? (i := 61) (by decide +kernel), ⟨by decide, by decide⟩, by decide +kernel⟩
theorem v_X1_clear : YV yX1_clear := ⟨(List.mem_of_getElem? (i := 1466) (by decide +kernel)), List.mem_of_getElem? (i := 1467) (by decide +kernel)⟩
theorem m_X6_performFirst : YM yX6_performFirst cX6_performFirst 3 (some (.int)) 1 := ⟨⟨List.mem_of_getElem? (i := 1473) (by decide +kernel), by decide +kernel⟩, List.mem_of_getElem? (i := 55) (by decide +kernel), ⟨by decide, by decide⟩, by decide +kernel⟩
theorem v_X6_performFirst : YV yX6_performFirst := ⟨(List.mem_of_getElem? (i := 1472) (by decide +kernel)), List.mem_of_getElem? (i := 13) (by decide +kernel)⟩
theorem fl_nil (L : List va_W) : fl (L ++ [[]]) = fl L := by
  rw [fl_flatten, fl_flatten]
  simp
set_option maxRecDepth 100000 in
set_option maxHeartbeats 4000000 in
theorem k_feed {G : cG} (g : GOK G) (gM : MG G) {ad : Nat → Nat → Nat} {N : Nat} {K S Fc C D B : Mem} {cu ct : Nat} {hs : hS} {sv : sV} {ou : oB} {M : Mem} (h : Top N K S C cu ct hs sv ou M) {cc : Nat} (hcc : cc < 65536) : KT G ad N yX6_feed cX6_feed 2 .int [.ref ((ad 0) 0), .int (nI cc)] (fl (wTop G.2.1 ad K S Fc C D B cu ct hs sv ou)) [(eISE, 1)] (f_X7_feed M (nI cc)) := by
  rcases feed_both h hcc with ⟨hq, b9, M', e2, e3, e4⟩ | ⟨nn, C', M', hn9, hq, hq1, e2, e3, e4⟩
  · refine CX.of g (by decide) rfl (Nat.le_of_ble_eq_true rfl) ?_
    intro p l e s m below meth c A ls hst htab F hr hlocks w hl
    generalize ([.ref ((ad 0) 0), .int (nI cc)] : List Value).toArray = args
    have hl : lv_has ls 2 [(0, .ref ((ad 0) 0)), (1, .int (nI cc))] := hl
    have w : Wd G A s.heap (fl [wXo G.2.1 (ad 0) (xF ad) (svV sv) K, wSh G.2.1 (ad 1) S, wSh G.2.1 (ad 2) Fc, wTe G.2.1 (ad 4) C, wSb G.2.1 (ad 5) ou, wAd G.2.1 (ad 6) D, wAb G.2.1 (ad 7) B, wHo G.2.1 (ad 3) cu ct hs, hsL G.2.1 hs, blk G.2.1 sv]) _ _ := w
    refine lv_aload_n F.x F.b dX6_feed_0 rfl (lv_at hl 0 rfl) ?_
    refine rg F w cl6 0 rfl 3 (by decide) q304 rfl (v := .ref ((ad 4) 0)) rfl dX6_feed_1 ?_
    refine lv_iload_n F.x F.b dX6_feed_4 rfl (lv_at hl 1 rfl) ?_
    refine kXi F w hst (LC := [wTe G.2.1 (ad 4) C]) (LR := [wXo G.2.1 (ad 0) (xF ad) (svV sv) K, wSh G.2.1 (ad 1) S, wSh G.2.1 (ad 2) Fc, wSb G.2.1 (ad 5) ou, wAd G.2.1 (ad 6) D, wAb G.2.1 (ad 7) B, wHo G.2.1 (ad 3) cu ct hs, hsL G.2.1 hs, blk G.2.1 sv]) (As := [.int (nI cc)]) (rest := []) (t_X1_append F.1 hq).toX m_X1_append v_X1_append q1386 (ci := 5) (q0 := 29) rfl rfl rfl 10 [3, 0, 1, 2, 4, 5, 6, 7, 8, 9] rfl rfl rfl ⟨Nat.le_of_ble_eq_true rfl, Nat.le_of_ble_eq_true rfl⟩ rfl hl.1 rfl (Nat.le_of_ble_eq_true rfl) dX6_feed_5 ⟨Nat.le_of_ble_eq_true rfl, Nat.le_of_ble_eq_true rfl⟩ (fun _ _ _ _ _ _ hx => False.elim hx) (fun r9 w1 H locs h9 w => ?_)
    obtain ⟨rfl, h9⟩ := h9
    have w := w.jn (L1 := [wTe G.2.1 (ad 4) C]) (L' := [wXo G.2.1 (ad 0) (xF ad) (svV sv) K, wSh G.2.1 (ad 1) S, wSh G.2.1 (ad 2) Fc, wTe G.2.1 (ad 4) C, wSb G.2.1 (ad 5) ou, wAd G.2.1 (ad 6) D, wAb G.2.1 (ad 7) B, wHo G.2.1 (ad 3) cu ct hs, hsL G.2.1 hs, blk G.2.1 sv]) h9 10 [1, 2, 3, 0, 4, 5, 6, 7, 8, 9] rfl rfl rfl
    refine lv_if_ne (tgt := 22) F.x F.b dX6_feed_8 (by decide) (fun c9 => absurd (by decide) c9) (fun _ => ?_)
    exact wTSW F w gM hst htab hlocks hS_ISE (is := 292) (by decide +kernel : (292, "the input buffer is full") ∈ msgs) (⟨K, S, Fc, C, D, B, cu, ct, hs, sv, ou, M', b9, 1, rfl, e2, e3, List.mem_cons_self, h.ask e4⟩) hl.1 dX6_feed_11 dX6_feed_14 dX6_feed_15 dX6_feed_18 dX6_feed_21 ⟨Nat.le_of_ble_eq_true rfl, Nat.le_of_ble_eq_true rfl, Nat.le_of_ble_eq_true rfl, Nat.le_of_ble_eq_true rfl⟩ ⟨Nat.le_of_ble_eq_true rfl, Nat.le_of_ble_eq_true rfl⟩
  · refine CX.of g (by decide) rfl (Nat.le_of_ble_eq_true rfl) ?_
    intro p l e s m below meth c A ls hst htab F hr hlocks w hl
    generalize ([.ref ((ad 0) 0), .int (nI cc)] : List Value).toArray = args
    have hl : lv_has ls 2 [(0, .ref ((ad 0) 0)), (1, .int (nI cc))] := hl
    have w : Wd G A s.heap (fl [wXo G.2.1 (ad 0) (xF ad) (svV sv) K, wSh G.2.1 (ad 1) S, wSh G.2.1 (ad 2) Fc, wTe G.2.1 (ad 4) C, wSb G.2.1 (ad 5) ou, wAd G.2.1 (ad 6) D, wAb G.2.1 (ad 7) B, wHo G.2.1 (ad 3) cu ct hs, hsL G.2.1 hs, blk G.2.1 sv]) _ _ := w
    refine lv_aload_n F.x F.b dX6_feed_0 rfl (lv_at hl 0 rfl) ?_
    refine rg F w cl6 0 rfl 3 (by decide) q304 rfl (v := .ref ((ad 4) 0)) rfl dX6_feed_1 ?_
    refine lv_iload_n F.x F.b dX6_feed_4 rfl (lv_at hl 1 rfl) ?_
    refine kXi F w hst (LC := [wTe G.2.1 (ad 4) C]) (LR := [wXo G.2.1 (ad 0) (xF ad) (svV sv) K, wSh G.2.1 (ad 1) S, wSh G.2.1 (ad 2) Fc, wSb G.2.1 (ad 5) ou, wAd G.2.1 (ad 6) D, wAb G.2.1 (ad 7) B, wHo G.2.1 (ad 3) cu ct hs, hsL G.2.1 hs, blk G.2.1 sv]) (As := [.int (nI cc)]) (rest := []) (t_X1_append F.1 hq).toX m_X1_append v_X1_append q1386 (ci := 5) (q0 := 29) rfl rfl rfl 10 [3, 0, 1, 2, 4, 5, 6, 7, 8, 9] rfl rfl rfl ⟨Nat.le_of_ble_eq_true rfl, Nat.le_of_ble_eq_true rfl⟩ rfl hl.1 rfl (Nat.le_of_ble_eq_true rfl) dX6_feed_5 ⟨Nat.le_of_ble_eq_true rfl, Nat.le_of_ble_eq_true rfl⟩ (fun _ _ _ _ _ _ hx => False.elim hx) (fun r9 w1 H locs h9 w => ?_)
    obtain ⟨rfl, h9⟩ := h9
    have w := w.jn (L1 := [wTe G.2.1 (ad 4) C']) (L' := [wXo G.2.1 (ad 0) (xF ad) (svV sv) K, wSh G.2.1 (ad 1) S, wSh G.2.1 (ad 2) Fc, wTe G.2.1 (ad 4) C', wSb G.2.1 (ad 5) ou, wAd G.2.1 (ad 6) D, wAb G.2.1 (ad 7) B, wHo G.2.1 (ad 3) cu ct hs, hsL G.2.1 hs, blk G.2.1 sv]) h9 10 [1, 2, 3, 0, 4, 5, 6, 7, 8, 9] rfl rfl rfl
    refine lv_if_ne (tgt := 22) F.x F.b dX6_feed_8 (by decide) (fun _ => ?_) (fun c9 => absurd c9 (by decide))
    refine lv_aload_n F.x F.b dX6_feed_22 rfl (lv_at hl 0 rfl) ?_
    refine rg F w cl6 0 rfl 3 (by decide) q304 rfl (v := .ref ((ad 4) 0)) rfl dX6_feed_23 ?_
    refine rgN F w cl1 29 rfl 2 (by decide) q245 rfl (v := .int (C'.1 0)) rfl dX6_feed_26 ?_
    exact eiX F w hr hlocks rfl ⟨K, S, Fc, C', D, B, cu, ct, hs, sv, ou, M', rfl, (by rw [hq1]; exact e2), e3, e4⟩ (Nat.le_of_ble_eq_true rfl) (Nat.le_of_ble_eq_true rfl) dX6_feed_29
set_option maxRecDepth 100000 in
set_option maxHeartbeats 4000000 in
theorem k_undo {G : cG} (g : GOK G) (gM : MG G) {ad : Nat → Nat → Nat} {N : Nat} {K S Fc C D B : Mem} {cu ct : Nat} {hs : hS} {sv : sV} {ou : oB} {M : Mem} (h : Top N K S C cu ct hs sv ou M) : KT G ad N yX6_undo cX6_undo 1 .int [.ref ((ad 0) 0)] (fl (wTop G.2.1 ad K S Fc C D B cu ct hs sv ou)) [(eISE, 1)] (f_X7_undo M) := by
  rcases undo_both h with ⟨e0, b9, M', e2, e3, e4⟩ | ⟨e0, b, P, S', M', hb, hcp, e2, e3, e4⟩
  · refine CX.of g (by decide) rfl (Nat.le_of_ble_eq_true rfl) ?_
    intro p l e s m below meth c A ls hst htab F hr hlocks w hl
    generalize ([.ref ((ad 0) 0)] : List Value).toArray = args
    have hl : lv_has ls 1 [(0, .ref ((ad 0) 0))] := hl
    have w : Wd G A s.heap (fl [wXo G.2.1 (ad 0) (xF ad) (svV sv) K, wSh G.2.1 (ad 1) S, wSh G.2.1 (ad 2) Fc, wTe G.2.1 (ad 4) C, wSb G.2.1 (ad 5) ou, wAd G.2.1 (ad 6) D, wAb G.2.1 (ad 7) B, wHo G.2.1 (ad 3) cu ct hs, hsL G.2.1 hs, blk G.2.1 sv]) _ _ := w
    refine lv_aload_n F.x F.b dX6_undo_0 rfl (lv_at hl 0 rfl) ?_
    refine rg F w cl6 0 rfl 2 (by decide) q303 rfl (v := .ref ((ad 3) 0)) rfl dX6_undo_1 ?_
    refine rgN F w cl2 36 rfl 2 (by decide) q227 rfl (v := .int (nI ct)) rfl dX6_undo_4 ?_
    refine lv_if_ne (tgt := 21) F.x F.b dX6_undo_7 (by decide) (fun c9 => absurd (show nI ct = 0 by rw [e0]; rfl) c9) (fun _ => ?_)
    exact wTSW F w gM hst htab hlocks hS_ISE (is := 326) (by decide +kernel : (326, "no change can be undone") ∈ msgs) (⟨K, S, Fc, C, D, B, cu, ct, hs, sv, ou, M', b9, 1, rfl, e2, e3, List.mem_cons_self, h.ask e4⟩) hl.1 dX6_undo_10 dX6_undo_13 dX6_undo_14 dX6_undo_17 dX6_undo_20 ⟨Nat.le_of_ble_eq_true rfl, Nat.le_of_ble_eq_true rfl, Nat.le_of_ble_eq_true rfl, Nat.le_of_ble_eq_true rfl⟩ ⟨Nat.le_of_ble_eq_true rfl, Nat.le_of_ble_eq_true rfl⟩
  · refine CX.of g (by decide) rfl (Nat.le_of_ble_eq_true rfl) ?_
    intro p l e s m below meth c A ls hst htab F hr hlocks w hl
    generalize ([.ref ((ad 0) 0)] : List Value).toArray = args
    have hl : lv_has ls 1 [(0, .ref ((ad 0) 0))] := hl
    have w : Wd G A s.heap (fl [wXo G.2.1 (ad 0) (xF ad) (svV sv) K, wSh G.2.1 (ad 1) S, wSh G.2.1 (ad 2) Fc, wTe G.2.1 (ad 4) C, wSb G.2.1 (ad 5) ou, wAd G.2.1 (ad 6) D, wAb G.2.1 (ad 7) B, wHo G.2.1 (ad 3) cu ct hs, hsL G.2.1 hs, blk G.2.1 sv]) _ _ := w
    refine lv_aload_n F.x F.b dX6_undo_0 rfl (lv_at hl 0 rfl) ?_
    refine rg F w cl6 0 rfl 2 (by decide) q303 rfl (v := .ref ((ad 3) 0)) rfl dX6_undo_1 ?_
    refine rgN F w cl2 36 rfl 2 (by decide) q227 rfl (v := .int (nI ct)) rfl dX6_undo_4 ?_
    refine lv_if_ne (tgt := 21) F.x F.b dX6_undo_7 (by decide) (fun _ => ?_) (fun c9 => absurd c9 (show ¬ nI ct = 0 from fun z => e0 ((nI_eq (a := ct) (b := 0) (by have := h.2.1.2.1; omega) (by omega)).mp z)))
    refine lv_aload_n F.x F.b dX6_undo_21 rfl (lv_at hl 0 rfl) ?_
    refine rg F w cl6 0 rfl 2 (by decide) q303 rfl (v := .ref ((ad 3) 0)) rfl dX6_undo_22 ?_
    refine lv_aload_n F.x F.b dX6_undo_25 rfl (lv_at hl 0 rfl) ?_
    refine rg F w cl6 0 rfl 0 (by decide) q301 rfl (v := .ref ((ad 1) 0)) rfl dX6_undo_26 ?_
    refine kXv F w hst (LC := [wHo G.2.1 (ad 3) cu ct hs, hsL G.2.1 hs, wSh G.2.1 (ad 1) S]) (LR := [wXo G.2.1 (ad 0) (xF ad) (svV sv) K, wSh G.2.1 (ad 2) Fc, wTe G.2.1 (ad 4) C, wSb G.2.1 (ad 5) ou, wAd G.2.1 (ad 6) D, wAb G.2.1 (ad 7) B, blk G.2.1 sv]) (As := [.ref ((ad 1) 0)]) (rest := []) (t_X2_undoLatest F.1 h.2.1.1 h.2.1.2.1 e0 hb hcp) m_X2_undoLatest v_X2_undoLatest q1524 (ci := 6) (q0 := 36) rfl rfl rfl 10 [7, 8, 1, 0, 2, 3, 4, 5, 6, 9] rfl rfl rfl ⟨Nat.le_of_ble_eq_true rfl, Nat.le_of_ble_eq_true rfl⟩ rfl hl.1 rfl (Nat.le_of_ble_eq_true rfl) dX6_undo_29 ⟨Nat.le_of_ble_eq_true rfl, Nat.le_of_ble_eq_true rfl⟩ (fun _ _ _ _ _ _ hx => False.elim hx) (fun w1 H locs h9 w => ?_)
    have w := w.jn (L1 := [wHo G.2.1 (ad 3) (prv cu) (ct - 1) hs, hsL G.2.1 hs, wSh G.2.1 (ad 1) S']) (L' := [wXo G.2.1 (ad 0) (xF ad) (svV sv) K, wSh G.2.1 (ad 1) S', wSh G.2.1 (ad 2) Fc, wTe G.2.1 (ad 4) C, wSb G.2.1 (ad 5) ou, wAd G.2.1 (ad 6) D, wAb G.2.1 (ad 7) B, wHo G.2.1 (ad 3) (prv cu) (ct - 1) hs, hsL G.2.1 hs, blk G.2.1 sv]) h9 10 [3, 2, 4, 5, 6, 7, 8, 0, 1, 9] rfl rfl rfl
    have w : Wd G A s.heap (fl [wXo G.2.1 (ad 0) (xF ad) (svV sv) K, wSh G.2.1 (ad 1) S', wSh G.2.1 (ad 2) Fc, wTe G.2.1 (ad 4) C, wSb G.2.1 (ad 5) ou, wAd G.2.1 (ad 6) D, wAb G.2.1 (ad 7) B, wHo G.2.1 (ad 3) (prv cu) (ct - 1) hs, hsL G.2.1 hs, blk G.2.1 sv]) _ _ := w
    refine lv_aload_n F.x F.b dX6_undo_32 rfl (lv_at hl 0 rfl) ?_
    refine rg F w cl6 0 rfl 2 (by decide) q303 rfl (v := .ref ((ad 3) 0)) rfl dX6_undo_33 ?_
    refine rgN F w cl2 36 rfl 2 (by decide) q227 rfl (v := .int (nI (ct - 1))) rfl dX6_undo_36 ?_
    exact eiX F w hr hlocks rfl ⟨K, S', Fc, C, D, B, prv cu, ct - 1, hs, sv, ou, M', rfl, e2, e3, e4⟩ (Nat.le_of_ble_eq_true rfl) (Nat.le_of_ble_eq_true rfl) dX6_undo_39
set_option maxRecDepth 100000 in
set_option maxHeartbeats 4000000 in
theorem k_restore {G : cG} (g : GOK G) (gM : MG G) {ad : Nat → Nat → Nat} {N : Nat} {K S Fc C D B : Mem} {cu ct : Nat} {hs : hS} {sv : sV} {ou : oB} {M : Mem} (h : Top N K S C cu ct hs sv ou M) : KT G ad N yX6_restore cX6_restore 2 .int [.ref ((ad 0) 0)] (fl (wTop G.2.1 ad K S Fc C D B cu ct hs sv ou)) [(eISE, 1)] (f_X7_restore M) := by
  rcases sv with _ | ⟨b, P⟩
  · refine CX.of g (by decide) rfl (Nat.le_of_ble_eq_true rfl) ?_
    intro p l e s m below meth c A ls hst htab F hr hlocks w hl
    generalize ([.ref ((ad 0) 0)] : List Value).toArray = args
    have hl : lv_has ls 2 [(0, .ref ((ad 0) 0))] := hl
    have w : Wd G A s.heap (fl [wXo G.2.1 (ad 0) (xF ad) .null K, wSh G.2.1 (ad 1) S, wSh G.2.1 (ad 2) Fc, wTe G.2.1 (ad 4) C, wSb G.2.1 (ad 5) ou, wAd G.2.1 (ad 6) D, wAb G.2.1 (ad 7) B, wHo G.2.1 (ad 3) cu ct hs, hsL G.2.1 hs, blk G.2.1 none]) _ _ := w
    obtain ⟨b9, M', e2, e3, e4⟩ := restore_none h
    refine lv_aload_n F.x F.b dX6_restore_0 rfl (lv_at hl 0 rfl) ?_
    refine rg F w cl6 0 rfl 7 (by decide) q308 rfl (v := .null) rfl dX6_restore_1 ?_
    refine lv_astore_nN (lv' := [(1, .null), (0, .ref ((ad 0) 0))]) F.x F.b dX6_restore_4 rfl hl (by decide) rfl (fun ls hl => ?_)
    refine lv_aload_nN F.x F.b dX6_restore_5 rfl (lv_at hl 0 rfl) ?_
    refine lv_ifnonnullN F.x F.b dX6_restore_6 ?_
    exact wTSW F w gM hst htab hlocks hS_ISE (is := 331) (by decide +kernel : (331, "nothing was saved") ∈ msgs) (⟨K, S, Fc, C, D, B, cu, ct, hs, none, ou, M', b9, 1, rfl, e2, e3, List.mem_cons_self, h.ask e4⟩) hl.1 dX6_restore_9 dX6_restore_12 dX6_restore_13 dX6_restore_16 dX6_restore_19 ⟨Nat.le_of_ble_eq_true rfl, Nat.le_of_ble_eq_true rfl, Nat.le_of_ble_eq_true rfl, Nat.le_of_ble_eq_true rfl⟩ ⟨Nat.le_of_ble_eq_true rfl, Nat.le_of_ble_eq_true rfl⟩
  · refine CX.of g (by decide) rfl (Nat.le_of_ble_eq_true rfl) ?_
    intro p l e s m below meth c A ls hst htab F hr hlocks w hl
    generalize ([.ref ((ad 0) 0)] : List Value).toArray = args
    have hl : lv_has ls 2 [(0, .ref ((ad 0) 0))] := hl
    have w : Wd G A s.heap (fl [wXo G.2.1 (ad 0) (xF ad) (.ref (b 0)) K, wSh G.2.1 (ad 1) S, wSh G.2.1 (ad 2) Fc, wTe G.2.1 (ad 4) C, wSb G.2.1 (ad 5) ou, wAd G.2.1 (ad 6) D, wAb G.2.1 (ad 7) B, wHo G.2.1 (ad 3) cu ct hs, hsL G.2.1 hs, wSh G.2.1 b P]) _ _ := w
    obtain ⟨S', M', hcp, e2, e3, e4⟩ := restore_some h
    refine lv_aload_n F.x F.b dX6_restore_0 rfl (lv_at hl 0 rfl) ?_
    refine rg F w cl6 0 rfl 7 (by decide) q308 rfl (v := .ref (b 0)) rfl dX6_restore_1 ?_
    refine lv_astore_n (lv' := [(1, .ref (b 0)), (0, .ref ((ad 0) 0))]) F.x F.b dX6_restore_4 rfl hl (by decide) rfl (fun ls hl => ?_)
    refine lv_aload_n F.x F.b dX6_restore_5 rfl (lv_at hl 0 rfl) ?_
    refine lv_ifnonnull (tgt := 20) F.x F.b dX6_restore_6 (by decide) ?_
    refine lv_aload_n F.x F.b dX6_restore_20 rfl (lv_at hl 1 rfl) ?_
    refine rg F w cl6 0 rfl 0 (by decide) q301 rfl (v := .ref ((ad 1) 0)) rfl dX6_restore_21 ?_
    refine lv_aload_n F.x F.b dX6_restore_24 rfl (lv_at hl 0 rfl) ?_
    refine kXv F w hst (LC := [wSh G.2.1 (ad 1) S, wSh G.2.1 b P]) (LR := [wXo G.2.1 (ad 0) (xF ad) (.ref (b 0)) K, wSh G.2.1 (ad 2) Fc, wTe G.2.1 (ad 4) C, wSb G.2.1 (ad 5) ou, wAd G.2.1 (ad 6) D, wAb G.2.1 (ad 7) B, wHo G.2.1 (ad 3) cu ct hs, hsL G.2.1 hs]) (As := [.ref (b 0)]) (rest := []) (t_X4_copyFrom F.1 hcp).toX m_X4_copyFrom v_X4_copyFrom q843 (ci := 8) (q0 := 1) rfl rfl rfl 10 [1, 9, 0, 2, 3, 4, 5, 6, 7, 8] rfl rfl rfl ⟨Nat.le_of_ble_eq_true rfl, Nat.le_of_ble_eq_true rfl⟩ rfl hl.1 rfl (Nat.le_of_ble_eq_true rfl) dX6_restore_25 ⟨Nat.le_of_ble_eq_true rfl, Nat.le_of_ble_eq_true rfl⟩ (fun _ _ _ _ _ _ hx => False.elim hx) (fun w1 H locs h9 w => ?_)
    have w := w.jn (L1 := [wSh G.2.1 (ad 1) S', wSh G.2.1 b P]) (L' := [wXo G.2.1 (ad 0) (xF ad) (.ref (b 0)) K, wSh G.2.1 (ad 1) S', wSh G.2.1 (ad 2) Fc, wTe G.2.1 (ad 4) C, wSb G.2.1 (ad 5) ou, wAd G.2.1 (ad 6) D, wAb G.2.1 (ad 7) B, wHo G.2.1 (ad 3) cu ct hs, hsL G.2.1 hs, wSh G.2.1 b P]) h9 10 [2, 0, 3, 4, 5, 6, 7, 8, 9, 1] rfl rfl rfl
    have w : Wd G A s.heap (fl [wXo G.2.1 (ad 0) (xF ad) (.ref (b 0)) K, wSh G.2.1 (ad 1) S', wSh G.2.1 (ad 2) Fc, wTe G.2.1 (ad 4) C, wSb G.2.1 (ad 5) ou, wAd G.2.1 (ad 6) D, wAb G.2.1 (ad 7) B, wHo G.2.1 (ad 3) cu ct hs, hsL G.2.1 hs, wSh G.2.1 b P]) _ _ := w
    refine lv_aload_n F.x F.b dX6_restore_28 rfl (lv_at hl 1 rfl) ?_
    refine rg F w cl6 0 rfl 2 (by decide) q303 rfl (v := .ref ((ad 3) 0)) rfl dX6_restore_29 ?_
    refine kXv F w hst (LC := [wHo G.2.1 (ad 3) cu ct hs]) (LR := [wXo G.2.1 (ad 0) (xF ad) (.ref (b 0)) K, wSh G.2.1 (ad 1) S', wSh G.2.1 (ad 2) Fc, wTe G.2.1 (ad 4) C, wSb G.2.1 (ad 5) ou, wAd G.2.1 (ad 6) D, wAb G.2.1 (ad 7) B, hsL G.2.1 hs, wSh G.2.1 b P]) (As := []) (rest := []) (t_X2_forget F.1) m_X2_forget v_X2_forget q1537 (ci := 6) (q0 := 36) rfl rfl rfl 10 [7, 0, 1, 2, 3, 4, 5, 6, 8, 9] rfl rfl rfl ⟨Nat.le_of_ble_eq_true rfl, Nat.le_of_ble_eq_true rfl⟩ rfl hl.1 rfl (Nat.le_of_ble_eq_true rfl) dX6_restore_32 ⟨Nat.le_of_ble_eq_true rfl, Nat.le_of_ble_eq_true rfl⟩ (fun _ _ _ _ _ _ hx => False.elim hx) (fun w1 H locs h9 w => ?_)
    have w := w.jn (L1 := [wHo G.2.1 (ad 3) cu 0 hs]) (L' := [wXo G.2.1 (ad 0) (xF ad) (.ref (b 0)) K, wSh G.2.1 (ad 1) S', wSh G.2.1 (ad 2) Fc, wTe G.2.1 (ad 4) C, wSb G.2.1 (ad 5) ou, wAd G.2.1 (ad 6) D, wAb G.2.1 (ad 7) B, wHo G.2.1 (ad 3) cu 0 hs, hsL G.2.1 hs, wSh G.2.1 b P]) h9 10 [1, 2, 3, 4, 5, 6, 7, 0, 8, 9] rfl rfl rfl
    have w : Wd G A s.heap (fl [wXo G.2.1 (ad 0) (xF ad) (.ref (b 0)) K, wSh G.2.1 (ad 1) S', wSh G.2.1 (ad 2) Fc, wTe G.2.1 (ad 4) C, wSb G.2.1 (ad 5) ou, wAd G.2.1 (ad 6) D, wAb G.2.1 (ad 7) B, wHo G.2.1 (ad 3) cu 0 hs, hsL G.2.1 hs, wSh G.2.1 b P]) _ _ := w
    refine lv_aload_n F.x F.b dX6_restore_35 rfl (lv_at hl 1 rfl) ?_
    refine rg F w cl6 0 rfl 0 (by decide) q301 rfl (v := .ref ((ad 1) 0)) rfl dX6_restore_36 ?_
    refine rgN F w cl4 1 rfl 0 (by decide) q188 rfl (v := .ref ((ad 1) 1)) rfl dX6_restore_39 ?_
    refine rgN F w cl3 2 rfl 7 (by decide) q127 rfl (v := .int (S'.1 0)) rfl dX6_restore_42 ?_
    exact eiX F w hr hlocks rfl ⟨K, S', Fc, C, D, B, cu, 0, hs, some (b, P), ou, M', rfl, e2, e3, e4⟩ (Nat.le_of_ble_eq_true rfl) (Nat.le_of_ble_eq_true rfl) dX6_restore_45
set_option maxRecDepth 100000 in
set_option maxHeartbeats 4000000 in
theorem k_save {G : cG} (g : GOK G) (gM : MG G) {ad : Nat → Nat → Nat} {N : Nat} {K S Fc C D B : Mem} {cu ct : Nat} {hs : hS} {sv : sV} {ou : oB} {M : Mem} (h : Top N K S C cu ct hs sv ou M) : KT G ad N yX6_save cX6_save 2 .int [.ref ((ad 0) 0)] (fl (wTop G.2.1 ad K S Fc C D B cu ct hs sv ou)) [] (f_X7_save M) := by
  rcases sv with _ | ⟨b, P0⟩
  · refine CX.of g (by decide) rfl (Nat.le_of_ble_eq_true rfl) ?_
    intro p l e s m below meth c A ls hst htab F hr hlocks w hl
    generalize ([.ref ((ad 0) 0)] : List Value).toArray = args
    have hl : lv_has ls 2 [(0, .ref ((ad 0) 0))] := hl
    have w : Wd G A s.heap (fl [wXo G.2.1 (ad 0) (xF ad) .null K, wSh G.2.1 (ad 1) S, wSh G.2.1 (ad 2) Fc, wTe G.2.1 (ad 4) C, wSb G.2.1 (ad 5) ou, wAd G.2.1 (ad 6) D, wAb G.2.1 (ad 7) B, wHo G.2.1 (ad 3) cu ct hs, hsL G.2.1 hs, blk G.2.1 none]) _ _ := w
    have w : Wd G A s.heap (fl ([wXo G.2.1 (ad 0) (xF ad) .null K, wSh G.2.1 (ad 1) S, wSh G.2.1 (ad 2) Fc, wTe G.2.1 (ad 4) C, wSb G.2.1 (ad 5) ou, wAd G.2.1 (ad 6) D, wAb G.2.1 (ad 7) B, wHo G.2.1 (ad 3) cu ct hs, hsL G.2.1 hs] ++ [[]])) _ _ := w
    rw [fl_nil] at w
    have w : Wd G A s.heap (fl [wXo G.2.1 (ad 0) (xF ad) .null K, wSh G.2.1 (ad 1) S, wSh G.2.1 (ad 2) Fc, wTe G.2.1 (ad 4) C, wSb G.2.1 (ad 5) ou, wAd G.2.1 (ad 6) D, wAb G.2.1 (ad 7) B, wHo G.2.1 (ad 3) cu ct hs, hsL G.2.1 hs]) _ _ := w
    refine lv_aload_n F.x F.b dX6_save_0 rfl (lv_at hl 0 rfl) ?_
    refine rg F w cl6 0 rfl 7 (by decide) q308 rfl (v := .null) rfl dX6_save_1 ?_
    refine lv_astore_nN (lv' := [(1, .null), (0, .ref ((ad 0) 0))]) F.x F.b dX6_save_4 rfl hl (by decide) rfl (fun ls hl => ?_)
    refine lv_aload_nN F.x F.b dX6_save_5 rfl (lv_at hl 0 rfl) ?_
    refine lv_ifnonnullN F.x F.b dX6_save_6 ?_
    have w := w.re (L' := [wXo G.2.1 (ad 0) (xF ad) .null K, wSh G.2.1 (ad 1) S, wSh G.2.1 (ad 2) Fc, wTe G.2.1 (ad 4) C, wSb G.2.1 (ad 5) ou, wAd G.2.1 (ad 6) D, wAb G.2.1 (ad 7) B, wHo G.2.1 (ad 3) cu ct hs, hsL G.2.1 hs]) 9 [0, 1, 2, 3, 4, 5, 6, 7, 8] rfl rfl rfl
    refine rn F w cl4 q94 (List.mem_of_getElem? (i := 95) (by decide +kernel)) (List.mem_of_getElem? (i := 56) (by decide +kernel)) [.null, .null, .null, .int 0, .int 0, .int 0, .int 0] (fun j hj => by rcases (show j = 0 ∨ j = 1 ∨ j = 2 ∨ j = 3 ∨ j = 4 ∨ j = 5 ∨ j = 6 by omega) with rfl | rfl | rfl | rfl | rfl | rfl | rfl <;> rfl) (Nat.le_of_ble_eq_true rfl) (Nat.le_of_ble_eq_true rfl) dX6_save_9 (fun z1 H w => ?_)
    have w : Wd G A s.heap (fl [wXo G.2.1 (ad 0) (xF ad) .null K, wSh G.2.1 (ad 1) S, wSh G.2.1 (ad 2) Fc, wTe G.2.1 (ad 4) C, wSb G.2.1 (ad 5) ou, wAd G.2.1 (ad 6) D, wAb G.2.1 (ad 7) B, wHo G.2.1 (ad 3) cu ct hs, hsL G.2.1 hs, [(z1, .inr (8, [.null, .null, .null, .int 0, .int 0, .int 0, .int 0]))]]) _ _ := w
    refine lv_dup F.x F.b dX6_save_12 rfl ?_
    refine kCN F w (LC := [[(z1, .inr (8, [.null, .null, .null, .int 0, .int 0, .int 0, .int 0]))]]) (LR := [wXo G.2.1 (ad 0) (xF ad) .null K, wSh G.2.1 (ad 1) S, wSh G.2.1 (ad 2) Fc, wTe G.2.1 (ad 4) C, wSb G.2.1 (ad 5) ou, wAd G.2.1 (ad 6) D, wAb G.2.1 (ad 7) B, wHo G.2.1 (ad 3) cu ct hs, hsL G.2.1 hs]) (As := []) (rest := [.ref z1]) (t_X4_init F.1) m_X4_init v_X4_init rfl q96 10 [9, 0, 1, 2, 3, 4, 5, 6, 7, 8] rfl rfl rfl ⟨Nat.le_of_ble_eq_true rfl, Nat.le_of_ble_eq_true rfl⟩ rfl hl.1 rfl (Nat.le_of_ble_eq_true rfl) dX6_save_13 ⟨Nat.le_of_ble_eq_true rfl, Nat.le_of_ble_eq_true rfl⟩ (fun w1 H locs h9 w => ?_)
    obtain ⟨b, hb0, h9⟩ := h9
    have w0 := w
    subst hb0
    have w := w0
    have w := w.jn (L1 := [wSh G.2.1 b zM]) (L' := [wXo G.2.1 (ad 0) (xF ad) .null K, wSh G.2.1 (ad 1) S, wSh G.2.1 (ad 2) Fc, wTe G.2.1 (ad 4) C, wSb G.2.1 (ad 5) ou, wAd G.2.1 (ad 6) D, wAb G.2.1 (ad 7) B, wHo G.2.1 (ad 3) cu ct hs, hsL G.2.1 hs, wSh G.2.1 b zM]) h9 10 [1, 2, 3, 4, 5, 6, 7, 8, 9, 0] rfl rfl rfl
    have w : Wd G A s.heap (fl [wXo G.2.1 (ad 0) (xF ad) .null K, wSh G.2.1 (ad 1) S, wSh G.2.1 (ad 2) Fc, wTe G.2.1 (ad 4) C, wSb G.2.1 (ad 5) ou, wAd G.2.1 (ad 6) D, wAb G.2.1 (ad 7) B, wHo G.2.1 (ad 3) cu ct hs, hsL G.2.1 hs, wSh G.2.1 b zM]) _ _ := w
    refine lv_astore_n (lv' := [(1, .ref (b 0)), (0, .ref ((ad 0) 0))]) F.x F.b dX6_save_16 rfl hl (by decide) rfl (fun ls hl => ?_)
    refine lv_aload_n F.x F.b dX6_save_17 rfl (lv_at hl 1 rfl) ?_
    refine lv_aload_n F.x F.b dX6_save_18 rfl (lv_at hl 0 rfl) ?_
    refine rp F w (ws' := fl [wXo G.2.1 (ad 0) (xF ad) (.ref (b 0)) K, wSh G.2.1 (ad 1) S, wSh G.2.1 (ad 2) Fc, wTe G.2.1 (ad 4) C, wSb G.2.1 (ad 5) ou, wAd G.2.1 (ad 6) D, wAb G.2.1 (ad 7) B, wHo G.2.1 (ad 3) cu ct hs, hsL G.2.1 hs, wSh G.2.1 b zM]) cl6 0 rfl 7 (by decide) q308 rfl rfl rfl rfl (Nat.le_of_ble_eq_true rfl) rfl dX6_save_19 (fun H locs w => ?_)
    refine lv_aload_n F.x F.b dX6_save_22 rfl (lv_at hl 0 rfl) ?_
    refine lv_aload_n F.x F.b dX6_save_23 rfl (lv_at hl 1 rfl) ?_
    refine rg F w cl6 0 rfl 0 (by decide) q301 rfl (v := .ref ((ad 1) 0)) rfl dX6_save_24 ?_
    obtain ⟨P, hcp, -⟩ := h.1.cp zM
    have w := w.re (L' := [wXo G.2.1 (ad 0) (xF ad) (.ref (b 0)) K, wSh G.2.1 (ad 1) S, wSh G.2.1 (ad 2) Fc, wTe G.2.1 (ad 4) C, wSb G.2.1 (ad 5) ou, wAd G.2.1 (ad 6) D, wAb G.2.1 (ad 7) B, wHo G.2.1 (ad 3) cu ct hs, wSh G.2.1 b zM, hsL G.2.1 hs]) 10 [0, 1, 2, 3, 4, 5, 6, 7, 9, 8] rfl rfl rfl
    have w : Wd G A s.heap (fl [wXo G.2.1 (ad 0) (xF ad) (.ref (b 0)) K, wSh G.2.1 (ad 1) S, wSh G.2.1 (ad 2) Fc, wTe G.2.1 (ad 4) C, wSb G.2.1 (ad 5) ou, wAd G.2.1 (ad 6) D, wAb G.2.1 (ad 7) B, wHo G.2.1 (ad 3) cu ct hs, wSh G.2.1 b zM, hsL G.2.1 hs]) _ _ := w
    refine kXv F w hst (LC := [wSh G.2.1 b zM, wSh G.2.1 (ad 1) S]) (LR := [wXo G.2.1 (ad 0) (xF ad) (.ref (b 0)) K, wSh G.2.1 (ad 2) Fc, wTe G.2.1 (ad 4) C, wSb G.2.1 (ad 5) ou, wAd G.2.1 (ad 6) D, wAb G.2.1 (ad 7) B, wHo G.2.1 (ad 3) cu ct hs, hsL G.2.1 hs]) (As := [.ref ((ad 1) 0)]) (rest := []) (t_X4_copyFrom F.1 hcp).toX m_X4_copyFrom v_X4_copyFrom q843 (ci := 8) (q0 := 38) rfl rfl rfl 10 [8, 1, 0, 2, 3, 4, 5, 6, 7, 9] rfl rfl rfl ⟨Nat.le_of_ble_eq_true rfl, Nat.le_of_ble_eq_true rfl⟩ rfl hl.1 rfl (Nat.le_of_ble_eq_true rfl) dX6_save_27 ⟨Nat.le_of_ble_eq_true rfl, Nat.le_of_ble_eq_true rfl⟩ (fun _ _ _ _ _ _ hx => False.elim hx) (fun w1 H locs h9 w => ?_)
    have w := w.jn (L1 := [wSh G.2.1 b P, wSh G.2.1 (ad 1) S]) (L' := [wXo G.2.1 (ad 0) (xF ad) (.ref (b 0)) K, wSh G.2.1 (ad 1) S, wSh G.2.1 (ad 2) Fc, wTe G.2.1 (ad 4) C, wSb G.2.1 (ad 5) ou, wAd G.2.1 (ad 6) D, wAb G.2.1 (ad 7) B, wHo G.2.1 (ad 3) cu ct hs, wSh G.2.1 b P, hsL G.2.1 hs]) h9 10 [2, 1, 3, 4, 5, 6, 7, 8, 0, 9] rfl rfl rfl
    refine lv_aload_n F.x F.b dX6_save_30 rfl (lv_at hl 1 rfl) ?_
    refine rg F w cl6 0 rfl 0 (by decide) q301 rfl (v := .ref ((ad 1) 0)) rfl dX6_save_31 ?_
    refine rgN F w cl4 1 rfl 0 (by decide) q188 rfl (v := .ref ((ad 1) 1)) rfl dX6_save_34 ?_
    refine rgN F w cl3 2 rfl 7 (by decide) q127 rfl (v := .int (S.1 0)) rfl dX6_save_37 ?_
    have w := w.re (L' := [wXo G.2.1 (ad 0) (xF ad) (.ref (b 0)) K, wSh G.2.1 (ad 1) S, wSh G.2.1 (ad 2) Fc, wTe G.2.1 (ad 4) C, wSb G.2.1 (ad 5) ou, wAd G.2.1 (ad 6) D, wAb G.2.1 (ad 7) B, wHo G.2.1 (ad 3) cu ct hs, hsL G.2.1 hs, wSh G.2.1 b P]) 10 [0, 1, 2, 3, 4, 5, 6, 7, 9, 8] rfl rfl rfl
    have w : Wd G A s.heap (fl [wXo G.2.1 (ad 0) (xF ad) (.ref (b 0)) K, wSh G.2.1 (ad 1) S, wSh G.2.1 (ad 2) Fc, wTe G.2.1 (ad 4) C, wSb G.2.1 (ad 5) ou, wAd G.2.1 (ad 6) D, wAb G.2.1 (ad 7) B, wHo G.2.1 (ad 3) cu ct hs, hsL G.2.1 hs, wSh G.2.1 b P]) _ _ := w
    obtain ⟨M', e2, e3, e4⟩ := save_both h (b := b) hcp
    exact eiX F w hr hlocks rfl ⟨K, S, Fc, C, D, B, cu, ct, hs, some (b, P), ou, M', rfl, e2, e3, e4⟩ (Nat.le_of_ble_eq_true rfl) (Nat.le_of_ble_eq_true rfl) dX6_save_40
  · refine CX.of g (by decide) rfl (Nat.le_of_ble_eq_true rfl) ?_
    intro p l e s m below meth c A ls hst htab F hr hlocks w hl
    generalize ([.ref ((ad 0) 0)] : List Value).toArray = args
    have hl : lv_has ls 2 [(0, .ref ((ad 0) 0))] := hl
    have w : Wd G A s.heap (fl [wXo G.2.1 (ad 0) (xF ad) (.ref (b 0)) K, wSh G.2.1 (ad 1) S, wSh G.2.1 (ad 2) Fc, wTe G.2.1 (ad 4) C, wSb G.2.1 (ad 5) ou, wAd G.2.1 (ad 6) D, wAb G.2.1 (ad 7) B, wHo G.2.1 (ad 3) cu ct hs, hsL G.2.1 hs, wSh G.2.1 b P0]) _ _ := w
    obtain ⟨P, hcp, -⟩ := h.1.cp P0
    obtain ⟨M', e2, e3, e4⟩ := save_both h (b := b) hcp
    refine lv_aload_n F.x F.b dX6_save_0 rfl (lv_at hl 0 rfl) ?_
    refine rg F w cl6 0 rfl 7 (by decide) q308 rfl (v := .ref (b 0)) rfl dX6_save_1 ?_
    refine lv_astore_n (lv' := [(1, .ref (b 0)), (0, .ref ((ad 0) 0))]) F.x F.b dX6_save_4 rfl hl (by decide) rfl (fun ls hl => ?_)
    refine lv_aload_n F.x F.b dX6_save_5 rfl (lv_at hl 0 rfl) ?_
    refine lv_ifnonnull (tgt := 22) F.x F.b dX6_save_6 (by decide) ?_
    refine lv_aload_n F.x F.b dX6_save_22 rfl (lv_at hl 0 rfl) ?_
    refine lv_aload_n F.x F.b dX6_save_23 rfl (lv_at hl 1 rfl) ?_
    refine rg F w cl6 0 rfl 0 (by decide) q301 rfl (v := .ref ((ad 1) 0)) rfl dX6_save_24 ?_
    have w := w.re (L' := [wXo G.2.1 (ad 0) (xF ad) (.ref (b 0)) K, wSh G.2.1 (ad 1) S, wSh G.2.1 (ad 2) Fc, wTe G.2.1 (ad 4) C, wSb G.2.1 (ad 5) ou, wAd G.2.1 (ad 6) D, wAb G.2.1 (ad 7) B, wHo G.2.1 (ad 3) cu ct hs, wSh G.2.1 b P0, hsL G.2.1 hs]) 10 [0, 1, 2, 3, 4, 5, 6, 7, 9, 8] rfl rfl rfl
    have w : Wd G A s.heap (fl [wXo G.2.1 (ad 0) (xF ad) (.ref (b 0)) K, wSh G.2.1 (ad 1) S, wSh G.2.1 (ad 2) Fc, wTe G.2.1 (ad 4) C, wSb G.2.1 (ad 5) ou, wAd G.2.1 (ad 6) D, wAb G.2.1 (ad 7) B, wHo G.2.1 (ad 3) cu ct hs, wSh G.2.1 b P0, hsL G.2.1 hs]) _ _ := w
    refine kXv F w hst (LC := [wSh G.2.1 b P0, wSh G.2.1 (ad 1) S]) (LR := [wXo G.2.1 (ad 0) (xF ad) (.ref (b 0)) K, wSh G.2.1 (ad 2) Fc, wTe G.2.1 (ad 4) C, wSb G.2.1 (ad 5) ou, wAd G.2.1 (ad 6) D, wAb G.2.1 (ad 7) B, wHo G.2.1 (ad 3) cu ct hs, hsL G.2.1 hs]) (As := [.ref ((ad 1) 0)]) (rest := []) (t_X4_copyFrom F.1 hcp).toX m_X4_copyFrom v_X4_copyFrom q843 (ci := 8) (q0 := 38) rfl rfl rfl 10 [8, 1, 0, 2, 3, 4, 5, 6, 7, 9] rfl rfl rfl ⟨Nat.le_of_ble_eq_true rfl, Nat.le_of_ble_eq_true rfl⟩ rfl hl.1 rfl (Nat.le_of_ble_eq_true rfl) dX6_save_27 ⟨Nat.le_of_ble_eq_true rfl, Nat.le_of_ble_eq_true rfl⟩ (fun _ _ _ _ _ _ hx => False.elim hx) (fun w1 H locs h9 w => ?_)
    have w := w.jn (L1 := [wSh G.2.1 b P, wSh G.2.1 (ad 1) S]) (L' := [wXo G.2.1 (ad 0) (xF ad) (.ref (b 0)) K, wSh G.2.1 (ad 1) S, wSh G.2.1 (ad 2) Fc, wTe G.2.1 (ad 4) C, wSb G.2.1 (ad 5) ou, wAd G.2.1 (ad 6) D, wAb G.2.1 (ad 7) B, wHo G.2.1 (ad 3) cu ct hs, wSh G.2.1 b P, hsL G.2.1 hs]) h9 10 [2, 1, 3, 4, 5, 6, 7, 8, 0, 9] rfl rfl rfl
    refine lv_aload_n F.x F.b dX6_save_30 rfl (lv_at hl 1 rfl) ?_
    refine rg F w cl6 0 rfl 0 (by decide) q301 rfl (v := .ref ((ad 1) 0)) rfl dX6_save_31 ?_
    refine rgN F w cl4 1 rfl 0 (by decide) q188 rfl (v := .ref ((ad 1) 1)) rfl dX6_save_34 ?_
    refine rgN F w cl3 2 rfl 7 (by decide) q127 rfl (v := .int (S.1 0)) rfl dX6_save_37 ?_
    have w := w.re (L' := [wXo G.2.1 (ad 0) (xF ad) (.ref (b 0)) K, wSh G.2.1 (ad 1) S, wSh G.2.1 (ad 2) Fc, wTe G.2.1 (ad 4) C, wSb G.2.1 (ad 5) ou, wAd G.2.1 (ad 6) D, wAb G.2.1 (ad 7) B, wHo G.2.1 (ad 3) cu ct hs, hsL G.2.1 hs, wSh G.2.1 b P]) 10 [0, 1, 2, 3, 4, 5, 6, 7, 9, 8] rfl rfl rfl
    have w : Wd G A s.heap (fl [wXo G.2.1 (ad 0) (xF ad) (.ref (b 0)) K, wSh G.2.1 (ad 1) S, wSh G.2.1 (ad 2) Fc, wTe G.2.1 (ad 4) C, wSb G.2.1 (ad 5) ou, wAd G.2.1 (ad 6) D, wAb G.2.1 (ad 7) B, wHo G.2.1 (ad 3) cu ct hs, hsL G.2.1 hs, wSh G.2.1 b P]) _ _ := w
    exact eiX F w hr hlocks rfl ⟨K, S, Fc, C, D, B, cu, ct, hs, some (b, P), ou, M', rfl, e2, e3, e4⟩ (Nat.le_of_ble_eq_true rfl) (Nat.le_of_ble_eq_true rfl) dX6_save_40
set_option maxRecDepth 100000 in
set_option maxHeartbeats 4000000 in
theorem k_dampAfter {G : cG} (g : GOK G) (gM : MG G) {ad : Nat → Nat → Nat} {N : Nat} {K S Fc C D B : Mem} {cu ct : Nat} {hs : hS} {sv : sV} {ou : oB} {M : Mem} {x1 : Int32} (h : Top N K S C cu ct hs sv ou M) : KT G ad N yX6_dampAfter cX6_dampAfter 2 .int [.ref ((ad 0) 0), .int x1] (fl (wTop G.2.1 ad K S Fc C D B cu ct hs sv ou)) [(eIAE, 1)] (f_X7_dampAfter M x1) := by
  rcases in_cases x1 0 30 (by omega) (by omega) with ⟨-, hx⟩ | ⟨-, nn, n1, n2, rfl⟩
  · refine CX.of g (by decide) rfl (Nat.le_of_ble_eq_true rfl) ?_
    intro p l e s m below meth c A ls hst htab F hr hlocks w hl
    generalize ([.ref ((ad 0) 0), .int x1] : List Value).toArray = args
    have hl : lv_has ls 2 [(0, .ref ((ad 0) 0)), (1, .int x1)] := hl
    have w : Wd G A s.heap (fl [wXo G.2.1 (ad 0) (xF ad) (svV sv) K, wSh G.2.1 (ad 1) S, wSh G.2.1 (ad 2) Fc, wTe G.2.1 (ad 4) C, wSb G.2.1 (ad 5) ou, wAd G.2.1 (ad 6) D, wAb G.2.1 (ad 7) B, wHo G.2.1 (ad 3) cu ct hs, hsL G.2.1 hs, blk G.2.1 sv]) _ _ := w
    obtain ⟨b9, M', e2, e3, e4⟩ := q_afterNo hx
    by_cases hx0 : x1 < 0
    · refine lv_iload_n F.x F.b dX6_dampAfter_0 rfl (lv_at hl 1 rfl) ?_
      refine lv_if_lt (tgt := 10) F.x F.b dX6_dampAfter_1 (by decide) (fun _ => ?_) (fun c9 => absurd hx0 c9)
      exact wTS F w gM hst htab hlocks hS_IAE (is := 205) (by decide +kernel : (205, "days are from 0 to 30") ∈ msgs) (⟨K, S, Fc, C, D, B, cu, ct, hs, sv, ou, M', b9, 1, rfl, e2, e3, List.mem_cons_self, h.ask e4⟩) hl.1 dX6_dampAfter_10 dX6_dampAfter_13 dX6_dampAfter_14 dX6_dampAfter_16 dX6_dampAfter_19 ⟨Nat.le_of_ble_eq_true rfl, Nat.le_of_ble_eq_true rfl, Nat.le_of_ble_eq_true rfl, Nat.le_of_ble_eq_true rfl⟩ ⟨Nat.le_of_ble_eq_true rfl, Nat.le_of_ble_eq_true rfl⟩
    · refine lv_iload_n F.x F.b dX6_dampAfter_0 rfl (lv_at hl 1 rfl) ?_
      refine lv_if_lt (tgt := 10) F.x F.b dX6_dampAfter_1 (by decide) (fun c9 => absurd c9 hx0) (fun _ => ?_)
      refine lv_iload_n F.x F.b dX6_dampAfter_4 rfl (lv_at hl 1 rfl) ?_
      refine lv_bipush (v := 30) F.x F.b dX6_dampAfter_5 (by decide) ?_
      refine lv_icmp_le (tgt := 20) F.x F.b dX6_dampAfter_7 (by decide) (fun c9 => absurd c9 (Int32.not_le.mpr (hx.resolve_left hx0))) (fun _ => ?_)
      exact wTS F w gM hst htab hlocks hS_IAE (is := 205) (by decide +kernel : (205, "days are from 0 to 30") ∈ msgs) (⟨K, S, Fc, C, D, B, cu, ct, hs, sv, ou, M', b9, 1, rfl, e2, e3, List.mem_cons_self, h.ask e4⟩) hl.1 dX6_dampAfter_10 dX6_dampAfter_13 dX6_dampAfter_14 dX6_dampAfter_16 dX6_dampAfter_19 ⟨Nat.le_of_ble_eq_true rfl, Nat.le_of_ble_eq_true rfl, Nat.le_of_ble_eq_true rfl, Nat.le_of_ble_eq_true rfl⟩ ⟨Nat.le_of_ble_eq_true rfl, Nat.le_of_ble_eq_true rfl⟩
  · refine CX.of g (by decide) rfl (Nat.le_of_ble_eq_true rfl) ?_
    intro p l e s m below meth c A ls hst htab F hr hlocks w hl
    generalize ([.ref ((ad 0) 0), .int (nI nn)] : List Value).toArray = args
    have hl : lv_has ls 2 [(0, .ref ((ad 0) 0)), (1, .int (nI nn))] := hl
    have w : Wd G A s.heap (fl [wXo G.2.1 (ad 0) (xF ad) (svV sv) K, wSh G.2.1 (ad 1) S, wSh G.2.1 (ad 2) Fc, wTe G.2.1 (ad 4) C, wSb G.2.1 (ad 5) ou, wAd G.2.1 (ad 6) D, wAb G.2.1 (ad 7) B, wHo G.2.1 (ad 3) cu ct hs, hsL G.2.1 hs, blk G.2.1 sv]) _ _ := w
    obtain ⟨F1, F2, rr, M', hq1, hq2, hq3, hq4, e2, f1, f2, f3⟩ := r_after h.1 Fc n2
    have e3 : M'.1 0 = nI 0 := by rw [f1]; rfl
    have e4 : FmR M M' := ⟨fun k hk => by rw [f1, wrI_1, if_neg hk], f2, fun j y a b c _ => f3 j y a b c⟩
    refine lv_iload_n F.x F.b dX6_dampAfter_0 rfl (lv_at hl 1 rfl) ?_
    refine lv_if_lt (tgt := 10) F.x F.b dX6_dampAfter_1 (by decide) (fun c9 => absurd c9 (nI_pos (n := nn) (by omega))) (fun _ => ?_)
    refine lv_iload_n F.x F.b dX6_dampAfter_4 rfl (lv_at hl 1 rfl) ?_
    refine lv_bipush (v := 30) F.x F.b dX6_dampAfter_5 (by decide) ?_
    refine lv_icmp_le (tgt := 20) F.x F.b dX6_dampAfter_7 (by decide) (fun _ => ?_) (fun c9 => absurd (show nI nn ≤ (30 : Int32) from nI_le (a := nn) (b := 30) n2 (by omega)) c9)
    refine lv_aload_n F.x F.b dX6_dampAfter_20 rfl (lv_at hl 0 rfl) ?_
    refine rg F w cl6 0 rfl 1 (by decide) q302 rfl (v := .ref ((ad 2) 0)) rfl dX6_dampAfter_21 ?_
    refine lv_aload_n F.x F.b dX6_dampAfter_24 rfl (lv_at hl 0 rfl) ?_
    refine rg F w cl6 0 rfl 0 (by decide) q301 rfl (v := .ref ((ad 1) 0)) rfl dX6_dampAfter_25 ?_
    refine kXv F w hst (LC := [wSh G.2.1 (ad 2) Fc, wSh G.2.1 (ad 1) S]) (LR := [wXo G.2.1 (ad 0) (xF ad) (svV sv) K, wTe G.2.1 (ad 4) C, wSb G.2.1 (ad 5) ou, wAd G.2.1 (ad 6) D, wAb G.2.1 (ad 7) B, wHo G.2.1 (ad 3) cu ct hs, hsL G.2.1 hs, blk G.2.1 sv]) (As := [.ref ((ad 1) 0)]) (rest := []) (t_X4_copyFrom F.1 hq1).toX m_X4_copyFrom v_X4_copyFrom q843 (ci := 8) (q0 := 15) rfl rfl rfl 10 [2, 1, 0, 3, 4, 5, 6, 7, 8, 9] rfl rfl rfl ⟨Nat.le_of_ble_eq_true rfl, Nat.le_of_ble_eq_true rfl⟩ rfl hl.1 rfl (Nat.le_of_ble_eq_true rfl) dX6_dampAfter_28 ⟨Nat.le_of_ble_eq_true rfl, Nat.le_of_ble_eq_true rfl⟩ (fun _ _ _ _ _ _ hx => False.elim hx) (fun w1 H locs h9 w => ?_)
    have w := w.jn (L1 := [wSh G.2.1 (ad 2) F1, wSh G.2.1 (ad 1) S]) (L' := [wXo G.2.1 (ad 0) (xF ad) (svV sv) K, wSh G.2.1 (ad 1) S, wSh G.2.1 (ad 2) F1, wTe G.2.1 (ad 4) C, wSb G.2.1 (ad 5) ou, wAd G.2.1 (ad 6) D, wAb G.2.1 (ad 7) B, wHo G.2.1 (ad 3) cu ct hs, hsL G.2.1 hs, blk G.2.1 sv]) h9 10 [2, 1, 0, 3, 4, 5, 6, 7, 8, 9] rfl rfl rfl
    have w : Wd G A s.heap (fl [wXo G.2.1 (ad 0) (xF ad) (svV sv) K, wSh G.2.1 (ad 1) S, wSh G.2.1 (ad 2) F1, wTe G.2.1 (ad 4) C, wSb G.2.1 (ad 5) ou, wAd G.2.1 (ad 6) D, wAb G.2.1 (ad 7) B, wHo G.2.1 (ad 3) cu ct hs, hsL G.2.1 hs, blk G.2.1 sv]) _ _ := w
    refine lv_iload_n F.x F.b dX6_dampAfter_31 rfl (lv_at hl 1 rfl) ?_
    by_cases hn0 : nn = 0
    · refine lv_if_le (tgt := 44) F.x F.b dX6_dampAfter_32 (by decide) (fun _ => ?_) (fun c9 => absurd (show nI nn ≤ 0 by rw [hn0]; decide) c9)
      rw [← hq2 hn0] at w
      have w : Wd G A s.heap (fl [wXo G.2.1 (ad 0) (xF ad) (svV sv) K, wSh G.2.1 (ad 1) S, wSh G.2.1 (ad 2) F2, wTe G.2.1 (ad 4) C, wSb G.2.1 (ad 5) ou, wAd G.2.1 (ad 6) D, wAb G.2.1 (ad 7) B, wHo G.2.1 (ad 3) cu ct hs, hsL G.2.1 hs, blk G.2.1 sv]) _ _ := w
      refine lv_aload_n F.x F.b dX6_dampAfter_44 rfl (lv_at hl 0 rfl) ?_
      refine rg F w cl6 0 rfl 1 (by decide) q302 rfl (v := .ref ((ad 2) 0)) rfl dX6_dampAfter_45 ?_
      refine rgN F w cl4 15 rfl 0 (by decide) q188 rfl (v := .ref ((ad 2) 1)) rfl dX6_dampAfter_48 ?_
      refine kXi F w hst (LC := [wSh G.2.1 (ad 2) F2]) (LR := [wXo G.2.1 (ad 0) (xF ad) (svV sv) K, wSh G.2.1 (ad 1) S, wTe G.2.1 (ad 4) C, wSb G.2.1 (ad 5) ou, wAd G.2.1 (ad 6) D, wAb G.2.1 (ad 7) B, wHo G.2.1 (ad 3) cu ct hs, hsL G.2.1 hs, blk G.2.1 sv]) (As := []) (rest := []) (t_X3_countDamp F.1 hq4).toX m_X3_countDamp v_X3_countDamp q386 (ci := 7) (q0 := 16) rfl rfl rfl 10 [2, 0, 1, 3, 4, 5, 6, 7, 8, 9] rfl rfl rfl ⟨Nat.le_of_ble_eq_true rfl, Nat.le_of_ble_eq_true rfl⟩ rfl hl.1 rfl (Nat.le_of_ble_eq_true rfl) dX6_dampAfter_51 ⟨Nat.le_of_ble_eq_true rfl, Nat.le_of_ble_eq_true rfl⟩ (fun _ _ _ _ _ _ hx => False.elim hx) (fun r9 w1 H locs h9 w => ?_)
      obtain ⟨rfl, h9⟩ := h9
      have w := w.jn (L1 := [wSh G.2.1 (ad 2) F2]) (L' := [wXo G.2.1 (ad 0) (xF ad) (svV sv) K, wSh G.2.1 (ad 1) S, wSh G.2.1 (ad 2) F2, wTe G.2.1 (ad 4) C, wSb G.2.1 (ad 5) ou, wAd G.2.1 (ad 6) D, wAb G.2.1 (ad 7) B, wHo G.2.1 (ad 3) cu ct hs, hsL G.2.1 hs, blk G.2.1 sv]) h9 10 [1, 2, 0, 3, 4, 5, 6, 7, 8, 9] rfl rfl rfl
      exact eiX F w hr hlocks rfl ⟨K, S, F2, C, D, B, cu, ct, hs, sv, ou, M', rfl, e2, e3, h.ask e4⟩ (Nat.le_of_ble_eq_true rfl) (Nat.le_of_ble_eq_true rfl) dX6_dampAfter_54
    · obtain ⟨zz, hz⟩ := hq3 hn0
      refine lv_if_le (tgt := 44) F.x F.b dX6_dampAfter_32 (by decide) (fun c9 => absurd c9 (nI_nle (n := nn) (by omega) (by omega))) (fun _ => ?_)
      refine lv_aload_n F.x F.b dX6_dampAfter_35 rfl (lv_at hl 0 rfl) ?_
      refine rg F w cl6 0 rfl 1 (by decide) q302 rfl (v := .ref ((ad 2) 0)) rfl dX6_dampAfter_36 ?_
      refine lv_iload_n F.x F.b dX6_dampAfter_39 rfl (lv_at hl 1 rfl) ?_
      refine kXi F w hst (LC := [wSh G.2.1 (ad 2) F1]) (LR := [wXo G.2.1 (ad 0) (xF ad) (svV sv) K, wSh G.2.1 (ad 1) S, wTe G.2.1 (ad 4) C, wSb G.2.1 (ad 5) ou, wAd G.2.1 (ad 6) D, wAb G.2.1 (ad 7) B, wHo G.2.1 (ad 3) cu ct hs, hsL G.2.1 hs, blk G.2.1 sv]) (As := [.int (nI nn)]) (rest := []) (t_X4_letPass F.1 hz).toX m_X4_letPass v_X4_letPass q1224 (ci := 8) (q0 := 15) rfl rfl rfl 10 [2, 0, 1, 3, 4, 5, 6, 7, 8, 9] rfl rfl rfl ⟨Nat.le_of_ble_eq_true rfl, Nat.le_of_ble_eq_true rfl⟩ rfl hl.1 rfl (Nat.le_of_ble_eq_true rfl) dX6_dampAfter_40 ⟨Nat.le_of_ble_eq_true rfl, Nat.le_of_ble_eq_true rfl⟩ (fun _ _ _ _ _ _ hx => False.elim hx) (fun r9 w1 H locs h9 w => ?_)
      obtain ⟨rfl, h9⟩ := h9
      have w := w.jn (L1 := [wSh G.2.1 (ad 2) F2]) (L' := [wXo G.2.1 (ad 0) (xF ad) (svV sv) K, wSh G.2.1 (ad 1) S, wSh G.2.1 (ad 2) F2, wTe G.2.1 (ad 4) C, wSb G.2.1 (ad 5) ou, wAd G.2.1 (ad 6) D, wAb G.2.1 (ad 7) B, wHo G.2.1 (ad 3) cu ct hs, hsL G.2.1 hs, blk G.2.1 sv]) h9 10 [1, 2, 0, 3, 4, 5, 6, 7, 8, 9] rfl rfl rfl
      have w : Wd G A s.heap (fl [wXo G.2.1 (ad 0) (xF ad) (svV sv) K, wSh G.2.1 (ad 1) S, wSh G.2.1 (ad 2) F2, wTe G.2.1 (ad 4) C, wSb G.2.1 (ad 5) ou, wAd G.2.1 (ad 6) D, wAb G.2.1 (ad 7) B, wHo G.2.1 (ad 3) cu ct hs, hsL G.2.1 hs, blk G.2.1 sv]) _ _ := w
      refine lv_pop F.x F.b dX6_dampAfter_43 rfl ?_
      refine lv_aload_n F.x F.b dX6_dampAfter_44 rfl (lv_at hl 0 rfl) ?_
      refine rg F w cl6 0 rfl 1 (by decide) q302 rfl (v := .ref ((ad 2) 0)) rfl dX6_dampAfter_45 ?_
      refine rgN F w cl4 15 rfl 0 (by decide) q188 rfl (v := .ref ((ad 2) 1)) rfl dX6_dampAfter_48 ?_
      refine kXi F w hst (LC := [wSh G.2.1 (ad 2) F2]) (LR := [wXo G.2.1 (ad 0) (xF ad) (svV sv) K, wSh G.2.1 (ad 1) S, wTe G.2.1 (ad 4) C, wSb G.2.1 (ad 5) ou, wAd G.2.1 (ad 6) D, wAb G.2.1 (ad 7) B, wHo G.2.1 (ad 3) cu ct hs, hsL G.2.1 hs, blk G.2.1 sv]) (As := []) (rest := []) (t_X3_countDamp F.1 hq4).toX m_X3_countDamp v_X3_countDamp q386 (ci := 7) (q0 := 16) rfl rfl rfl 10 [2, 0, 1, 3, 4, 5, 6, 7, 8, 9] rfl rfl rfl ⟨Nat.le_of_ble_eq_true rfl, Nat.le_of_ble_eq_true rfl⟩ rfl hl.1 rfl (Nat.le_of_ble_eq_true rfl) dX6_dampAfter_51 ⟨Nat.le_of_ble_eq_true rfl, Nat.le_of_ble_eq_true rfl⟩ (fun _ _ _ _ _ _ hx => False.elim hx) (fun r9 w1 H locs h9 w => ?_)
      obtain ⟨rfl, h9⟩ := h9
      have w := w.jn (L1 := [wSh G.2.1 (ad 2) F2]) (L' := [wXo G.2.1 (ad 0) (xF ad) (svV sv) K, wSh G.2.1 (ad 1) S, wSh G.2.1 (ad 2) F2, wTe G.2.1 (ad 4) C, wSb G.2.1 (ad 5) ou, wAd G.2.1 (ad 6) D, wAb G.2.1 (ad 7) B, wHo G.2.1 (ad 3) cu ct hs, hsL G.2.1 hs, blk G.2.1 sv]) h9 10 [1, 2, 0, 3, 4, 5, 6, 7, 8, 9] rfl rfl rfl
      exact eiX F w hr hlocks rfl ⟨K, S, F2, C, D, B, cu, ct, hs, sv, ou, M', rfl, e2, e3, h.ask e4⟩ (Nat.le_of_ble_eq_true rfl) (Nat.le_of_ble_eq_true rfl) dX6_dampAfter_54
set_option maxRecDepth 100000 in
set_option maxHeartbeats 4000000 in
theorem k_execute {G : cG} (g : GOK G) (gM : MG G) {ks kv : Nat → Nat} (hSG : SG G ks kv) {ad : Nat → Nat → Nat} {N : Nat} {K S Fc C D B : Mem} {cu ct : Nat} {hs : hS} {sv : sV} {ou : oB} {M : Mem} (h : Top N K S C cu ct hs sv ou M) (hN : N < 2 ^ 29) : KT G ad N yX6_execute cX6_execute 3 .int [.ref ((ad 0) 0)] (fl (wTop G.2.1 ad K S Fc C D B cu ct hs sv ou)) [(eIAE, 1), (eUOE, 2)] (f_X7_execute M) := by
  refine CX.of g (by decide) rfl (Nat.le_of_ble_eq_true rfl) ?_
  intro p l e s m below meth c A ls hst htab F hr hlocks w hl
  generalize ([.ref ((ad 0) 0)] : List Value).toArray = args
  have hl : lv_has ls 3 [(0, .ref ((ad 0) 0))] := hl
  have w : Wd G A s.heap (fl [wXo G.2.1 (ad 0) (xF ad) (svV sv) K, wSh G.2.1 (ad 1) S, wSh G.2.1 (ad 2) Fc, wTe G.2.1 (ad 4) C, wSb G.2.1 (ad 5) ou, wAd G.2.1 (ad 6) D, wAb G.2.1 (ad 7) B, wHo G.2.1 (ad 3) cu ct hs, hsL G.2.1 hs, blk G.2.1 sv]) _ _ := w
  by_cases hm : ∃ Pe C', Pe ≤ 60 ∧ f_X1_countCommands C = some (-1, C') ∧ C'.1 1 = nI Pe ∧ ∃ M', f_X7_execute M = some (0, M') ∧ M'.1 0 = nI 1 ∧ Top (N + 64) (wrI K 0 (nI Pe)) S (wrI C' 0 0) cu ct hs sv ou M'
  · obtain ⟨Pe, C', hPe, hq, hc1, M', e2, e3, e4⟩ := hm
    refine lv_aload_n F.x F.b dX6_execute_0 rfl (lv_at hl 0 rfl) ?_
    refine rg F w cl6 0 rfl 3 (by decide) q304 rfl (v := .ref ((ad 4) 0)) rfl dX6_execute_1 ?_
    refine kXi F w hst (LC := [wTe G.2.1 (ad 4) C]) (LR := [wXo G.2.1 (ad 0) (xF ad) (svV sv) K, wSh G.2.1 (ad 1) S, wSh G.2.1 (ad 2) Fc, wSb G.2.1 (ad 5) ou, wAd G.2.1 (ad 6) D, wAb G.2.1 (ad 7) B, wHo G.2.1 (ad 3) cu ct hs, hsL G.2.1 hs, blk G.2.1 sv]) (As := []) (rest := []) (t_X1_countCommands F.1 hSG hq).toX m_X1_countCommands v_X1_countCommands q1402 (ci := 5) (q0 := 29) rfl rfl rfl 10 [3, 0, 1, 2, 4, 5, 6, 7, 8, 9] rfl rfl rfl ⟨Nat.le_of_ble_eq_true rfl, Nat.le_of_ble_eq_true rfl⟩ rfl hl.1 rfl (Nat.le_of_ble_eq_true rfl) dX6_execute_4 ⟨Nat.le_of_ble_eq_true rfl, Nat.le_of_ble_eq_true rfl⟩ (fun _ _ _ _ _ _ hx => False.elim hx) (fun r9 w1 H locs h9 w => ?_)
    obtain ⟨rfl, h9⟩ := h9
    have w := w.jn (L1 := [wTe G.2.1 (ad 4) C']) (L' := [wXo G.2.1 (ad 0) (xF ad) (svV sv) K, wSh G.2.1 (ad 1) S, wSh G.2.1 (ad 2) Fc, wTe G.2.1 (ad 4) C', wSb G.2.1 (ad 5) ou, wAd G.2.1 (ad 6) D, wAb G.2.1 (ad 7) B, wHo G.2.1 (ad 3) cu ct hs, hsL G.2.1 hs, blk G.2.1 sv]) h9 10 [1, 2, 3, 0, 4, 5, 6, 7, 8, 9] rfl rfl rfl
    refine lv_istore_n (lv' := [(1, .int (-1)), (0, .ref ((ad 0) 0))]) F.x F.b dX6_execute_7 rfl hl (by decide) rfl (fun ls hl => ?_)
    refine lv_iload_n F.x F.b dX6_execute_8 rfl (lv_at hl 0 rfl) ?_
    refine lv_if_ge (tgt := 41) F.x F.b dX6_execute_9 (by decide) (fun c9 => absurd c9 (by decide)) (fun _ => ?_)
    refine lv_aload_n F.x F.b dX6_execute_12 rfl (lv_at hl 1 rfl) ?_
    refine lv_aload_n F.x F.b dX6_execute_13 rfl (lv_at hl 1 rfl) ?_
    refine rg F w cl6 0 rfl 3 (by decide) q304 rfl (v := .ref ((ad 4) 0)) rfl dX6_execute_14 ?_
    refine rgN F w cl1 29 rfl 3 (by decide) q247 rfl (v := .int (C'.1 1)) rfl dX6_execute_17 ?_
    refine rp F w (ws' := fl [wXo G.2.1 (ad 0) (xF ad) (svV sv) (wrI K 0 (C'.1 1)), wSh G.2.1 (ad 1) S, wSh G.2.1 (ad 2) Fc, wTe G.2.1 (ad 4) C', wSb G.2.1 (ad 5) ou, wAd G.2.1 (ad 6) D, wAb G.2.1 (ad 7) B, wHo G.2.1 (ad 3) cu ct hs, hsL G.2.1 hs, blk G.2.1 sv]) cl6 0 rfl 8 (by decide) q309 rfl rfl rfl rfl (Nat.le_of_ble_eq_true rfl) rfl dX6_execute_20 (fun H locs w => ?_)
    refine lv_aload_n F.x F.b dX6_execute_23 rfl (lv_at hl 1 rfl) ?_
    refine rg F w cl6 0 rfl 3 (by decide) q304 rfl (v := .ref ((ad 4) 0)) rfl dX6_execute_24 ?_
    refine kXv F w hst (LC := [wTe G.2.1 (ad 4) C']) (LR := [wXo G.2.1 (ad 0) (xF ad) (svV sv) (wrI K 0 (C'.1 1)), wSh G.2.1 (ad 1) S, wSh G.2.1 (ad 2) Fc, wSb G.2.1 (ad 5) ou, wAd G.2.1 (ad 6) D, wAb G.2.1 (ad 7) B, wHo G.2.1 (ad 3) cu ct hs, hsL G.2.1 hs, blk G.2.1 sv]) (As := []) (rest := []) (t_X1_clear F.1 (C' := wrI C' 0 0) rfl).toX m_X1_clear v_X1_clear q1465 (ci := 5) (q0 := 29) rfl rfl rfl 10 [3, 0, 1, 2, 4, 5, 6, 7, 8, 9] rfl rfl rfl ⟨Nat.le_of_ble_eq_true rfl, Nat.le_of_ble_eq_true rfl⟩ rfl hl.1 rfl (Nat.le_of_ble_eq_true rfl) dX6_execute_27 ⟨Nat.le_of_ble_eq_true rfl, Nat.le_of_ble_eq_true rfl⟩ (fun _ _ _ _ _ _ hx => False.elim hx) (fun w1 H locs h9 w => ?_)
    have w := w.jn (L1 := [wTe G.2.1 (ad 4) (wrI C' 0 0)]) (L' := [wXo G.2.1 (ad 0) (xF ad) (svV sv) (wrI K 0 (C'.1 1)), wSh G.2.1 (ad 1) S, wSh G.2.1 (ad 2) Fc, wTe G.2.1 (ad 4) (wrI C' 0 0), wSb G.2.1 (ad 5) ou, wAd G.2.1 (ad 6) D, wAb G.2.1 (ad 7) B, wHo G.2.1 (ad 3) cu ct hs, hsL G.2.1 hs, blk G.2.1 sv]) h9 10 [1, 2, 3, 0, 4, 5, 6, 7, 8, 9] rfl rfl rfl
    have w : Wd G A s.heap (fl [wXo G.2.1 (ad 0) (xF ad) (svV sv) (wrI K 0 (C'.1 1)), wSh G.2.1 (ad 1) S, wSh G.2.1 (ad 2) Fc, wTe G.2.1 (ad 4) (wrI C' 0 0), wSb G.2.1 (ad 5) ou, wAd G.2.1 (ad 6) D, wAb G.2.1 (ad 7) B, wHo G.2.1 (ad 3) cu ct hs, hsL G.2.1 hs, blk G.2.1 sv]) _ _ := w
    exact wTSW F w gM hst htab hlocks hS_IAE (is := 305) (by decide +kernel : (305, "the text is malformed") ∈ msgs) (⟨wrI K 0 (C'.1 1), S, Fc, wrI C' 0 0, D, B, cu, ct, hs, sv, ou, M', 0, 1, rfl, e2, e3, List.mem_cons_self, by rw [hc1]; exact e4⟩) hl.1 dX6_execute_30 dX6_execute_33 dX6_execute_34 dX6_execute_37 dX6_execute_40 ⟨Nat.le_of_ble_eq_true rfl, Nat.le_of_ble_eq_true rfl, Nat.le_of_ble_eq_true rfl, Nat.le_of_ble_eq_true rfl⟩ ⟨Nat.le_of_ble_eq_true rfl, Nat.le_of_ble_eq_true rfl⟩
  · have hm2 := fun (b : Nat → Nat) (P0 P : Mem) (hP : f_X4_copyFrom P0 S = some P) => (exec_top (b := b) h hN hP).resolve_left hm
    obtain ⟨P8, hP8, -⟩ := h.1.cp zM
    obtain ⟨mm, C1, hm0, hm1, hq, -⟩ := hm2 (fun _ => 0) zM P8 hP8
    refine lv_aload_n F.x F.b dX6_execute_0 rfl (lv_at hl 0 rfl) ?_
    refine rg F w cl6 0 rfl 3 (by decide) q304 rfl (v := .ref ((ad 4) 0)) rfl dX6_execute_1 ?_
    refine kXi F w hst (LC := [wTe G.2.1 (ad 4) C]) (LR := [wXo G.2.1 (ad 0) (xF ad) (svV sv) K, wSh G.2.1 (ad 1) S, wSh G.2.1 (ad 2) Fc, wSb G.2.1 (ad 5) ou, wAd G.2.1 (ad 6) D, wAb G.2.1 (ad 7) B, wHo G.2.1 (ad 3) cu ct hs, hsL G.2.1 hs, blk G.2.1 sv]) (As := []) (rest := []) (t_X1_countCommands F.1 hSG hq).toX m_X1_countCommands v_X1_countCommands q1402 (ci := 5) (q0 := 29) rfl rfl rfl 10 [3, 0, 1, 2, 4, 5, 6, 7, 8, 9] rfl rfl rfl ⟨Nat.le_of_ble_eq_true rfl, Nat.le_of_ble_eq_true rfl⟩ rfl hl.1 rfl (Nat.le_of_ble_eq_true rfl) dX6_execute_4 ⟨Nat.le_of_ble_eq_true rfl, Nat.le_of_ble_eq_true rfl⟩ (fun _ _ _ _ _ _ hx => False.elim hx) (fun r9 w1 H locs h9 w => ?_)
    obtain ⟨rfl, h9⟩ := h9
    have w := w.jn (L1 := [wTe G.2.1 (ad 4) C1]) (L' := [wXo G.2.1 (ad 0) (xF ad) (svV sv) K, wSh G.2.1 (ad 1) S, wSh G.2.1 (ad 2) Fc, wTe G.2.1 (ad 4) C1, wSb G.2.1 (ad 5) ou, wAd G.2.1 (ad 6) D, wAb G.2.1 (ad 7) B, wHo G.2.1 (ad 3) cu ct hs, hsL G.2.1 hs, blk G.2.1 sv]) h9 10 [1, 2, 3, 0, 4, 5, 6, 7, 8, 9] rfl rfl rfl
    have w : Wd G A s.heap (fl [wXo G.2.1 (ad 0) (xF ad) (svV sv) K, wSh G.2.1 (ad 1) S, wSh G.2.1 (ad 2) Fc, wTe G.2.1 (ad 4) C1, wSb G.2.1 (ad 5) ou, wAd G.2.1 (ad 6) D, wAb G.2.1 (ad 7) B, wHo G.2.1 (ad 3) cu ct hs, hsL G.2.1 hs, blk G.2.1 sv]) _ _ := w
    refine lv_istore_n (lv' := [(1, .int (nI mm)), (0, .ref ((ad 0) 0))]) F.x F.b dX6_execute_7 rfl hl (by decide) rfl (fun ls hl => ?_)
    refine lv_iload_n F.x F.b dX6_execute_8 rfl (lv_at hl 0 rfl) ?_
    refine lv_if_ge (tgt := 41) F.x F.b dX6_execute_9 (by decide) (fun _ => ?_) (fun c9 => absurd (nI_pos' (n := mm) (by omega)) c9)
    refine lv_aload_n F.x F.b dX6_execute_41 rfl (lv_at hl 1 rfl) ?_
    refine rg F w cl6 0 rfl 2 (by decide) q303 rfl (v := .ref ((ad 3) 0)) rfl dX6_execute_42 ?_
    refine lv_aload_n F.x F.b dX6_execute_45 rfl (lv_at hl 1 rfl) ?_
    refine rg F w cl6 0 rfl 0 (by decide) q301 rfl (v := .ref ((ad 1) 0)) rfl dX6_execute_46 ?_
    refine kXv F w hst (LC := [wHo G.2.1 (ad 3) cu ct hs, hsL G.2.1 hs, wSh G.2.1 (ad 1) S]) (LR := [wXo G.2.1 (ad 0) (xF ad) (svV sv) K, wSh G.2.1 (ad 2) Fc, wTe G.2.1 (ad 4) C1, wSb G.2.1 (ad 5) ou, wAd G.2.1 (ad 6) D, wAb G.2.1 (ad 7) B, blk G.2.1 sv]) (As := [.ref ((ad 1) 0)]) (rest := []) (t_X2_prepare F.1 h.2.1.1 (fun P0 => (h.1.cp P0).imp (fun _ z => z.1))) m_X2_prepare v_X2_prepare q876 (ci := 6) (q0 := 36) rfl rfl rfl 10 [7, 8, 1, 0, 2, 3, 4, 5, 6, 9] rfl rfl rfl ⟨Nat.le_of_ble_eq_true rfl, Nat.le_of_ble_eq_true rfl⟩ rfl hl.1 rfl (Nat.le_of_ble_eq_true rfl) dX6_execute_49 ⟨Nat.le_of_ble_eq_true rfl, Nat.le_of_ble_eq_true rfl⟩ (fun _ _ _ _ _ _ hx => False.elim hx) (fun w1 H locs h9 w => ?_)
    obtain ⟨b, P, ⟨P0, hP⟩, h9⟩ := h9
    have w := w.jn (L1 := [wHo G.2.1 (ad 3) cu ct (hput hs cu (b, P)), hsL G.2.1 (hput hs cu (b, P)), wSh G.2.1 (ad 1) S]) (L' := [wXo G.2.1 (ad 0) (xF ad) (svV sv) K, wSh G.2.1 (ad 1) S, wSh G.2.1 (ad 2) Fc, wTe G.2.1 (ad 4) C1, wSb G.2.1 (ad 5) ou, wAd G.2.1 (ad 6) D, wAb G.2.1 (ad 7) B, wHo G.2.1 (ad 3) cu ct (hput hs cu (b, P)), hsL G.2.1 (hput hs cu (b, P)), blk G.2.1 sv]) h9 10 [3, 2, 4, 5, 6, 7, 8, 0, 1, 9] rfl rfl rfl
    have w : Wd G A s.heap (fl [wXo G.2.1 (ad 0) (xF ad) (svV sv) K, wSh G.2.1 (ad 1) S, wSh G.2.1 (ad 2) Fc, wTe G.2.1 (ad 4) C1, wSb G.2.1 (ad 5) ou, wAd G.2.1 (ad 6) D, wAb G.2.1 (ad 7) B, wHo G.2.1 (ad 3) cu ct (hput hs cu (b, P)), hsL G.2.1 (hput hs cu (b, P)), blk G.2.1 sv]) _ _ := w
    refine lv_aload_n F.x F.b dX6_execute_52 rfl (lv_at hl 1 rfl) ?_
    refine lv_iload_n F.x F.b dX6_execute_53 rfl (lv_at hl 0 rfl) ?_
    obtain ⟨mm', C1', -, hm1', hq', hh⟩ := hm2 b P0 P hP
    obtain ⟨e5, rfl⟩ := (Prod.mk.injEq _ _ _ _).mp (Option.some.inj (hq.symm.trans hq'))
    obtain rfl : mm = mm' := (nI_eq (by omega) (by omega)).mp e5
    rcases hh with ⟨ii, S', C', S'', hi, hp, hcp, M', e2, e3, e4⟩ | ⟨S', C', M', hp, e2, e3, e4⟩
    · refine kXi F w hst (LC := [wXo G.2.1 (ad 0) (xF ad) (svV sv) K, wSh G.2.1 (ad 1) S, wTe G.2.1 (ad 4) C1]) (LR := [wSh G.2.1 (ad 2) Fc, wSb G.2.1 (ad 5) ou, wAd G.2.1 (ad 6) D, wAb G.2.1 (ad 7) B, wHo G.2.1 (ad 3) cu ct (hput hs cu (b, P)), hsL G.2.1 (hput hs cu (b, P)), blk G.2.1 sv]) (As := [.int (nI mm)]) (rest := []) ((t_X6_performFirst F.1 hSG (x := ad 0) (a := ad 1) (ta := ad 4) (rf := xF ad) (sv := svV sv) rfl rfl hp).toX : CX G yX6_performFirst cX6_performFirst 3 .int 6 132 0 0 [.ref ((ad 0) 0), .int (nI mm)] (fl [wXo G.2.1 (ad 0) (xF ad) (svV sv) K, wSh G.2.1 (ad 1) S, wTe G.2.1 (ad 4) C1]) _ _) m_X6_performFirst v_X6_performFirst q1470 (ci := 10) (q0 := 0) rfl rfl rfl 10 [0, 1, 3, 2, 4, 5, 6, 7, 8, 9] rfl rfl rfl ⟨Nat.le_of_ble_eq_true rfl, Nat.le_of_ble_eq_true rfl⟩ rfl hl.1 rfl (Nat.le_of_ble_eq_true rfl) dX6_execute_54 ⟨Nat.le_of_ble_eq_true rfl, Nat.le_of_ble_eq_true rfl⟩ (fun _ _ _ _ _ _ hx => False.elim hx) (fun r9 w1 H locs h9 w => ?_)
      obtain ⟨rfl, h9⟩ := h9
      have w := w.jn (L1 := [wXo G.2.1 (ad 0) (xF ad) (svV sv) K, wSh G.2.1 (ad 1) S', wTe G.2.1 (ad 4) C']) (L' := [wXo G.2.1 (ad 0) (xF ad) (svV sv) K, wSh G.2.1 (ad 1) S', wSh G.2.1 (ad 2) Fc, wTe G.2.1 (ad 4) C', wSb G.2.1 (ad 5) ou, wAd G.2.1 (ad 6) D, wAb G.2.1 (ad 7) B, wHo G.2.1 (ad 3) cu ct (hput hs cu (b, P)), hsL G.2.1 (hput hs cu (b, P)), blk G.2.1 sv]) h9 10 [0, 1, 3, 2, 4, 5, 6, 7, 8, 9] rfl rfl rfl
      have w : Wd G A s.heap (fl [wXo G.2.1 (ad 0) (xF ad) (svV sv) K, wSh G.2.1 (ad 1) S', wSh G.2.1 (ad 2) Fc, wTe G.2.1 (ad 4) C', wSb G.2.1 (ad 5) ou, wAd G.2.1 (ad 6) D, wAb G.2.1 (ad 7) B, wHo G.2.1 (ad 3) cu ct (hput hs cu (b, P)), hsL G.2.1 (hput hs cu (b, P)), blk G.2.1 sv]) _ _ := w
      refine lv_istore_n (lv' := [(2, .int (nI ii)), (1, .int (nI mm)), (0, .ref ((ad 0) 0))]) F.x F.b dX6_execute_57 rfl hl (by decide) rfl (fun ls hl => ?_)
      refine lv_aload_n F.x F.b dX6_execute_58 rfl (lv_at hl 2 rfl) ?_
      refine rg F w cl6 0 rfl 3 (by decide) q304 rfl (v := .ref ((ad 4) 0)) rfl dX6_execute_59 ?_
      refine kXv F w hst (LC := [wTe G.2.1 (ad 4) C']) (LR := [wXo G.2.1 (ad 0) (xF ad) (svV sv) K, wSh G.2.1 (ad 1) S', wSh G.2.1 (ad 2) Fc, wSb G.2.1 (ad 5) ou, wAd G.2.1 (ad 6) D, wAb G.2.1 (ad 7) B, wHo G.2.1 (ad 3) cu ct (hput hs cu (b, P)), hsL G.2.1 (hput hs cu (b, P)), blk G.2.1 sv]) (As := []) (rest := []) (t_X1_clear F.1 (C' := wrI C' 0 0) rfl).toX m_X1_clear v_X1_clear q1465 (ci := 5) (q0 := 29) rfl rfl rfl 10 [3, 0, 1, 2, 4, 5, 6, 7, 8, 9] rfl rfl rfl ⟨Nat.le_of_ble_eq_true rfl, Nat.le_of_ble_eq_true rfl⟩ rfl hl.1 rfl (Nat.le_of_ble_eq_true rfl) dX6_execute_62 ⟨Nat.le_of_ble_eq_true rfl, Nat.le_of_ble_eq_true rfl⟩ (fun _ _ _ _ _ _ hx => False.elim hx) (fun w1 H locs h9 w => ?_)
      have w := w.jn (L1 := [wTe G.2.1 (ad 4) (wrI C' 0 0)]) (L' := [wXo G.2.1 (ad 0) (xF ad) (svV sv) K, wSh G.2.1 (ad 1) S', wSh G.2.1 (ad 2) Fc, wTe G.2.1 (ad 4) (wrI C' 0 0), wSb G.2.1 (ad 5) ou, wAd G.2.1 (ad 6) D, wAb G.2.1 (ad 7) B, wHo G.2.1 (ad 3) cu ct (hput hs cu (b, P)), hsL G.2.1 (hput hs cu (b, P)), blk G.2.1 sv]) h9 10 [1, 2, 3, 0, 4, 5, 6, 7, 8, 9] rfl rfl rfl
      have w : Wd G A s.heap (fl [wXo G.2.1 (ad 0) (xF ad) (svV sv) K, wSh G.2.1 (ad 1) S', wSh G.2.1 (ad 2) Fc, wTe G.2.1 (ad 4) (wrI C' 0 0), wSb G.2.1 (ad 5) ou, wAd G.2.1 (ad 6) D, wAb G.2.1 (ad 7) B, wHo G.2.1 (ad 3) cu ct (hput hs cu (b, P)), hsL G.2.1 (hput hs cu (b, P)), blk G.2.1 sv]) _ _ := w
      refine lv_iload_n F.x F.b dX6_execute_65 rfl (lv_at hl 0 rfl) ?_
      refine lv_iload_n F.x F.b dX6_execute_66 rfl (lv_at hl 1 rfl) ?_
      refine lv_icmp_ge (tgt := 97) F.x F.b dX6_execute_67 (by decide) (fun c9 => absurd c9 (nI_ge (a := ii) (b := mm) hi (by omega))) (fun _ => ?_)
      refine lv_aload_n F.x F.b dX6_execute_70 rfl (lv_at hl 2 rfl) ?_
      refine lv_iload_n F.x F.b dX6_execute_71 rfl (lv_at hl 0 rfl) ?_
      refine rp F w (ws' := fl [wXo G.2.1 (ad 0) (xF ad) (svV sv) (wrI K 1 (nI ii)), wSh G.2.1 (ad 1) S', wSh G.2.1 (ad 2) Fc, wTe G.2.1 (ad 4) (wrI C' 0 0), wSb G.2.1 (ad 5) ou, wAd G.2.1 (ad 6) D, wAb G.2.1 (ad 7) B, wHo G.2.1 (ad 3) cu ct (hput hs cu (b, P)), hsL G.2.1 (hput hs cu (b, P)), blk G.2.1 sv]) cl6 0 rfl 9 (by decide) q310 rfl rfl rfl rfl (Nat.le_of_ble_eq_true rfl) rfl dX6_execute_72 (fun H locs w => ?_)
      refine lv_aload_n F.x F.b dX6_execute_75 rfl (lv_at hl 2 rfl) ?_
      refine rg F w cl6 0 rfl 2 (by decide) q303 rfl (v := .ref ((ad 3) 0)) rfl dX6_execute_76 ?_
      refine lv_aload_n F.x F.b dX6_execute_79 rfl (lv_at hl 2 rfl) ?_
      refine rg F w cl6 0 rfl 0 (by decide) q301 rfl (v := .ref ((ad 1) 0)) rfl dX6_execute_80 ?_
      refine kXv F w hst (LC := [wHo G.2.1 (ad 3) cu ct (hput hs cu (b, P)), hsL G.2.1 (hput hs cu (b, P)), wSh G.2.1 (ad 1) S']) (LR := [wXo G.2.1 (ad 0) (xF ad) (svV sv) (wrI K 1 (nI ii)), wSh G.2.1 (ad 2) Fc, wTe G.2.1 (ad 4) (wrI C' 0 0), wSb G.2.1 (ad 5) ou, wAd G.2.1 (ad 6) D, wAb G.2.1 (ad 7) B, blk G.2.1 sv]) (As := [.ref ((ad 1) 0)]) (rest := []) (t_X2_takeBack F.1 h.2.1.1 (by rw [hput, if_pos rfl]) hcp) m_X2_takeBack v_X2_takeBack q1491 (ci := 6) (q0 := 36) rfl rfl rfl 10 [7, 8, 1, 0, 2, 3, 4, 5, 6, 9] rfl rfl rfl ⟨Nat.le_of_ble_eq_true rfl, Nat.le_of_ble_eq_true rfl⟩ rfl hl.1 rfl (Nat.le_of_ble_eq_true rfl) dX6_execute_83 ⟨Nat.le_of_ble_eq_true rfl, Nat.le_of_ble_eq_true rfl⟩ (fun _ _ _ _ _ _ hx => False.elim hx) (fun w1 H locs h9 w => ?_)
      have w := w.jn (L1 := [wHo G.2.1 (ad 3) cu ct (hput hs cu (b, P)), hsL G.2.1 (hput hs cu (b, P)), wSh G.2.1 (ad 1) S'']) (L' := [wXo G.2.1 (ad 0) (xF ad) (svV sv) (wrI K 1 (nI ii)), wSh G.2.1 (ad 1) S'', wSh G.2.1 (ad 2) Fc, wTe G.2.1 (ad 4) (wrI C' 0 0), wSb G.2.1 (ad 5) ou, wAd G.2.1 (ad 6) D, wAb G.2.1 (ad 7) B, wHo G.2.1 (ad 3) cu ct (hput hs cu (b, P)), hsL G.2.1 (hput hs cu (b, P)), blk G.2.1 sv]) h9 10 [3, 2, 4, 5, 6, 7, 8, 0, 1, 9] rfl rfl rfl
      have w : Wd G A s.heap (fl [wXo G.2.1 (ad 0) (xF ad) (svV sv) (wrI K 1 (nI ii)), wSh G.2.1 (ad 1) S'', wSh G.2.1 (ad 2) Fc, wTe G.2.1 (ad 4) (wrI C' 0 0), wSb G.2.1 (ad 5) ou, wAd G.2.1 (ad 6) D, wAb G.2.1 (ad 7) B, wHo G.2.1 (ad 3) cu ct (hput hs cu (b, P)), hsL G.2.1 (hput hs cu (b, P)), blk G.2.1 sv]) _ _ := w
      exact wTSW F w gM hst htab hlocks hS_UOE (is := 315) (by decide +kernel : (315, "a command failed") ∈ msgs) (⟨wrI K 1 (nI ii), S'', Fc, wrI C' 0 0, D, B, cu, ct, hput hs cu (b, P), sv, ou, M', 0, 2, rfl, e2, e3, (List.mem_cons_of_mem _ List.mem_cons_self), e4⟩) hl.1 dX6_execute_86 dX6_execute_89 dX6_execute_90 dX6_execute_93 dX6_execute_96 ⟨Nat.le_of_ble_eq_true rfl, Nat.le_of_ble_eq_true rfl, Nat.le_of_ble_eq_true rfl, Nat.le_of_ble_eq_true rfl⟩ ⟨Nat.le_of_ble_eq_true rfl, Nat.le_of_ble_eq_true rfl⟩
    · refine kXi F w hst (LC := [wXo G.2.1 (ad 0) (xF ad) (svV sv) K, wSh G.2.1 (ad 1) S, wTe G.2.1 (ad 4) C1]) (LR := [wSh G.2.1 (ad 2) Fc, wSb G.2.1 (ad 5) ou, wAd G.2.1 (ad 6) D, wAb G.2.1 (ad 7) B, wHo G.2.1 (ad 3) cu ct (hput hs cu (b, P)), hsL G.2.1 (hput hs cu (b, P)), blk G.2.1 sv]) (As := [.int (nI mm)]) (rest := []) ((t_X6_performFirst F.1 hSG (x := ad 0) (a := ad 1) (ta := ad 4) (rf := xF ad) (sv := svV sv) rfl rfl hp).toX : CX G yX6_performFirst cX6_performFirst 3 .int 6 132 0 0 [.ref ((ad 0) 0), .int (nI mm)] (fl [wXo G.2.1 (ad 0) (xF ad) (svV sv) K, wSh G.2.1 (ad 1) S, wTe G.2.1 (ad 4) C1]) _ _) m_X6_performFirst v_X6_performFirst q1470 (ci := 10) (q0 := 0) rfl rfl rfl 10 [0, 1, 3, 2, 4, 5, 6, 7, 8, 9] rfl rfl rfl ⟨Nat.le_of_ble_eq_true rfl, Nat.le_of_ble_eq_true rfl⟩ rfl hl.1 rfl (Nat.le_of_ble_eq_true rfl) dX6_execute_54 ⟨Nat.le_of_ble_eq_true rfl, Nat.le_of_ble_eq_true rfl⟩ (fun _ _ _ _ _ _ hx => False.elim hx) (fun r9 w1 H locs h9 w => ?_)
      obtain ⟨rfl, h9⟩ := h9
      have w := w.jn (L1 := [wXo G.2.1 (ad 0) (xF ad) (svV sv) K, wSh G.2.1 (ad 1) S', wTe G.2.1 (ad 4) C']) (L' := [wXo G.2.1 (ad 0) (xF ad) (svV sv) K, wSh G.2.1 (ad 1) S', wSh G.2.1 (ad 2) Fc, wTe G.2.1 (ad 4) C', wSb G.2.1 (ad 5) ou, wAd G.2.1 (ad 6) D, wAb G.2.1 (ad 7) B, wHo G.2.1 (ad 3) cu ct (hput hs cu (b, P)), hsL G.2.1 (hput hs cu (b, P)), blk G.2.1 sv]) h9 10 [0, 1, 3, 2, 4, 5, 6, 7, 8, 9] rfl rfl rfl
      have w : Wd G A s.heap (fl [wXo G.2.1 (ad 0) (xF ad) (svV sv) K, wSh G.2.1 (ad 1) S', wSh G.2.1 (ad 2) Fc, wTe G.2.1 (ad 4) C', wSb G.2.1 (ad 5) ou, wAd G.2.1 (ad 6) D, wAb G.2.1 (ad 7) B, wHo G.2.1 (ad 3) cu ct (hput hs cu (b, P)), hsL G.2.1 (hput hs cu (b, P)), blk G.2.1 sv]) _ _ := w
      refine lv_istore_n (lv' := [(2, .int (nI mm)), (1, .int (nI mm)), (0, .ref ((ad 0) 0))]) F.x F.b dX6_execute_57 rfl hl (by decide) rfl (fun ls hl => ?_)
      refine lv_aload_n F.x F.b dX6_execute_58 rfl (lv_at hl 2 rfl) ?_
      refine rg F w cl6 0 rfl 3 (by decide) q304 rfl (v := .ref ((ad 4) 0)) rfl dX6_execute_59 ?_
      refine kXv F w hst (LC := [wTe G.2.1 (ad 4) C']) (LR := [wXo G.2.1 (ad 0) (xF ad) (svV sv) K, wSh G.2.1 (ad 1) S', wSh G.2.1 (ad 2) Fc, wSb G.2.1 (ad 5) ou, wAd G.2.1 (ad 6) D, wAb G.2.1 (ad 7) B, wHo G.2.1 (ad 3) cu ct (hput hs cu (b, P)), hsL G.2.1 (hput hs cu (b, P)), blk G.2.1 sv]) (As := []) (rest := []) (t_X1_clear F.1 (C' := wrI C' 0 0) rfl).toX m_X1_clear v_X1_clear q1465 (ci := 5) (q0 := 29) rfl rfl rfl 10 [3, 0, 1, 2, 4, 5, 6, 7, 8, 9] rfl rfl rfl ⟨Nat.le_of_ble_eq_true rfl, Nat.le_of_ble_eq_true rfl⟩ rfl hl.1 rfl (Nat.le_of_ble_eq_true rfl) dX6_execute_62 ⟨Nat.le_of_ble_eq_true rfl, Nat.le_of_ble_eq_true rfl⟩ (fun _ _ _ _ _ _ hx => False.elim hx) (fun w1 H locs h9 w => ?_)
      have w := w.jn (L1 := [wTe G.2.1 (ad 4) (wrI C' 0 0)]) (L' := [wXo G.2.1 (ad 0) (xF ad) (svV sv) K, wSh G.2.1 (ad 1) S', wSh G.2.1 (ad 2) Fc, wTe G.2.1 (ad 4) (wrI C' 0 0), wSb G.2.1 (ad 5) ou, wAd G.2.1 (ad 6) D, wAb G.2.1 (ad 7) B, wHo G.2.1 (ad 3) cu ct (hput hs cu (b, P)), hsL G.2.1 (hput hs cu (b, P)), blk G.2.1 sv]) h9 10 [1, 2, 3, 0, 4, 5, 6, 7, 8, 9] rfl rfl rfl
      have w : Wd G A s.heap (fl [wXo G.2.1 (ad 0) (xF ad) (svV sv) K, wSh G.2.1 (ad 1) S', wSh G.2.1 (ad 2) Fc, wTe G.2.1 (ad 4) (wrI C' 0 0), wSb G.2.1 (ad 5) ou, wAd G.2.1 (ad 6) D, wAb G.2.1 (ad 7) B, wHo G.2.1 (ad 3) cu ct (hput hs cu (b, P)), hsL G.2.1 (hput hs cu (b, P)), blk G.2.1 sv]) _ _ := w
      refine lv_iload_n F.x F.b dX6_execute_65 rfl (lv_at hl 0 rfl) ?_
      refine lv_iload_n F.x F.b dX6_execute_66 rfl (lv_at hl 1 rfl) ?_
      refine lv_icmp_ge (tgt := 97) F.x F.b dX6_execute_67 (by decide) (fun _ => ?_) (fun c9 => absurd (Int32.le_refl (nI mm)) c9)
      refine lv_aload_n F.x F.b dX6_execute_97 rfl (lv_at hl 2 rfl) ?_
      refine rg F w cl6 0 rfl 2 (by decide) q303 rfl (v := .ref ((ad 3) 0)) rfl dX6_execute_98 ?_
      refine kXv F w hst (LC := [wHo G.2.1 (ad 3) cu ct (hput hs cu (b, P))]) (LR := [wXo G.2.1 (ad 0) (xF ad) (svV sv) K, wSh G.2.1 (ad 1) S', wSh G.2.1 (ad 2) Fc, wTe G.2.1 (ad 4) (wrI C' 0 0), wSb G.2.1 (ad 5) ou, wAd G.2.1 (ad 6) D, wAb G.2.1 (ad 7) B, hsL G.2.1 (hput hs cu (b, P)), blk G.2.1 sv]) (As := []) (rest := []) (t_X2_keepPrepared F.1 h.2.1.1 h.2.1.2.1) m_X2_keepPrepared v_X2_keepPrepared q972 (ci := 6) (q0 := 36) rfl rfl rfl 10 [7, 0, 1, 2, 3, 4, 5, 6, 8, 9] rfl rfl rfl ⟨Nat.le_of_ble_eq_true rfl, Nat.le_of_ble_eq_true rfl⟩ rfl hl.1 rfl (Nat.le_of_ble_eq_true rfl) dX6_execute_101 ⟨Nat.le_of_ble_eq_true rfl, Nat.le_of_ble_eq_true rfl⟩ (fun _ _ _ _ _ _ hx => False.elim hx) (fun w1 H locs h9 w => ?_)
      have w := w.jn (L1 := [wHo G.2.1 (ad 3) (nxt cu) (cap ct) (hput hs cu (b, P))]) (L' := [wXo G.2.1 (ad 0) (xF ad) (svV sv) K, wSh G.2.1 (ad 1) S', wSh G.2.1 (ad 2) Fc, wTe G.2.1 (ad 4) (wrI C' 0 0), wSb G.2.1 (ad 5) ou, wAd G.2.1 (ad 6) D, wAb G.2.1 (ad 7) B, wHo G.2.1 (ad 3) (nxt cu) (cap ct) (hput hs cu (b, P)), hsL G.2.1 (hput hs cu (b, P)), blk G.2.1 sv]) h9 10 [1, 2, 3, 4, 5, 6, 7, 0, 8, 9] rfl rfl rfl
      have w : Wd G A s.heap (fl [wXo G.2.1 (ad 0) (xF ad) (svV sv) K, wSh G.2.1 (ad 1) S', wSh G.2.1 (ad 2) Fc, wTe G.2.1 (ad 4) (wrI C' 0 0), wSb G.2.1 (ad 5) ou, wAd G.2.1 (ad 6) D, wAb G.2.1 (ad 7) B, wHo G.2.1 (ad 3) (nxt cu) (cap ct) (hput hs cu (b, P)), hsL G.2.1 (hput hs cu (b, P)), blk G.2.1 sv]) _ _ := w
      refine lv_iload_n F.x F.b dX6_execute_104 rfl (lv_at hl 1 rfl) ?_
      exact eiX F w hr hlocks rfl ⟨K, S', Fc, wrI C' 0 0, D, B, nxt cu, cap ct, hput hs cu (b, P), sv, ou, M', rfl, e2, e3, e4⟩ (Nat.le_of_ble_eq_true rfl) (Nat.le_of_ble_eq_true rfl) dX6_execute_105

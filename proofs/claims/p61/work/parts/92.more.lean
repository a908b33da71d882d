/-! printed by wip/p61/tools/gen92.py: feed, undo, save, restore, execute, exact -/
theorem q53 : Cond.classLink RX6 7 RX4 ∈ lw_tbl := List.mem_of_getElem? (i := 53) (by decide +kernel)
theorem q55 : Cond.methodLinkNest RX6 9 yX4_init "CustomsShed" ∈ lw_tbl := List.mem_of_getElem? (i := 55) (by decide +kernel)
theorem q204 : Cond.fieldLinkNest RX6 295 "CustomsShed$CommandText" "length" "I" "CustomsShed" ∈ lw_tbl := List.mem_of_getElem? (i := 204) (by decide +kernel)
theorem q267 : Cond.fieldLink RX6 47 "CustomsShed" "saved" "LCustomsShed$Shed;" ∈ lw_tbl := List.mem_of_getElem? (i := 267) (by decide +kernel)
theorem q269 : Cond.fieldLink RX6 54 "CustomsShed" "keptFailedCommand" "I" ∈ lw_tbl := List.mem_of_getElem? (i := 269) (by decide +kernel)
theorem q1037 : Cond.methodLink RX6 288 yX1_append ∈ lw_tbl := List.mem_of_getElem? (i := 1037) (by decide +kernel)
theorem q1053 : Cond.methodLink RX6 296 yX1_countCommands ∈ lw_tbl := List.mem_of_getElem? (i := 1053) (by decide +kernel)
theorem q1102 : Cond.methodLink RX6 302 yX1_clear ∈ lw_tbl := List.mem_of_getElem? (i := 1102) (by decide +kernel)
theorem q1107 : Cond.methodLink RX6 307 yX6_performFirst ∈ lw_tbl := List.mem_of_getElem? (i := 1107) (by decide +kernel)
theorem q1142 : Cond.methodLink RX6 310 yX2_takeBack ∈ lw_tbl := List.mem_of_getElem? (i := 1142) (by decide +kernel)
theorem q1493 : Cond.methodLink RX6 328 yX2_undoLatest ∈ lw_tbl := List.mem_of_getElem? (i := 1493) (by decide +kernel)
theorem q1506 : Cond.methodLink RX6 333 yX2_forget ∈ lw_tbl := List.mem_of_getElem? (i := 1506) (by decide +kernel)
theorem m_X1_append : YM yX1_append cX1_append 2 (some (.boolean)) 1 := ⟨⟨List.mem_of_getElem? (i := 1040) (by decide +kernel), by decide +kernel⟩, List.mem_of_getElem? (i := 21) (by decide +kernel), ⟨by decide, by decide⟩, by decide +kernel⟩
theorem v_X1_append : YV yX1_append := ⟨(List.mem_of_getElem? (i := 1038) (by decide +kernel)), List.mem_of_getElem? (i := 1039) (by decide +kernel)⟩
theorem m_X2_undoLatest : YM yX2_undoLatest cX2_undoLatest 2 (none) 1 := ⟨⟨List.mem_of_getElem? (i := 1496) (by decide +kernel), by decide +kernel⟩, List.mem_of_getElem? (i := 20) (by decide +kernel), ⟨by decide, by decide⟩, by decide +kernel⟩
theorem v_X2_undoLatest : YV yX2_undoLatest := ⟨(List.mem_of_getElem? (i := 1494) (by decide +kernel)), List.mem_of_getElem? (i := 1495) (by decide +kernel)⟩
theorem m_X2_forget : YM yX2_forget cX2_forget 1 (none) 0 := ⟨⟨List.mem_of_getElem? (i := 1509) (by decide +kernel), by decide +kernel⟩, List.mem_of_getElem? (i := 20) (by decide +kernel), ⟨by decide, by decide⟩, by decide +kernel⟩
theorem v_X2_forget : YV yX2_forget := ⟨(List.mem_of_getElem? (i := 1507) (by decide +kernel)), List.mem_of_getElem? (i := 1508) (by decide +kernel)⟩
theorem m_X1_countCommands : YM yX1_countCommands cX1_countCommands 2 (some (.int)) 0 := ⟨⟨List.mem_of_getElem? (i := 1056) (by decide +kernel), by decide +kernel⟩, List.mem_of_getElem? (i := 21) (by decide +kernel), ⟨by decide, by decide⟩, by decide +kernel⟩
theorem v_X1_countCommands : YV yX1_countCommands := ⟨(List.mem_of_getElem? (i := 1054) (by decide +kernel)), List.mem_of_getElem? (i := 1055) (by decide +kernel)⟩
theorem m_X6_performFirst : YM yX6_performFirst cX6_performFirst 3 (some (.int)) 1 := ⟨⟨List.mem_of_getElem? (i := 1110) (by decide +kernel), by decide +kernel⟩, List.mem_of_getElem? (i := 15) (by decide +kernel), ⟨by decide, by decide⟩, by decide +kernel⟩
theorem v_X6_performFirst : YV yX6_performFirst := ⟨(List.mem_of_getElem? (i := 1109) (by decide +kernel)), List.mem_of_getElem? (i := 11) (by decide +kernel)⟩
theorem m_X1_clear : YM yX1_clear cX1_clear 1 (none) 0 := ⟨⟨List.mem_of_getElem? (i := 1105) (by decide +kernel), by decide +kernel⟩, List.mem_of_getElem? (i := 21) (by decide +kernel), ⟨by decide, by decide⟩, by decide +kernel⟩
theorem v_X1_clear : YV yX1_clear := ⟨(List.mem_of_getElem? (i := 1103) (by decide +kernel)), List.mem_of_getElem? (i := 1104) (by decide +kernel)⟩
set_option maxRecDepth 100000 in
set_option maxHeartbeats 4000000 in
theorem k_feed_ok {G : cG} (g : GOK G) {ad : Nat → Nat → Nat} {svx : Value} {K C C' : Mem} {cc nn : Nat} (hq : f_X1_append C (nI cc) = some (1, C')) (hq1 : C'.1 0 = nI nn) : CX G yX6_feed cX6_feed 2 .int 1 21 0 0 [.ref ((ad 0) 0), .int (nI cc)] (fl [wXo G.2.1 (ad 0) (xF ad) svx K, wTe G.2.1 (ad 4) C]) (fun r9 w1 => r9 = nI nn ∧ w1 = fl [wXo G.2.1 (ad 0) (xF ad) svx K, wTe G.2.1 (ad 4) C']) (fun _ _ => False) := by
  refine CX.of g (by decide) rfl (Nat.le_of_ble_eq_true rfl) ?_
  intro p l e s m below meth c A ls hst htab F hr hlocks w hl
  generalize ([.ref ((ad 0) 0), .int (nI cc)] : List Value).toArray = args
  have hl : lv_has ls 2 [(0, .ref ((ad 0) 0)), (1, .int (nI cc))] := hl
  have w : Wd G A s.heap (fl [wXo G.2.1 (ad 0) (xF ad) svx K, wTe G.2.1 (ad 4) C]) _ _ := w
  refine lv_aload_n F.x F.b dX6_feed_0 rfl (lv_at hl 0 rfl) ?_
  refine rg F w cl6 0 rfl 3 (by decide) q263 rfl (v := .ref ((ad 4) 0)) rfl dX6_feed_1 ?_
  refine lv_iload_n F.x F.b dX6_feed_4 rfl (lv_at hl 1 rfl) ?_
  refine kXi F w hst (LC := [wTe G.2.1 (ad 4) C]) (LR := [wXo G.2.1 (ad 0) (xF ad) svx K]) (As := [.int (nI cc)]) (rest := []) (t_X1_append F.1 hq).toX m_X1_append v_X1_append q1037 (ci := 5) (q0 := 1) rfl rfl rfl 2 [1, 0] rfl rfl rfl ⟨Nat.le_of_ble_eq_true rfl, Nat.le_of_ble_eq_true rfl⟩ rfl hl.1 rfl (Nat.le_of_ble_eq_true rfl) dX6_feed_5 ⟨Nat.le_of_ble_eq_true rfl, Nat.le_of_ble_eq_true rfl⟩ (fun _ _ _ _ _ _ hx => False.elim hx) (fun r9 w1 H locs h9 w => ?_)
  obtain ⟨rfl, h9⟩ := h9
  have w := w.jn (L1 := [wTe G.2.1 (ad 4) C']) (L' := [wXo G.2.1 (ad 0) (xF ad) svx K, wTe G.2.1 (ad 4) C']) h9 2 [1, 0] rfl rfl rfl
  refine lv_if_ne (tgt := 22) F.x F.b dX6_feed_8 (by decide) (fun _ => ?_) (fun c9 => absurd c9 (by decide))
  refine lv_aload_n F.x F.b dX6_feed_22 rfl (lv_at hl 0 rfl) ?_
  refine rg F w cl6 0 rfl 3 (by decide) q263 rfl (v := .ref ((ad 4) 0)) rfl dX6_feed_23 ?_
  refine rgN F w cl1 1 rfl 2 (by decide) q204 rfl (v := .int (C'.1 0)) rfl dX6_feed_26 ?_
  exact eiX F w hr hlocks rfl ⟨by first | exact hq1 | rw [hq1], rfl⟩ (Nat.le_of_ble_eq_true rfl) (Nat.le_of_ble_eq_true rfl) dX6_feed_29
set_option maxRecDepth 100000 in
set_option maxHeartbeats 4000000 in
theorem k_undo_no {G : cG} (g : GOK G) (gM : MG G) {ad : Nat → Nat → Nat} {svx : Value} {K S : Mem} {cu ct : Nat} {hs : hS} (e0 : ct = 0) : CX G yX6_undo cX6_undo 1 .int 6 82 1 6 [.ref ((ad 0) 0)] (fl [wXo G.2.1 (ad 0) (xF ad) svx K, wSh G.2.1 (ad 1) S, wHo G.2.1 (ad 3) cu ct hs, hsL G.2.1 hs]) (fun _ _ => False) (QE eISE (fl [wXo G.2.1 (ad 0) (xF ad) svx K, wSh G.2.1 (ad 1) S, wHo G.2.1 (ad 3) cu ct hs, hsL G.2.1 hs])) := by
  refine CX.of g (by decide) rfl (Nat.le_of_ble_eq_true rfl) ?_
  intro p l e s m below meth c A ls hst htab F hr hlocks w hl
  generalize ([.ref ((ad 0) 0)] : List Value).toArray = args
  have hl : lv_has ls 1 [(0, .ref ((ad 0) 0))] := hl
  have w : Wd G A s.heap (fl [wXo G.2.1 (ad 0) (xF ad) svx K, wSh G.2.1 (ad 1) S, wHo G.2.1 (ad 3) cu ct hs, hsL G.2.1 hs]) _ _ := w
  refine lv_aload_n F.x F.b dX6_undo_0 rfl (lv_at hl 0 rfl) ?_
  refine rg F w cl6 0 rfl 2 (by decide) q262 rfl (v := .ref ((ad 3) 0)) rfl dX6_undo_1 ?_
  refine rgN F w cl2 15 rfl 2 (by decide) q186 rfl (v := .int (nI ct)) rfl dX6_undo_4 ?_
  refine lv_if_ne (tgt := 21) F.x F.b dX6_undo_7 (by decide) (fun c9 => absurd (show nI ct = 0 by rw [e0]; rfl) c9) (fun _ => ?_)
  exact wTSW F w gM hst htab hlocks hS_ISE (is := 326) (by decide +kernel : (326, "no change can be undone") ∈ msgs) (show QE eISE (fl [wXo G.2.1 (ad 0) (xF ad) svx K, wSh G.2.1 (ad 1) S, wHo G.2.1 (ad 3) cu ct hs, hsL G.2.1 hs]) eISE _ from ⟨rfl, rfl⟩) hl.1 dX6_undo_10 dX6_undo_13 dX6_undo_14 dX6_undo_17 dX6_undo_20 ⟨Nat.le_of_ble_eq_true rfl, Nat.le_of_ble_eq_true rfl, Nat.le_of_ble_eq_true rfl, Nat.le_of_ble_eq_true rfl⟩ ⟨Nat.le_of_ble_eq_true rfl, Nat.le_of_ble_eq_true rfl⟩
set_option maxRecDepth 100000 in
set_option maxHeartbeats 4000000 in
theorem k_undo_ok {G : cG} (g : GOK G) {ad : Nat → Nat → Nat} {svx : Value} {K S P S' : Mem} {cu ct : Nat} {hs : hS} {b : Nat → Nat} (k1 : cu < 9) (k2 : ct ≤ 8) (e0 : ct ≠ 0) (hb : hs (prv cu) = some (b, P)) (hcp : f_X4_copyFrom S P = some S') : CX G yX6_undo cX6_undo 1 .int 5 109 0 0 [.ref ((ad 0) 0)] (fl [wXo G.2.1 (ad 0) (xF ad) svx K, wSh G.2.1 (ad 1) S, wHo G.2.1 (ad 3) cu ct hs, hsL G.2.1 hs]) (fun r9 w1 => r9 = nI (ct - 1) ∧ w1 = fl [wXo G.2.1 (ad 0) (xF ad) svx K, wSh G.2.1 (ad 1) S', wHo G.2.1 (ad 3) (prv cu) (ct - 1) hs, hsL G.2.1 hs]) (fun _ _ => False) := by
  refine CX.of g (by decide) rfl (Nat.le_of_ble_eq_true rfl) ?_
  intro p l e s m below meth c A ls hst htab F hr hlocks w hl
  generalize ([.ref ((ad 0) 0)] : List Value).toArray = args
  have hl : lv_has ls 1 [(0, .ref ((ad 0) 0))] := hl
  have w : Wd G A s.heap (fl [wXo G.2.1 (ad 0) (xF ad) svx K, wSh G.2.1 (ad 1) S, wHo G.2.1 (ad 3) cu ct hs, hsL G.2.1 hs]) _ _ := w
  refine lv_aload_n F.x F.b dX6_undo_0 rfl (lv_at hl 0 rfl) ?_
  refine rg F w cl6 0 rfl 2 (by decide) q262 rfl (v := .ref ((ad 3) 0)) rfl dX6_undo_1 ?_
  refine rgN F w cl2 15 rfl 2 (by decide) q186 rfl (v := .int (nI ct)) rfl dX6_undo_4 ?_
  refine lv_if_ne (tgt := 21) F.x F.b dX6_undo_7 (by decide) (fun _ => ?_) (fun c9 => absurd c9 (show ¬ nI ct = 0 from fun z => e0 ((nI_eq (a := ct) (b := 0) (by omega) (by omega)).mp z)))
  refine lv_aload_n F.x F.b dX6_undo_21 rfl (lv_at hl 0 rfl) ?_
  refine rg F w cl6 0 rfl 2 (by decide) q262 rfl (v := .ref ((ad 3) 0)) rfl dX6_undo_22 ?_
  refine lv_aload_n F.x F.b dX6_undo_25 rfl (lv_at hl 0 rfl) ?_
  refine rg F w cl6 0 rfl 0 (by decide) q260 rfl (v := .ref ((ad 1) 0)) rfl dX6_undo_26 ?_
  refine kXv F w hst (LC := [wHo G.2.1 (ad 3) cu ct hs, hsL G.2.1 hs, wSh G.2.1 (ad 1) S]) (LR := [wXo G.2.1 (ad 0) (xF ad) svx K]) (As := [.ref ((ad 1) 0)]) (rest := []) (t_X2_undoLatest F.1 k1 k2 e0 hb hcp) m_X2_undoLatest v_X2_undoLatest q1493 (ci := 6) (q0 := 15) rfl rfl rfl 4 [2, 3, 1, 0] rfl rfl rfl ⟨Nat.le_of_ble_eq_true rfl, Nat.le_of_ble_eq_true rfl⟩ rfl hl.1 rfl (Nat.le_of_ble_eq_true rfl) dX6_undo_29 ⟨Nat.le_of_ble_eq_true rfl, Nat.le_of_ble_eq_true rfl⟩ (fun _ _ _ _ _ _ hx => False.elim hx) (fun w1 H locs h9 w => ?_)
  have w := w.jn (L1 := [wHo G.2.1 (ad 3) (prv cu) (ct - 1) hs, hsL G.2.1 hs, wSh G.2.1 (ad 1) S']) (L' := [wXo G.2.1 (ad 0) (xF ad) svx K, wSh G.2.1 (ad 1) S', wHo G.2.1 (ad 3) (prv cu) (ct - 1) hs, hsL G.2.1 hs]) h9 4 [3, 2, 0, 1] rfl rfl rfl
  have w : Wd G A s.heap (fl [wXo G.2.1 (ad 0) (xF ad) svx K, wSh G.2.1 (ad 1) S', wHo G.2.1 (ad 3) (prv cu) (ct - 1) hs, hsL G.2.1 hs]) _ _ := w
  refine lv_aload_n F.x F.b dX6_undo_32 rfl (lv_at hl 0 rfl) ?_
  refine rg F w cl6 0 rfl 2 (by decide) q262 rfl (v := .ref ((ad 3) 0)) rfl dX6_undo_33 ?_
  refine rgN F w cl2 15 rfl 2 (by decide) q186 rfl (v := .int (nI (ct - 1))) rfl dX6_undo_36 ?_
  exact eiX F w hr hlocks rfl ⟨rfl, rfl⟩ (Nat.le_of_ble_eq_true rfl) (Nat.le_of_ble_eq_true rfl) dX6_undo_39
set_option maxRecDepth 100000 in
set_option maxHeartbeats 4000000 in
theorem k_restore_ok {G : cG} (g : GOK G) {ad : Nat → Nat → Nat} {K S P S' : Mem} {cu ct : Nat} {hs : hS} {b : Nat → Nat} (hcp : f_X4_copyFrom S P = some S') : CX G yX6_restore cX6_restore 2 .int 3 66 0 0 [.ref ((ad 0) 0)] (fl [wXo G.2.1 (ad 0) (xF ad) (.ref (b 0)) K, wSh G.2.1 (ad 1) S, wHo G.2.1 (ad 3) cu ct hs, wSh G.2.1 b P]) (fun r9 w1 => r9 = S'.1 0 ∧ w1 = fl [wXo G.2.1 (ad 0) (xF ad) (.ref (b 0)) K, wSh G.2.1 (ad 1) S', wHo G.2.1 (ad 3) cu 0 hs, wSh G.2.1 b P]) (fun _ _ => False) := by
  refine CX.of g (by decide) rfl (Nat.le_of_ble_eq_true rfl) ?_
  intro p l e s m below meth c A ls hst htab F hr hlocks w hl
  generalize ([.ref ((ad 0) 0)] : List Value).toArray = args
  have hl : lv_has ls 2 [(0, .ref ((ad 0) 0))] := hl
  have w : Wd G A s.heap (fl [wXo G.2.1 (ad 0) (xF ad) (.ref (b 0)) K, wSh G.2.1 (ad 1) S, wHo G.2.1 (ad 3) cu ct hs, wSh G.2.1 b P]) _ _ := w
  refine lv_aload_n F.x F.b dX6_restore_0 rfl (lv_at hl 0 rfl) ?_
  refine rg F w cl6 0 rfl 7 (by decide) q267 rfl (v := .ref (b 0)) rfl dX6_restore_1 ?_
  refine lv_astore_n (lv' := [(1, .ref (b 0)), (0, .ref ((ad 0) 0))]) F.x F.b dX6_restore_4 rfl hl (by decide) rfl (fun ls hl => ?_)
  refine lv_aload_n F.x F.b dX6_restore_5 rfl (lv_at hl 0 rfl) ?_
  refine lv_ifnonnull (tgt := 20) F.x F.b dX6_restore_6 (by decide) ?_
  refine lv_aload_n F.x F.b dX6_restore_20 rfl (lv_at hl 1 rfl) ?_
  refine rg F w cl6 0 rfl 0 (by decide) q260 rfl (v := .ref ((ad 1) 0)) rfl dX6_restore_21 ?_
  refine lv_aload_n F.x F.b dX6_restore_24 rfl (lv_at hl 0 rfl) ?_
  refine kXv F w hst (LC := [wSh G.2.1 (ad 1) S, wSh G.2.1 b P]) (LR := [wXo G.2.1 (ad 0) (xF ad) (.ref (b 0)) K, wHo G.2.1 (ad 3) cu ct hs]) (As := [.ref (b 0)]) (rest := []) (t_X4_copyFrom F.1 hcp).toX m_X4_copyFrom v_X4_copyFrom q542 (ci := 8) (q0 := 1) rfl rfl rfl 4 [1, 3, 0, 2] rfl rfl rfl ⟨Nat.le_of_ble_eq_true rfl, Nat.le_of_ble_eq_true rfl⟩ rfl hl.1 rfl (Nat.le_of_ble_eq_true rfl) dX6_restore_25 ⟨Nat.le_of_ble_eq_true rfl, Nat.le_of_ble_eq_true rfl⟩ (fun _ _ _ _ _ _ hx => False.elim hx) (fun w1 H locs h9 w => ?_)
  have w := w.jn (L1 := [wSh G.2.1 (ad 1) S', wSh G.2.1 b P]) (L' := [wXo G.2.1 (ad 0) (xF ad) (.ref (b 0)) K, wSh G.2.1 (ad 1) S', wHo G.2.1 (ad 3) cu ct hs, wSh G.2.1 b P]) h9 4 [2, 0, 3, 1] rfl rfl rfl
  have w : Wd G A s.heap (fl [wXo G.2.1 (ad 0) (xF ad) (.ref (b 0)) K, wSh G.2.1 (ad 1) S', wHo G.2.1 (ad 3) cu ct hs, wSh G.2.1 b P]) _ _ := w
  refine lv_aload_n F.x F.b dX6_restore_28 rfl (lv_at hl 1 rfl) ?_
  refine rg F w cl6 0 rfl 2 (by decide) q262 rfl (v := .ref ((ad 3) 0)) rfl dX6_restore_29 ?_
  refine kXv F w hst (LC := [wHo G.2.1 (ad 3) cu ct hs]) (LR := [wXo G.2.1 (ad 0) (xF ad) (.ref (b 0)) K, wSh G.2.1 (ad 1) S', wSh G.2.1 b P]) (As := []) (rest := []) (t_X2_forget F.1) m_X2_forget v_X2_forget q1506 (ci := 6) (q0 := 15) rfl rfl rfl 4 [2, 0, 1, 3] rfl rfl rfl ⟨Nat.le_of_ble_eq_true rfl, Nat.le_of_ble_eq_true rfl⟩ rfl hl.1 rfl (Nat.le_of_ble_eq_true rfl) dX6_restore_32 ⟨Nat.le_of_ble_eq_true rfl, Nat.le_of_ble_eq_true rfl⟩ (fun _ _ _ _ _ _ hx => False.elim hx) (fun w1 H locs h9 w => ?_)
  have w := w.jn (L1 := [wHo G.2.1 (ad 3) cu 0 hs]) (L' := [wXo G.2.1 (ad 0) (xF ad) (.ref (b 0)) K, wSh G.2.1 (ad 1) S', wHo G.2.1 (ad 3) cu 0 hs, wSh G.2.1 b P]) h9 4 [1, 2, 0, 3] rfl rfl rfl
  have w : Wd G A s.heap (fl [wXo G.2.1 (ad 0) (xF ad) (.ref (b 0)) K, wSh G.2.1 (ad 1) S', wHo G.2.1 (ad 3) cu 0 hs, wSh G.2.1 b P]) _ _ := w
  refine lv_aload_n F.x F.b dX6_restore_35 rfl (lv_at hl 1 rfl) ?_
  refine rg F w cl6 0 rfl 0 (by decide) q260 rfl (v := .ref ((ad 1) 0)) rfl dX6_restore_36 ?_
  refine rgN F w cl4 1 rfl 0 (by decide) q147 rfl (v := .ref ((ad 1) 1)) rfl dX6_restore_39 ?_
  refine rgN F w cl3 2 rfl 7 (by decide) q86 rfl (v := .int (S'.1 0)) rfl dX6_restore_42 ?_
  exact eiX F w hr hlocks rfl ⟨rfl, rfl⟩ (Nat.le_of_ble_eq_true rfl) (Nat.le_of_ble_eq_true rfl) dX6_restore_45
set_option maxRecDepth 100000 in
set_option maxHeartbeats 4000000 in
theorem k_save {G : cG} (g : GOK G) {ad : Nat → Nat → Nat} {K S : Mem} (hcp : ∀ P0, ∃ P, f_X4_copyFrom P0 S = some P) : CX G yX6_save cX6_save 2 .int 3 66 14 161 [.ref ((ad 0) 0)] (fl [wXo G.2.1 (ad 0) (xF ad) .null K, wSh G.2.1 (ad 1) S]) (fun r9 w1 => r9 = S.1 0 ∧ ∃ (b : Nat → Nat) (P : Mem), CpS S P ∧ w1 = fl [wXo G.2.1 (ad 0) (xF ad) (.ref (b 0)) K, wSh G.2.1 (ad 1) S, wSh G.2.1 b P]) (fun _ _ => False) := by
  refine CX.of g (by decide) rfl (Nat.le_of_ble_eq_true rfl) ?_
  intro p l e s m below meth c A ls hst htab F hr hlocks w hl
  generalize ([.ref ((ad 0) 0)] : List Value).toArray = args
  have hl : lv_has ls 2 [(0, .ref ((ad 0) 0))] := hl
  have w : Wd G A s.heap (fl [wXo G.2.1 (ad 0) (xF ad) .null K, wSh G.2.1 (ad 1) S]) _ _ := w
  refine lv_aload_n F.x F.b dX6_save_0 rfl (lv_at hl 0 rfl) ?_
  refine rg F w cl6 0 rfl 7 (by decide) q267 rfl (v := .null) rfl dX6_save_1 ?_
  refine lv_astore_nN (lv' := [(1, .null), (0, .ref ((ad 0) 0))]) F.x F.b dX6_save_4 rfl hl (by decide) rfl (fun ls hl => ?_)
  refine lv_aload_nN F.x F.b dX6_save_5 rfl (lv_at hl 0 rfl) ?_
  refine lv_ifnonnullN F.x F.b dX6_save_6 ?_
  refine rn F w cl4 q53 (List.mem_of_getElem? (i := 54) (by decide +kernel)) (List.mem_of_getElem? (i := 16) (by decide +kernel)) [.null, .null, .null, .int 0, .int 0, .int 0, .int 0] (fun j hj => by rcases (show j = 0 ∨ j = 1 ∨ j = 2 ∨ j = 3 ∨ j = 4 ∨ j = 5 ∨ j = 6 by omega) with rfl | rfl | rfl | rfl | rfl | rfl | rfl <;> rfl) (Nat.le_of_ble_eq_true rfl) (Nat.le_of_ble_eq_true rfl) dX6_save_9 (fun z1 H w => ?_)
  have w : Wd G A s.heap (fl [wXo G.2.1 (ad 0) (xF ad) .null K, wSh G.2.1 (ad 1) S, [(z1, .inr (8, [.null, .null, .null, .int 0, .int 0, .int 0, .int 0]))]]) _ _ := w
  refine lv_dup F.x F.b dX6_save_12 rfl ?_
  refine kCN F w (LC := [[(z1, .inr (8, [.null, .null, .null, .int 0, .int 0, .int 0, .int 0]))]]) (LR := [wXo G.2.1 (ad 0) (xF ad) .null K, wSh G.2.1 (ad 1) S]) (As := []) (rest := [.ref z1]) (t_X4_init F.1) m_X4_init v_X4_init rfl q55 3 [2, 0, 1] rfl rfl rfl ⟨Nat.le_of_ble_eq_true rfl, Nat.le_of_ble_eq_true rfl⟩ rfl hl.1 rfl (Nat.le_of_ble_eq_true rfl) dX6_save_13 ⟨Nat.le_of_ble_eq_true rfl, Nat.le_of_ble_eq_true rfl⟩ (fun w1 H locs h9 w => ?_)
  obtain ⟨b, hb0, h9⟩ := h9
  have w0 := w
  subst hb0
  have w := w0
  have w := w.jn (L1 := [wSh G.2.1 b zM]) (L' := [wXo G.2.1 (ad 0) (xF ad) .null K, wSh G.2.1 (ad 1) S, wSh G.2.1 b zM]) h9 3 [1, 2, 0] rfl rfl rfl
  have w : Wd G A s.heap (fl [wXo G.2.1 (ad 0) (xF ad) .null K, wSh G.2.1 (ad 1) S, wSh G.2.1 b zM]) _ _ := w
  refine lv_astore_n (lv' := [(1, .ref (b 0)), (0, .ref ((ad 0) 0))]) F.x F.b dX6_save_16 rfl hl (by decide) rfl (fun ls hl => ?_)
  refine lv_aload_n F.x F.b dX6_save_17 rfl (lv_at hl 1 rfl) ?_
  refine lv_aload_n F.x F.b dX6_save_18 rfl (lv_at hl 0 rfl) ?_
  refine rp F w (ws' := fl [wXo G.2.1 (ad 0) (xF ad) (.ref (b 0)) K, wSh G.2.1 (ad 1) S, wSh G.2.1 b zM]) cl6 0 rfl 7 (by decide) q267 rfl rfl rfl rfl (Nat.le_of_ble_eq_true rfl) rfl dX6_save_19 (fun H locs w => ?_)
  refine lv_aload_n F.x F.b dX6_save_22 rfl (lv_at hl 0 rfl) ?_
  refine lv_aload_n F.x F.b dX6_save_23 rfl (lv_at hl 1 rfl) ?_
  refine rg F w cl6 0 rfl 0 (by decide) q260 rfl (v := .ref ((ad 1) 0)) rfl dX6_save_24 ?_
  obtain ⟨P, hP⟩ := hcp zM
  have w : Wd G A s.heap (fl [wXo G.2.1 (ad 0) (xF ad) (.ref (b 0)) K, wSh G.2.1 (ad 1) S, wSh G.2.1 b zM]) _ _ := w
  refine kXv F w hst (LC := [wSh G.2.1 b zM, wSh G.2.1 (ad 1) S]) (LR := [wXo G.2.1 (ad 0) (xF ad) (.ref (b 0)) K]) (As := [.ref ((ad 1) 0)]) (rest := []) (t_X4_copyFrom F.1 hP).toX m_X4_copyFrom v_X4_copyFrom q542 (ci := 8) (q0 := 15) rfl rfl rfl 3 [2, 1, 0] rfl rfl rfl ⟨Nat.le_of_ble_eq_true rfl, Nat.le_of_ble_eq_true rfl⟩ rfl hl.1 rfl (Nat.le_of_ble_eq_true rfl) dX6_save_27 ⟨Nat.le_of_ble_eq_true rfl, Nat.le_of_ble_eq_true rfl⟩ (fun _ _ _ _ _ _ hx => False.elim hx) (fun w1 H locs h9 w => ?_)
  have w := w.jn (L1 := [wSh G.2.1 b P, wSh G.2.1 (ad 1) S]) (L' := [wXo G.2.1 (ad 0) (xF ad) (.ref (b 0)) K, wSh G.2.1 (ad 1) S, wSh G.2.1 b P]) h9 3 [2, 1, 0] rfl rfl rfl
  have w : Wd G A s.heap (fl [wXo G.2.1 (ad 0) (xF ad) (.ref (b 0)) K, wSh G.2.1 (ad 1) S, wSh G.2.1 b P]) _ _ := w
  refine lv_aload_n F.x F.b dX6_save_30 rfl (lv_at hl 1 rfl) ?_
  refine rg F w cl6 0 rfl 0 (by decide) q260 rfl (v := .ref ((ad 1) 0)) rfl dX6_save_31 ?_
  refine rgN F w cl4 1 rfl 0 (by decide) q147 rfl (v := .ref ((ad 1) 1)) rfl dX6_save_34 ?_
  refine rgN F w cl3 2 rfl 7 (by decide) q86 rfl (v := .int (S.1 0)) rfl dX6_save_37 ?_
  exact eiX F w hr hlocks rfl ⟨rfl, b, P, ⟨zM, hP⟩, rfl⟩ (Nat.le_of_ble_eq_true rfl) (Nat.le_of_ble_eq_true rfl) dX6_save_40
set_option maxRecDepth 100000 in
set_option maxHeartbeats 4000000 in
theorem k_execute_no {G : cG} (g : GOK G) (gM : MG G) {ad : Nat → Nat → Nat} {svx : Value} {ks kv : Nat → Nat} {K S S' C C1 C' : Mem} {cu ct : Nat} {hs : hS} {mm ii : Nat} (hSG : SG G ks kv) (hm : mm ≤ 60) (k1 : cu < 9) (hcp : ∀ P0, ∃ P, f_X4_copyFrom P0 S = some P) (hq : f_X1_countCommands C = some (nI mm, C1)) (hi : ii < mm) (hp : f_X6_performFirst K S C1 (nI mm) = some (nI ii, S', C')) (hbk : ∀ P, CpS S P → ∃ S'', f_X4_copyFrom S' P = some S'') : CX G yX6_execute cX6_execute 3 .int 7 154 15 167 [.ref ((ad 0) 0)] (fl [wXo G.2.1 (ad 0) (xF ad) svx K, wSh G.2.1 (ad 1) S, wTe G.2.1 (ad 4) C, wHo G.2.1 (ad 3) cu ct hs, hsL G.2.1 hs]) (fun _ _ => False) (fun E' w1 => E' = eUOE ∧ ∃ (b : Nat → Nat) (P S'' : Mem), CpS S P ∧ f_X4_copyFrom S' P = some S'' ∧ w1 = fl [wXo G.2.1 (ad 0) (xF ad) svx (wrI K 1 (nI ii)), wSh G.2.1 (ad 1) S'', wTe G.2.1 (ad 4) (wrI C' 0 0), wHo G.2.1 (ad 3) cu ct (hput hs cu (b, P)), hsL G.2.1 (hput hs cu (b, P))]) := by
  refine CX.of g (by decide) rfl (Nat.le_of_ble_eq_true rfl) ?_
  intro p l e s m below meth c A ls hst htab F hr hlocks w hl
  generalize ([.ref ((ad 0) 0)] : List Value).toArray = args
  have hl : lv_has ls 3 [(0, .ref ((ad 0) 0))] := hl
  have w : Wd G A s.heap (fl [wXo G.2.1 (ad 0) (xF ad) svx K, wSh G.2.1 (ad 1) S, wTe G.2.1 (ad 4) C, wHo G.2.1 (ad 3) cu ct hs, hsL G.2.1 hs]) _ _ := w
  refine lv_aload_n F.x F.b dX6_execute_0 rfl (lv_at hl 0 rfl) ?_
  refine rg F w cl6 0 rfl 3 (by decide) q263 rfl (v := .ref ((ad 4) 0)) rfl dX6_execute_1 ?_
  refine kXi F w hst (LC := [wTe G.2.1 (ad 4) C]) (LR := [wXo G.2.1 (ad 0) (xF ad) svx K, wSh G.2.1 (ad 1) S, wHo G.2.1 (ad 3) cu ct hs, hsL G.2.1 hs]) (As := []) (rest := []) (t_X1_countCommands F.1 hSG hq).toX m_X1_countCommands v_X1_countCommands q1053 (ci := 5) (q0 := 15) rfl rfl rfl 5 [2, 0, 1, 3, 4] rfl rfl rfl ⟨Nat.le_of_ble_eq_true rfl, Nat.le_of_ble_eq_true rfl⟩ rfl hl.1 rfl (Nat.le_of_ble_eq_true rfl) dX6_execute_4 ⟨Nat.le_of_ble_eq_true rfl, Nat.le_of_ble_eq_true rfl⟩ (fun _ _ _ _ _ _ hx => False.elim hx) (fun r9 w1 H locs h9 w => ?_)
  obtain ⟨rfl, h9⟩ := h9
  have w := w.jn (L1 := [wTe G.2.1 (ad 4) C1]) (L' := [wXo G.2.1 (ad 0) (xF ad) svx K, wSh G.2.1 (ad 1) S, wTe G.2.1 (ad 4) C1, wHo G.2.1 (ad 3) cu ct hs, hsL G.2.1 hs]) h9 5 [1, 2, 0, 3, 4] rfl rfl rfl
  have w : Wd G A s.heap (fl [wXo G.2.1 (ad 0) (xF ad) svx K, wSh G.2.1 (ad 1) S, wTe G.2.1 (ad 4) C1, wHo G.2.1 (ad 3) cu ct hs, hsL G.2.1 hs]) _ _ := w
  refine lv_istore_n (lv' := [(1, .int (nI mm)), (0, .ref ((ad 0) 0))]) F.x F.b dX6_execute_7 rfl hl (by decide) rfl (fun ls hl => ?_)
  refine lv_iload_n F.x F.b dX6_execute_8 rfl (lv_at hl 0 rfl) ?_
  refine lv_if_ge (tgt := 41) F.x F.b dX6_execute_9 (by decide) (fun _ => ?_) (fun c9 => absurd (nI_pos' (n := mm) (by omega)) c9)
  refine lv_aload_n F.x F.b dX6_execute_41 rfl (lv_at hl 1 rfl) ?_
  refine rg F w cl6 0 rfl 2 (by decide) q262 rfl (v := .ref ((ad 3) 0)) rfl dX6_execute_42 ?_
  refine lv_aload_n F.x F.b dX6_execute_45 rfl (lv_at hl 1 rfl) ?_
  refine rg F w cl6 0 rfl 0 (by decide) q260 rfl (v := .ref ((ad 1) 0)) rfl dX6_execute_46 ?_
  refine kXv F w hst (LC := [wHo G.2.1 (ad 3) cu ct hs, hsL G.2.1 hs, wSh G.2.1 (ad 1) S]) (LR := [wXo G.2.1 (ad 0) (xF ad) svx K, wTe G.2.1 (ad 4) C1]) (As := [.ref ((ad 1) 0)]) (rest := []) (t_X2_prepare F.1 k1 hcp) m_X2_prepare v_X2_prepare q616 (ci := 6) (q0 := 18) rfl rfl rfl 5 [3, 4, 1, 0, 2] rfl rfl rfl ⟨Nat.le_of_ble_eq_true rfl, Nat.le_of_ble_eq_true rfl⟩ rfl hl.1 rfl (Nat.le_of_ble_eq_true rfl) dX6_execute_49 ⟨Nat.le_of_ble_eq_true rfl, Nat.le_of_ble_eq_true rfl⟩ (fun _ _ _ _ _ _ hx => False.elim hx) (fun w1 H locs h9 w => ?_)
  obtain ⟨b, P, ⟨P0, hP⟩, h9⟩ := h9
  have w := w.jn (L1 := [wHo G.2.1 (ad 3) cu ct (hput hs cu (b, P)), hsL G.2.1 (hput hs cu (b, P)), wSh G.2.1 (ad 1) S]) (L' := [wXo G.2.1 (ad 0) (xF ad) svx K, wSh G.2.1 (ad 1) S, wTe G.2.1 (ad 4) C1, wHo G.2.1 (ad 3) cu ct (hput hs cu (b, P)), hsL G.2.1 (hput hs cu (b, P))]) h9 5 [3, 2, 4, 0, 1] rfl rfl rfl
  have w : Wd G A s.heap (fl [wXo G.2.1 (ad 0) (xF ad) svx K, wSh G.2.1 (ad 1) S, wTe G.2.1 (ad 4) C1, wHo G.2.1 (ad 3) cu ct (hput hs cu (b, P)), hsL G.2.1 (hput hs cu (b, P))]) _ _ := w
  refine lv_aload_n F.x F.b dX6_execute_52 rfl (lv_at hl 1 rfl) ?_
  refine lv_iload_n F.x F.b dX6_execute_53 rfl (lv_at hl 0 rfl) ?_
  refine kXi F w hst (LC := [wXo G.2.1 (ad 0) (xF ad) svx K, wSh G.2.1 (ad 1) S, wTe G.2.1 (ad 4) C1]) (LR := [wHo G.2.1 (ad 3) cu ct (hput hs cu (b, P)), hsL G.2.1 (hput hs cu (b, P))]) (As := [.int (nI mm)]) (rest := []) ((t_X6_performFirst F.1 hSG (x := ad 0) (a := ad 1) (ta := ad 4) (rf := xF ad) (sv := svx) rfl rfl hp).toX : CX G yX6_performFirst cX6_performFirst 3 .int 6 132 0 0 [.ref ((ad 0) 0), .int (nI mm)] (fl [wXo G.2.1 (ad 0) (xF ad) svx K, wSh G.2.1 (ad 1) S, wTe G.2.1 (ad 4) C1]) _ _) m_X6_performFirst v_X6_performFirst q1107 (ci := 10) (q0 := 0) rfl rfl rfl 5 [0, 1, 2, 3, 4] rfl rfl rfl ⟨Nat.le_of_ble_eq_true rfl, Nat.le_of_ble_eq_true rfl⟩ rfl hl.1 rfl (Nat.le_of_ble_eq_true rfl) dX6_execute_54 ⟨Nat.le_of_ble_eq_true rfl, Nat.le_of_ble_eq_true rfl⟩ (fun _ _ _ _ _ _ hx => False.elim hx) (fun r9 w1 H locs h9 w => ?_)
  obtain ⟨rfl, h9⟩ := h9
  have w := w.jn (L1 := [wXo G.2.1 (ad 0) (xF ad) svx K, wSh G.2.1 (ad 1) S', wTe G.2.1 (ad 4) C']) (L' := [wXo G.2.1 (ad 0) (xF ad) svx K, wSh G.2.1 (ad 1) S', wTe G.2.1 (ad 4) C', wHo G.2.1 (ad 3) cu ct (hput hs cu (b, P)), hsL G.2.1 (hput hs cu (b, P))]) h9 5 [0, 1, 2, 3, 4] rfl rfl rfl
  have w : Wd G A s.heap (fl [wXo G.2.1 (ad 0) (xF ad) svx K, wSh G.2.1 (ad 1) S', wTe G.2.1 (ad 4) C', wHo G.2.1 (ad 3) cu ct (hput hs cu (b, P)), hsL G.2.1 (hput hs cu (b, P))]) _ _ := w
  refine lv_istore_n (lv' := [(2, .int (nI ii)), (1, .int (nI mm)), (0, .ref ((ad 0) 0))]) F.x F.b dX6_execute_57 rfl hl (by decide) rfl (fun ls hl => ?_)
  refine lv_aload_n F.x F.b dX6_execute_58 rfl (lv_at hl 2 rfl) ?_
  refine rg F w cl6 0 rfl 3 (by decide) q263 rfl (v := .ref ((ad 4) 0)) rfl dX6_execute_59 ?_
  refine kXv F w hst (LC := [wTe G.2.1 (ad 4) C']) (LR := [wXo G.2.1 (ad 0) (xF ad) svx K, wSh G.2.1 (ad 1) S', wHo G.2.1 (ad 3) cu ct (hput hs cu (b, P)), hsL G.2.1 (hput hs cu (b, P))]) (As := []) (rest := []) (t_X1_clear F.1 (C' := wrI C' 0 0) rfl).toX m_X1_clear v_X1_clear q1102 (ci := 5) (q0 := 15) rfl rfl rfl 5 [2, 0, 1, 3, 4] rfl rfl rfl ⟨Nat.le_of_ble_eq_true rfl, Nat.le_of_ble_eq_true rfl⟩ rfl hl.1 rfl (Nat.le_of_ble_eq_true rfl) dX6_execute_62 ⟨Nat.le_of_ble_eq_true rfl, Nat.le_of_ble_eq_true rfl⟩ (fun _ _ _ _ _ _ hx => False.elim hx) (fun w1 H locs h9 w => ?_)
  have w := w.jn (L1 := [wTe G.2.1 (ad 4) (wrI C' 0 0)]) (L' := [wXo G.2.1 (ad 0) (xF ad) svx K, wSh G.2.1 (ad 1) S', wTe G.2.1 (ad 4) (wrI C' 0 0), wHo G.2.1 (ad 3) cu ct (hput hs cu (b, P)), hsL G.2.1 (hput hs cu (b, P))]) h9 5 [1, 2, 0, 3, 4] rfl rfl rfl
  have w : Wd G A s.heap (fl [wXo G.2.1 (ad 0) (xF ad) svx K, wSh G.2.1 (ad 1) S', wTe G.2.1 (ad 4) (wrI C' 0 0), wHo G.2.1 (ad 3) cu ct (hput hs cu (b, P)), hsL G.2.1 (hput hs cu (b, P))]) _ _ := w
  refine lv_iload_n F.x F.b dX6_execute_65 rfl (lv_at hl 0 rfl) ?_
  refine lv_iload_n F.x F.b dX6_execute_66 rfl (lv_at hl 1 rfl) ?_
  refine lv_icmp_ge (tgt := 97) F.x F.b dX6_execute_67 (by decide) (fun c9 => absurd c9 (nI_ge (a := ii) (b := mm) hi (by omega))) (fun _ => ?_)
  refine lv_aload_n F.x F.b dX6_execute_70 rfl (lv_at hl 2 rfl) ?_
  refine lv_iload_n F.x F.b dX6_execute_71 rfl (lv_at hl 0 rfl) ?_
  refine rp F w (ws' := fl [wXo G.2.1 (ad 0) (xF ad) svx (wrI K 1 (nI ii)), wSh G.2.1 (ad 1) S', wTe G.2.1 (ad 4) (wrI C' 0 0), wHo G.2.1 (ad 3) cu ct (hput hs cu (b, P)), hsL G.2.1 (hput hs cu (b, P))]) cl6 0 rfl 9 (by decide) q269 rfl rfl rfl rfl (Nat.le_of_ble_eq_true rfl) rfl dX6_execute_72 (fun H locs w => ?_)
  refine lv_aload_n F.x F.b dX6_execute_75 rfl (lv_at hl 2 rfl) ?_
  refine rg F w cl6 0 rfl 2 (by decide) q262 rfl (v := .ref ((ad 3) 0)) rfl dX6_execute_76 ?_
  refine lv_aload_n F.x F.b dX6_execute_79 rfl (lv_at hl 2 rfl) ?_
  refine rg F w cl6 0 rfl 0 (by decide) q260 rfl (v := .ref ((ad 1) 0)) rfl dX6_execute_80 ?_
  obtain ⟨S'', hcp2⟩ := hbk P ⟨P0, hP⟩
  refine kXv F w hst (LC := [wHo G.2.1 (ad 3) cu ct (hput hs cu (b, P)), hsL G.2.1 (hput hs cu (b, P)), wSh G.2.1 (ad 1) S']) (LR := [wXo G.2.1 (ad 0) (xF ad) svx (wrI K 1 (nI ii)), wTe G.2.1 (ad 4) (wrI C' 0 0)]) (As := [.ref ((ad 1) 0)]) (rest := []) (t_X2_takeBack F.1 k1 (by rw [hput, if_pos rfl]) hcp2) m_X2_takeBack v_X2_takeBack q1142 (ci := 6) (q0 := 18) rfl rfl rfl 5 [3, 4, 1, 0, 2] rfl rfl rfl ⟨Nat.le_of_ble_eq_true rfl, Nat.le_of_ble_eq_true rfl⟩ rfl hl.1 rfl (Nat.le_of_ble_eq_true rfl) dX6_execute_83 ⟨Nat.le_of_ble_eq_true rfl, Nat.le_of_ble_eq_true rfl⟩ (fun _ _ _ _ _ _ hx => False.elim hx) (fun w1 H locs h9 w => ?_)
  have w := w.jn (L1 := [wHo G.2.1 (ad 3) cu ct (hput hs cu (b, P)), hsL G.2.1 (hput hs cu (b, P)), wSh G.2.1 (ad 1) S'']) (L' := [wXo G.2.1 (ad 0) (xF ad) svx (wrI K 1 (nI ii)), wSh G.2.1 (ad 1) S'', wTe G.2.1 (ad 4) (wrI C' 0 0), wHo G.2.1 (ad 3) cu ct (hput hs cu (b, P)), hsL G.2.1 (hput hs cu (b, P))]) h9 5 [3, 2, 4, 0, 1] rfl rfl rfl
  have w : Wd G A s.heap (fl [wXo G.2.1 (ad 0) (xF ad) svx (wrI K 1 (nI ii)), wSh G.2.1 (ad 1) S'', wTe G.2.1 (ad 4) (wrI C' 0 0), wHo G.2.1 (ad 3) cu ct (hput hs cu (b, P)), hsL G.2.1 (hput hs cu (b, P))]) _ _ := w
  exact wTSW F w gM hst htab hlocks hS_UOE (is := 315) (by decide +kernel : (315, "a command failed") ∈ msgs) (⟨rfl, b, P, S'', ⟨P0, hP⟩, hcp2, rfl⟩) hl.1 dX6_execute_86 dX6_execute_89 dX6_execute_90 dX6_execute_93 dX6_execute_96 ⟨Nat.le_of_ble_eq_true rfl, Nat.le_of_ble_eq_true rfl, Nat.le_of_ble_eq_true rfl, Nat.le_of_ble_eq_true rfl⟩ ⟨Nat.le_of_ble_eq_true rfl, Nat.le_of_ble_eq_true rfl⟩
set_option maxRecDepth 100000 in
set_option maxHeartbeats 4000000 in
theorem k_execute_ok {G : cG} (g : GOK G) {ad : Nat → Nat → Nat} {svx : Value} {ks kv : Nat → Nat} {K S S' C C1 C' : Mem} {cu ct : Nat} {hs : hS} {mm : Nat} (hSG : SG G ks kv) (hm : mm ≤ 60) (k1 : cu < 9) (hcp : ∀ P0, ∃ P, f_X4_copyFrom P0 S = some P) (hq : f_X1_countCommands C = some (nI mm, C1)) (k2 : ct ≤ 8) (hp : f_X6_performFirst K S C1 (nI mm) = some (nI mm, S', C')) : CX G yX6_execute cX6_execute 3 .int 7 154 14 161 [.ref ((ad 0) 0)] (fl [wXo G.2.1 (ad 0) (xF ad) svx K, wSh G.2.1 (ad 1) S, wTe G.2.1 (ad 4) C, wHo G.2.1 (ad 3) cu ct hs, hsL G.2.1 hs]) (fun r9 w1 => r9 = nI mm ∧ ∃ (b : Nat → Nat) (P : Mem), CpS S P ∧ w1 = fl [wXo G.2.1 (ad 0) (xF ad) svx K, wSh G.2.1 (ad 1) S', wTe G.2.1 (ad 4) (wrI C' 0 0), wHo G.2.1 (ad 3) (nxt cu) (cap ct) (hput hs cu (b, P)), hsL G.2.1 (hput hs cu (b, P))]) (fun _ _ => False) := by
  refine CX.of g (by decide) rfl (Nat.le_of_ble_eq_true rfl) ?_
  intro p l e s m below meth c A ls hst htab F hr hlocks w hl
  generalize ([.ref ((ad 0) 0)] : List Value).toArray = args
  have hl : lv_has ls 3 [(0, .ref ((ad 0) 0))] := hl
  have w : Wd G A s.heap (fl [wXo G.2.1 (ad 0) (xF ad) svx K, wSh G.2.1 (ad 1) S, wTe G.2.1 (ad 4) C, wHo G.2.1 (ad 3) cu ct hs, hsL G.2.1 hs]) _ _ := w
  refine lv_aload_n F.x F.b dX6_execute_0 rfl (lv_at hl 0 rfl) ?_
  refine rg F w cl6 0 rfl 3 (by decide) q263 rfl (v := .ref ((ad 4) 0)) rfl dX6_execute_1 ?_
  refine kXi F w hst (LC := [wTe G.2.1 (ad 4) C]) (LR := [wXo G.2.1 (ad 0) (xF ad) svx K, wSh G.2.1 (ad 1) S, wHo G.2.1 (ad 3) cu ct hs, hsL G.2.1 hs]) (As := []) (rest := []) (t_X1_countCommands F.1 hSG hq).toX m_X1_countCommands v_X1_countCommands q1053 (ci := 5) (q0 := 15) rfl rfl rfl 5 [2, 0, 1, 3, 4] rfl rfl rfl ⟨Nat.le_of_ble_eq_true rfl, Nat.le_of_ble_eq_true rfl⟩ rfl hl.1 rfl (Nat.le_of_ble_eq_true rfl) dX6_execute_4 ⟨Nat.le_of_ble_eq_true rfl, Nat.le_of_ble_eq_true rfl⟩ (fun _ _ _ _ _ _ hx => False.elim hx) (fun r9 w1 H locs h9 w => ?_)
  obtain ⟨rfl, h9⟩ := h9
  have w := w.jn (L1 := [wTe G.2.1 (ad 4) C1]) (L' := [wXo G.2.1 (ad 0) (xF ad) svx K, wSh G.2.1 (ad 1) S, wTe G.2.1 (ad 4) C1, wHo G.2.1 (ad 3) cu ct hs, hsL G.2.1 hs]) h9 5 [1, 2, 0, 3, 4] rfl rfl rfl
  have w : Wd G A s.heap (fl [wXo G.2.1 (ad 0) (xF ad) svx K, wSh G.2.1 (ad 1) S, wTe G.2.1 (ad 4) C1, wHo G.2.1 (ad 3) cu ct hs, hsL G.2.1 hs]) _ _ := w
  refine lv_istore_n (lv' := [(1, .int (nI mm)), (0, .ref ((ad 0) 0))]) F.x F.b dX6_execute_7 rfl hl (by decide) rfl (fun ls hl => ?_)
  refine lv_iload_n F.x F.b dX6_execute_8 rfl (lv_at hl 0 rfl) ?_
  refine lv_if_ge (tgt := 41) F.x F.b dX6_execute_9 (by decide) (fun _ => ?_) (fun c9 => absurd (nI_pos' (n := mm) (by omega)) c9)
  refine lv_aload_n F.x F.b dX6_execute_41 rfl (lv_at hl 1 rfl) ?_
  refine rg F w cl6 0 rfl 2 (by decide) q262 rfl (v := .ref ((ad 3) 0)) rfl dX6_execute_42 ?_
  refine lv_aload_n F.x F.b dX6_execute_45 rfl (lv_at hl 1 rfl) ?_
  refine rg F w cl6 0 rfl 0 (by decide) q260 rfl (v := .ref ((ad 1) 0)) rfl dX6_execute_46 ?_
  refine kXv F w hst (LC := [wHo G.2.1 (ad 3) cu ct hs, hsL G.2.1 hs, wSh G.2.1 (ad 1) S]) (LR := [wXo G.2.1 (ad 0) (xF ad) svx K, wTe G.2.1 (ad 4) C1]) (As := [.ref ((ad 1) 0)]) (rest := []) (t_X2_prepare F.1 k1 hcp) m_X2_prepare v_X2_prepare q616 (ci := 6) (q0 := 18) rfl rfl rfl 5 [3, 4, 1, 0, 2] rfl rfl rfl ⟨Nat.le_of_ble_eq_true rfl, Nat.le_of_ble_eq_true rfl⟩ rfl hl.1 rfl (Nat.le_of_ble_eq_true rfl) dX6_execute_49 ⟨Nat.le_of_ble_eq_true rfl, Nat.le_of_ble_eq_true rfl⟩ (fun _ _ _ _ _ _ hx => False.elim hx) (fun w1 H locs h9 w => ?_)
  obtain ⟨b, P, ⟨P0, hP⟩, h9⟩ := h9
  have w := w.jn (L1 := [wHo G.2.1 (ad 3) cu ct (hput hs cu (b, P)), hsL G.2.1 (hput hs cu (b, P)), wSh G.2.1 (ad 1) S]) (L' := [wXo G.2.1 (ad 0) (xF ad) svx K, wSh G.2.1 (ad 1) S, wTe G.2.1 (ad 4) C1, wHo G.2.1 (ad 3) cu ct (hput hs cu (b, P)), hsL G.2.1 (hput hs cu (b, P))]) h9 5 [3, 2, 4, 0, 1] rfl rfl rfl
  have w : Wd G A s.heap (fl [wXo G.2.1 (ad 0) (xF ad) svx K, wSh G.2.1 (ad 1) S, wTe G.2.1 (ad 4) C1, wHo G.2.1 (ad 3) cu ct (hput hs cu (b, P)), hsL G.2.1 (hput hs cu (b, P))]) _ _ := w
  refine lv_aload_n F.x F.b dX6_execute_52 rfl (lv_at hl 1 rfl) ?_
  refine lv_iload_n F.x F.b dX6_execute_53 rfl (lv_at hl 0 rfl) ?_
  refine kXi F w hst (LC := [wXo G.2.1 (ad 0) (xF ad) svx K, wSh G.2.1 (ad 1) S, wTe G.2.1 (ad 4) C1]) (LR := [wHo G.2.1 (ad 3) cu ct (hput hs cu (b, P)), hsL G.2.1 (hput hs cu (b, P))]) (As := [.int (nI mm)]) (rest := []) ((t_X6_performFirst F.1 hSG (x := ad 0) (a := ad 1) (ta := ad 4) (rf := xF ad) (sv := svx) rfl rfl hp).toX : CX G yX6_performFirst cX6_performFirst 3 .int 6 132 0 0 [.ref ((ad 0) 0), .int (nI mm)] (fl [wXo G.2.1 (ad 0) (xF ad) svx K, wSh G.2.1 (ad 1) S, wTe G.2.1 (ad 4) C1]) _ _) m_X6_performFirst v_X6_performFirst q1107 (ci := 10) (q0 := 0) rfl rfl rfl 5 [0, 1, 2, 3, 4] rfl rfl rfl ⟨Nat.le_of_ble_eq_true rfl, Nat.le_of_ble_eq_true rfl⟩ rfl hl.1 rfl (Nat.le_of_ble_eq_true rfl) dX6_execute_54 ⟨Nat.le_of_ble_eq_true rfl, Nat.le_of_ble_eq_true rfl⟩ (fun _ _ _ _ _ _ hx => False.elim hx) (fun r9 w1 H locs h9 w => ?_)
  obtain ⟨rfl, h9⟩ := h9
  have w := w.jn (L1 := [wXo G.2.1 (ad 0) (xF ad) svx K, wSh G.2.1 (ad 1) S', wTe G.2.1 (ad 4) C']) (L' := [wXo G.2.1 (ad 0) (xF ad) svx K, wSh G.2.1 (ad 1) S', wTe G.2.1 (ad 4) C', wHo G.2.1 (ad 3) cu ct (hput hs cu (b, P)), hsL G.2.1 (hput hs cu (b, P))]) h9 5 [0, 1, 2, 3, 4] rfl rfl rfl
  have w : Wd G A s.heap (fl [wXo G.2.1 (ad 0) (xF ad) svx K, wSh G.2.1 (ad 1) S', wTe G.2.1 (ad 4) C', wHo G.2.1 (ad 3) cu ct (hput hs cu (b, P)), hsL G.2.1 (hput hs cu (b, P))]) _ _ := w
  refine lv_istore_n (lv' := [(2, .int (nI mm)), (1, .int (nI mm)), (0, .ref ((ad 0) 0))]) F.x F.b dX6_execute_57 rfl hl (by decide) rfl (fun ls hl => ?_)
  refine lv_aload_n F.x F.b dX6_execute_58 rfl (lv_at hl 2 rfl) ?_
  refine rg F w cl6 0 rfl 3 (by decide) q263 rfl (v := .ref ((ad 4) 0)) rfl dX6_execute_59 ?_
  refine kXv F w hst (LC := [wTe G.2.1 (ad 4) C']) (LR := [wXo G.2.1 (ad 0) (xF ad) svx K, wSh G.2.1 (ad 1) S', wHo G.2.1 (ad 3) cu ct (hput hs cu (b, P)), hsL G.2.1 (hput hs cu (b, P))]) (As := []) (rest := []) (t_X1_clear F.1 (C' := wrI C' 0 0) rfl).toX m_X1_clear v_X1_clear q1102 (ci := 5) (q0 := 15) rfl rfl rfl 5 [2, 0, 1, 3, 4] rfl rfl rfl ⟨Nat.le_of_ble_eq_true rfl, Nat.le_of_ble_eq_true rfl⟩ rfl hl.1 rfl (Nat.le_of_ble_eq_true rfl) dX6_execute_62 ⟨Nat.le_of_ble_eq_true rfl, Nat.le_of_ble_eq_true rfl⟩ (fun _ _ _ _ _ _ hx => False.elim hx) (fun w1 H locs h9 w => ?_)
  have w := w.jn (L1 := [wTe G.2.1 (ad 4) (wrI C' 0 0)]) (L' := [wXo G.2.1 (ad 0) (xF ad) svx K, wSh G.2.1 (ad 1) S', wTe G.2.1 (ad 4) (wrI C' 0 0), wHo G.2.1 (ad 3) cu ct (hput hs cu (b, P)), hsL G.2.1 (hput hs cu (b, P))]) h9 5 [1, 2, 0, 3, 4] rfl rfl rfl
  have w : Wd G A s.heap (fl [wXo G.2.1 (ad 0) (xF ad) svx K, wSh G.2.1 (ad 1) S', wTe G.2.1 (ad 4) (wrI C' 0 0), wHo G.2.1 (ad 3) cu ct (hput hs cu (b, P)), hsL G.2.1 (hput hs cu (b, P))]) _ _ := w
  refine lv_iload_n F.x F.b dX6_execute_65 rfl (lv_at hl 0 rfl) ?_
  refine lv_iload_n F.x F.b dX6_execute_66 rfl (lv_at hl 1 rfl) ?_
  refine lv_icmp_ge (tgt := 97) F.x F.b dX6_execute_67 (by decide) (fun _ => ?_) (fun c9 => absurd (Int32.le_refl (nI mm)) c9)
  refine lv_aload_n F.x F.b dX6_execute_97 rfl (lv_at hl 2 rfl) ?_
  refine rg F w cl6 0 rfl 2 (by decide) q262 rfl (v := .ref ((ad 3) 0)) rfl dX6_execute_98 ?_
  refine kXv F w hst (LC := [wHo G.2.1 (ad 3) cu ct (hput hs cu (b, P))]) (LR := [wXo G.2.1 (ad 0) (xF ad) svx K, wSh G.2.1 (ad 1) S', wTe G.2.1 (ad 4) (wrI C' 0 0), hsL G.2.1 (hput hs cu (b, P))]) (As := []) (rest := []) (t_X2_keepPrepared F.1 k1 k2) m_X2_keepPrepared v_X2_keepPrepared q683 (ci := 6) (q0 := 18) rfl rfl rfl 5 [3, 0, 1, 2, 4] rfl rfl rfl ⟨Nat.le_of_ble_eq_true rfl, Nat.le_of_ble_eq_true rfl⟩ rfl hl.1 rfl (Nat.le_of_ble_eq_true rfl) dX6_execute_101 ⟨Nat.le_of_ble_eq_true rfl, Nat.le_of_ble_eq_true rfl⟩ (fun _ _ _ _ _ _ hx => False.elim hx) (fun w1 H locs h9 w => ?_)
  have w := w.jn (L1 := [wHo G.2.1 (ad 3) (nxt cu) (cap ct) (hput hs cu (b, P))]) (L' := [wXo G.2.1 (ad 0) (xF ad) svx K, wSh G.2.1 (ad 1) S', wTe G.2.1 (ad 4) (wrI C' 0 0), wHo G.2.1 (ad 3) (nxt cu) (cap ct) (hput hs cu (b, P)), hsL G.2.1 (hput hs cu (b, P))]) h9 5 [1, 2, 3, 0, 4] rfl rfl rfl
  have w : Wd G A s.heap (fl [wXo G.2.1 (ad 0) (xF ad) svx K, wSh G.2.1 (ad 1) S', wTe G.2.1 (ad 4) (wrI C' 0 0), wHo G.2.1 (ad 3) (nxt cu) (cap ct) (hput hs cu (b, P)), hsL G.2.1 (hput hs cu (b, P))]) _ _ := w
  refine lv_iload_n F.x F.b dX6_execute_104 rfl (lv_at hl 1 rfl) ?_
  exact eiX F w hr hlocks rfl ⟨rfl, b, P, ⟨P0, hP⟩, rfl⟩ (Nat.le_of_ble_eq_true rfl) (Nat.le_of_ble_eq_true rfl) dX6_execute_105

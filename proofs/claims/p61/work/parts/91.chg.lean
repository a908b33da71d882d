/-! printed by wip/p61/tools/gen91.py: the changes, exact -/
theorem q616 : Cond.methodLink RX6 57 yX2_prepare ∈ lw_tbl := List.mem_of_getElem? (i := 616) (by decide +kernel)
theorem q622 : Cond.methodLink RX6 61 yX4_takeIn ∈ lw_tbl := List.mem_of_getElem? (i := 622) (by decide +kernel)
theorem q638 : Cond.methodLink RX6 65 yX6_settle ∈ lw_tbl := List.mem_of_getElem? (i := 638) (by decide +kernel)
theorem q694 : Cond.methodLink RX6 223 yX4_auditFirst ∈ lw_tbl := List.mem_of_getElem? (i := 694) (by decide +kernel)
theorem q706 : Cond.methodLink RX6 236 yX4_takeCoins ∈ lw_tbl := List.mem_of_getElem? (i := 706) (by decide +kernel)
theorem q717 : Cond.methodLink RX6 69 yX4_sealLot ∈ lw_tbl := List.mem_of_getElem? (i := 717) (by decide +kernel)
theorem q739 : Cond.methodLink RX6 161 yX5_insert ∈ lw_tbl := List.mem_of_getElem? (i := 739) (by decide +kernel)
theorem q754 : Cond.methodLink RX6 166 yX5_remove ∈ lw_tbl := List.mem_of_getElem? (i := 754) (by decide +kernel)
theorem q765 : Cond.methodLink RX6 72 yX4_openLot ∈ lw_tbl := List.mem_of_getElem? (i := 765) (by decide +kernel)
theorem q776 : Cond.methodLink RX6 75 yX4_wetLot ∈ lw_tbl := List.mem_of_getElem? (i := 776) (by decide +kernel)
theorem q788 : Cond.methodLink RX6 78 yX4_moveLot ∈ lw_tbl := List.mem_of_getElem? (i := 788) (by decide +kernel)
theorem q1158 : Cond.methodLink RX6 220 yX4_queueLot ∈ lw_tbl := List.mem_of_getElem? (i := 1158) (by decide +kernel)
theorem q1166 : Cond.methodLink RX6 239 yX4_releaseLot ∈ lw_tbl := List.mem_of_getElem? (i := 1166) (by decide +kernel)
theorem m_X2_prepare : YM yX2_prepare cX2_prepare 3 (none) 1 := ⟨⟨List.mem_of_getElem? (i := 619) (by decide +kernel), by decide +kernel⟩, List.mem_of_getElem? (i := 20) (by decide +kernel), ⟨by decide, by decide⟩, by decide +kernel⟩
theorem v_X2_prepare : YV yX2_prepare := ⟨(List.mem_of_getElem? (i := 617) (by decide +kernel)), List.mem_of_getElem? (i := 618) (by decide +kernel)⟩
theorem m_X6_settle : YM yX6_settle cX6_settle 2 (some (.int)) 1 := ⟨⟨List.mem_of_getElem? (i := 641) (by decide +kernel), by decide +kernel⟩, List.mem_of_getElem? (i := 15) (by decide +kernel), ⟨by decide, by decide⟩, by decide +kernel⟩
theorem v_X6_settle : YV yX6_settle := ⟨(List.mem_of_getElem? (i := 640) (by decide +kernel)), List.mem_of_getElem? (i := 6) (by decide +kernel)⟩
theorem m_X5_remove : YM yX5_remove cX5_remove 5 (some (.int)) 1 := ⟨⟨List.mem_of_getElem? (i := 757) (by decide +kernel), by decide +kernel⟩, List.mem_of_getElem? (i := 18) (by decide +kernel), ⟨by decide, by decide⟩, by decide +kernel⟩
theorem v_X5_remove : YV yX5_remove := ⟨(List.mem_of_getElem? (i := 755) (by decide +kernel)), List.mem_of_getElem? (i := 756) (by decide +kernel)⟩
/-- what a change touches: the class, its state, its history -/
def wCh (T : Nat → ClassId) (ad : Nat → Nat → Nat) (svx : Value) (K S : Mem) (cu ct : Nat) (hs : hS) : List va_W := [wXo T (ad 0) (xF ad) svx K, wSh T (ad 1) S, wHo T (ad 3) cu ct hs, hsL T hs]
/-- P is a copy of S -/
def CpS (S P : Mem) : Prop := ∃ P0, f_X4_copyFrom P0 S = some P
/-- refused: the state stands, the free place of the history holds a copy of it -/
def NoW (G : cG) (ad : Nat → Nat → Nat) (svx : Value) (K S : Mem) (cu ct : Nat) (hs : hS) (w1 : va_W) : Prop := ∃ (b : Nat → Nat) (P : Mem), CpS S P ∧ w1 = fl (wCh G.2.1 ad svx K S cu ct (hput hs cu (b, P)))
/-- done -/
def YeW (G : cG) (ad : Nat → Nat → Nat) (svx : Value) (K S S' : Mem) (cu ct : Nat) (hs : hS) (w1 : va_W) : Prop := ∃ (b : Nat → Nat) (P : Mem), CpS S P ∧ w1 = fl (wCh G.2.1 ad svx K S' (nxt cu) (cap ct) (hput hs cu (b, P)))
set_option maxRecDepth 100000 in
set_option maxHeartbeats 4000000 in
theorem k_addLot_no {G : cG} (g : GOK G) (gM : MG G) {ad : Nat → Nat → Nat} {svx : Value} {K S : Mem} {cu ct : Nat} {hs : hS} {x1 x2 x3 x4 : Int32} {E : String} (k1 : cu < 9) (hcp : ∀ P0, ∃ P, f_X4_copyFrom P0 S = some P) (e1 : f_X4_takeIn S x1 x2 x3 x4 = some (numE E, S)) (hE : E ∈ excL) : CX G yX6_addLot cX6_addLot 5 .int 8 123 15 167 [.ref ((ad 0) 0), .int x1, .int x2, .int x3, .int x4] (fl [wXo G.2.1 (ad 0) (xF ad) svx K, wSh G.2.1 (ad 1) S, wHo G.2.1 (ad 3) cu ct hs, hsL G.2.1 hs]) (fun _ _ => False) (fun E' w1 => E' = E ∧ NoW G ad svx K S cu ct hs w1) := by
  refine CX.of g (by decide) rfl (Nat.le_of_ble_eq_true rfl) ?_
  intro p l e s m below meth c A ls hst htab F hr hlocks w hl
  generalize ([.ref ((ad 0) 0), .int x1, .int x2, .int x3, .int x4] : List Value).toArray = args
  have hl : lv_has ls 5 [(0, .ref ((ad 0) 0)), (1, .int x1), (2, .int x2), (3, .int x3), (4, .int x4)] := hl
  have w : Wd G A s.heap (fl [wXo G.2.1 (ad 0) (xF ad) svx K, wSh G.2.1 (ad 1) S, wHo G.2.1 (ad 3) cu ct hs, hsL G.2.1 hs]) _ _ := w
  refine lv_aload_n F.x F.b dX6_addLot_0 rfl (lv_at hl 0 rfl) ?_
  refine rg F w cl6 0 rfl 2 (by decide) q262 rfl (v := .ref ((ad 3) 0)) rfl dX6_addLot_1 ?_
  refine lv_aload_n F.x F.b dX6_addLot_4 rfl (lv_at hl 0 rfl) ?_
  refine rg F w cl6 0 rfl 0 (by decide) q260 rfl (v := .ref ((ad 1) 0)) rfl dX6_addLot_5 ?_
  refine kXv F w hst (LC := [wHo G.2.1 (ad 3) cu ct hs, hsL G.2.1 hs, wSh G.2.1 (ad 1) S]) (LR := [wXo G.2.1 (ad 0) (xF ad) svx K]) (As := [.ref ((ad 1) 0)]) (rest := []) (t_X2_prepare F.1 k1 hcp) m_X2_prepare v_X2_prepare q616 (ci := 6) (q0 := 15) rfl rfl rfl 4 [2, 3, 1, 0] rfl rfl rfl ⟨Nat.le_of_ble_eq_true rfl, Nat.le_of_ble_eq_true rfl⟩ rfl hl.1 rfl (Nat.le_of_ble_eq_true rfl) dX6_addLot_8 ⟨Nat.le_of_ble_eq_true rfl, Nat.le_of_ble_eq_true rfl⟩ (fun _ _ _ _ _ _ hx => False.elim hx) (fun w1 H locs h9 w => ?_)
  obtain ⟨b, P, ⟨P0, hP⟩, h9⟩ := h9
  have w := w.jn (L1 := [wHo G.2.1 (ad 3) cu ct (hput hs cu (b, P)), hsL G.2.1 (hput hs cu (b, P)), wSh G.2.1 (ad 1) S]) (L' := [wXo G.2.1 (ad 0) (xF ad) svx K, wSh G.2.1 (ad 1) S, wHo G.2.1 (ad 3) cu ct (hput hs cu (b, P)), hsL G.2.1 (hput hs cu (b, P))]) h9 4 [3, 2, 0, 1] rfl rfl rfl
  have w : Wd G A s.heap (fl [wXo G.2.1 (ad 0) (xF ad) svx K, wSh G.2.1 (ad 1) S, wHo G.2.1 (ad 3) cu ct (hput hs cu (b, P)), hsL G.2.1 (hput hs cu (b, P))]) _ _ := w
  refine lv_aload_n F.x F.b dX6_addLot_11 rfl (lv_at hl 0 rfl) ?_
  refine lv_aload_n F.x F.b dX6_addLot_12 rfl (lv_at hl 0 rfl) ?_
  refine rg F w cl6 0 rfl 0 (by decide) q260 rfl (v := .ref ((ad 1) 0)) rfl dX6_addLot_13 ?_
  refine lv_iload_n F.x F.b dX6_addLot_16 rfl (lv_at hl 1 rfl) ?_
  refine lv_iload_n F.x F.b dX6_addLot_17 rfl (lv_at hl 2 rfl) ?_
  refine lv_iload_n F.x F.b dX6_addLot_18 rfl (lv_at hl 3 rfl) ?_
  refine lv_iload F.x F.b dX6_addLot_19 (lv_at hl 4 rfl) ?_
  refine kXi F w hst (LC := [wSh G.2.1 (ad 1) S]) (LR := [wXo G.2.1 (ad 0) (xF ad) svx K, wHo G.2.1 (ad 3) cu ct (hput hs cu (b, P)), hsL G.2.1 (hput hs cu (b, P))]) (As := [.int x1, .int x2, .int x3, .int x4]) (rest := [.ref ((ad 0) 0)]) (t_X4_takeIn F.1 e1).toX m_X4_takeIn v_X4_takeIn q622 (ci := 8) (q0 := 1) rfl rfl rfl 4 [1, 0, 2, 3] rfl rfl rfl ⟨Nat.le_of_ble_eq_true rfl, Nat.le_of_ble_eq_true rfl⟩ rfl hl.1 rfl (Nat.le_of_ble_eq_true rfl) dX6_addLot_21 ⟨Nat.le_of_ble_eq_true rfl, Nat.le_of_ble_eq_true rfl⟩ (fun _ _ _ _ _ _ hx => False.elim hx) (fun r9 w1 H locs h9 w => ?_)
  obtain ⟨rfl, h9⟩ := h9
  have w := w.jn (L1 := [wSh G.2.1 (ad 1) S]) (L' := [wXo G.2.1 (ad 0) (xF ad) svx K, wSh G.2.1 (ad 1) S, wHo G.2.1 (ad 3) cu ct (hput hs cu (b, P)), hsL G.2.1 (hput hs cu (b, P))]) h9 4 [1, 0, 2, 3] rfl rfl rfl
  refine kXi F w hst (LC := [wXo G.2.1 (ad 0) (xF ad) svx K, wHo G.2.1 (ad 3) cu ct (hput hs cu (b, P))]) (LR := [wSh G.2.1 (ad 1) S, hsL G.2.1 (hput hs cu (b, P))]) (As := [.int (numE E)]) (rest := []) (t_X6_settle_no F.1 gM hE) m_X6_settle v_X6_settle q638 (ci := 10) (q0 := 0) rfl rfl rfl 4 [0, 2, 1, 3] rfl rfl rfl ⟨Nat.le_of_ble_eq_true rfl, Nat.le_of_ble_eq_true rfl⟩ rfl hl.1 rfl (Nat.le_of_ble_eq_true rfl) dX6_addLot_24 ⟨Nat.le_of_ble_eq_true rfl, Nat.le_of_ble_eq_true rfl⟩ (fun E w1 ce q H locs hx w hce hcv hcl => by obtain ⟨rfl, hx⟩ := hx; exact exX (w.jn (L1 := [wXo G.2.1 (ad 0) (xF ad) svx K, wHo G.2.1 (ad 3) cu ct (hput hs cu (b, P))]) (L' := [wXo G.2.1 (ad 0) (xF ad) svx K, wSh G.2.1 (ad 1) S, wHo G.2.1 (ad 3) cu ct (hput hs cu (b, P)), hsL G.2.1 (hput hs cu (b, P))]) hx 4 [0, 2, 1, 3] rfl rfl rfl) htab hlocks hce hcv hcl ⟨rfl, b, P, ⟨P0, hP⟩, rfl⟩ (Nat.le_of_ble_eq_true rfl) (Nat.le_of_ble_eq_true rfl)) (fun r9 w1 H locs h9 w => ?_)
  exact False.elim h9
set_option maxRecDepth 100000 in
set_option maxHeartbeats 4000000 in
theorem k_addLot_ok {G : cG} (g : GOK G) {ad : Nat → Nat → Nat} {svx : Value} {K S S' : Mem} {cu ct : Nat} {hs : hS} {x1 x2 x3 x4 : Int32} {r : Nat} (k1 : cu < 9) (hcp : ∀ P0, ∃ P, f_X4_copyFrom P0 S = some P) (k2 : ct ≤ 8) (hr9 : r < 2 ^ 31) (e1 : f_X4_takeIn S x1 x2 x3 x4 = some (nI r, S')) : CX G yX6_addLot cX6_addLot 5 .int 4 88 14 161 [.ref ((ad 0) 0), .int x1, .int x2, .int x3, .int x4] (fl [wXo G.2.1 (ad 0) (xF ad) svx K, wSh G.2.1 (ad 1) S, wHo G.2.1 (ad 3) cu ct hs, hsL G.2.1 hs]) (fun r9 w1 => r9 = nI r ∧ YeW G ad svx K S S' cu ct hs w1) (fun _ _ => False) := by
  refine CX.of g (by decide) rfl (Nat.le_of_ble_eq_true rfl) ?_
  intro p l e s m below meth c A ls hst htab F hr hlocks w hl
  generalize ([.ref ((ad 0) 0), .int x1, .int x2, .int x3, .int x4] : List Value).toArray = args
  have hl : lv_has ls 5 [(0, .ref ((ad 0) 0)), (1, .int x1), (2, .int x2), (3, .int x3), (4, .int x4)] := hl
  have w : Wd G A s.heap (fl [wXo G.2.1 (ad 0) (xF ad) svx K, wSh G.2.1 (ad 1) S, wHo G.2.1 (ad 3) cu ct hs, hsL G.2.1 hs]) _ _ := w
  refine lv_aload_n F.x F.b dX6_addLot_0 rfl (lv_at hl 0 rfl) ?_
  refine rg F w cl6 0 rfl 2 (by decide) q262 rfl (v := .ref ((ad 3) 0)) rfl dX6_addLot_1 ?_
  refine lv_aload_n F.x F.b dX6_addLot_4 rfl (lv_at hl 0 rfl) ?_
  refine rg F w cl6 0 rfl 0 (by decide) q260 rfl (v := .ref ((ad 1) 0)) rfl dX6_addLot_5 ?_
  refine kXv F w hst (LC := [wHo G.2.1 (ad 3) cu ct hs, hsL G.2.1 hs, wSh G.2.1 (ad 1) S]) (LR := [wXo G.2.1 (ad 0) (xF ad) svx K]) (As := [.ref ((ad 1) 0)]) (rest := []) (t_X2_prepare F.1 k1 hcp) m_X2_prepare v_X2_prepare q616 (ci := 6) (q0 := 15) rfl rfl rfl 4 [2, 3, 1, 0] rfl rfl rfl ⟨Nat.le_of_ble_eq_true rfl, Nat.le_of_ble_eq_true rfl⟩ rfl hl.1 rfl (Nat.le_of_ble_eq_true rfl) dX6_addLot_8 ⟨Nat.le_of_ble_eq_true rfl, Nat.le_of_ble_eq_true rfl⟩ (fun _ _ _ _ _ _ hx => False.elim hx) (fun w1 H locs h9 w => ?_)
  obtain ⟨b, P, ⟨P0, hP⟩, h9⟩ := h9
  have w := w.jn (L1 := [wHo G.2.1 (ad 3) cu ct (hput hs cu (b, P)), hsL G.2.1 (hput hs cu (b, P)), wSh G.2.1 (ad 1) S]) (L' := [wXo G.2.1 (ad 0) (xF ad) svx K, wSh G.2.1 (ad 1) S, wHo G.2.1 (ad 3) cu ct (hput hs cu (b, P)), hsL G.2.1 (hput hs cu (b, P))]) h9 4 [3, 2, 0, 1] rfl rfl rfl
  have w : Wd G A s.heap (fl [wXo G.2.1 (ad 0) (xF ad) svx K, wSh G.2.1 (ad 1) S, wHo G.2.1 (ad 3) cu ct (hput hs cu (b, P)), hsL G.2.1 (hput hs cu (b, P))]) _ _ := w
  refine lv_aload_n F.x F.b dX6_addLot_11 rfl (lv_at hl 0 rfl) ?_
  refine lv_aload_n F.x F.b dX6_addLot_12 rfl (lv_at hl 0 rfl) ?_
  refine rg F w cl6 0 rfl 0 (by decide) q260 rfl (v := .ref ((ad 1) 0)) rfl dX6_addLot_13 ?_
  refine lv_iload_n F.x F.b dX6_addLot_16 rfl (lv_at hl 1 rfl) ?_
  refine lv_iload_n F.x F.b dX6_addLot_17 rfl (lv_at hl 2 rfl) ?_
  refine lv_iload_n F.x F.b dX6_addLot_18 rfl (lv_at hl 3 rfl) ?_
  refine lv_iload F.x F.b dX6_addLot_19 (lv_at hl 4 rfl) ?_
  refine kXi F w hst (LC := [wSh G.2.1 (ad 1) S]) (LR := [wXo G.2.1 (ad 0) (xF ad) svx K, wHo G.2.1 (ad 3) cu ct (hput hs cu (b, P)), hsL G.2.1 (hput hs cu (b, P))]) (As := [.int x1, .int x2, .int x3, .int x4]) (rest := [.ref ((ad 0) 0)]) (t_X4_takeIn F.1 e1).toX m_X4_takeIn v_X4_takeIn q622 (ci := 8) (q0 := 1) rfl rfl rfl 4 [1, 0, 2, 3] rfl rfl rfl ⟨Nat.le_of_ble_eq_true rfl, Nat.le_of_ble_eq_true rfl⟩ rfl hl.1 rfl (Nat.le_of_ble_eq_true rfl) dX6_addLot_21 ⟨Nat.le_of_ble_eq_true rfl, Nat.le_of_ble_eq_true rfl⟩ (fun _ _ _ _ _ _ hx => False.elim hx) (fun r9 w1 H locs h9 w => ?_)
  obtain ⟨rfl, h9⟩ := h9
  have w := w.jn (L1 := [wSh G.2.1 (ad 1) S']) (L' := [wXo G.2.1 (ad 0) (xF ad) svx K, wSh G.2.1 (ad 1) S', wHo G.2.1 (ad 3) cu ct (hput hs cu (b, P)), hsL G.2.1 (hput hs cu (b, P))]) h9 4 [1, 0, 2, 3] rfl rfl rfl
  refine kXi F w hst (LC := [wXo G.2.1 (ad 0) (xF ad) svx K, wHo G.2.1 (ad 3) cu ct (hput hs cu (b, P))]) (LR := [wSh G.2.1 (ad 1) S', hsL G.2.1 (hput hs cu (b, P))]) (As := [.int (nI r)]) (rest := []) (t_X6_settle_ok F.1 hr9 k1 k2) m_X6_settle v_X6_settle q638 (ci := 10) (q0 := 0) rfl rfl rfl 4 [0, 2, 1, 3] rfl rfl rfl ⟨Nat.le_of_ble_eq_true rfl, Nat.le_of_ble_eq_true rfl⟩ rfl hl.1 rfl (Nat.le_of_ble_eq_true rfl) dX6_addLot_24 ⟨Nat.le_of_ble_eq_true rfl, Nat.le_of_ble_eq_true rfl⟩ (fun _ _ _ _ _ _ hx => False.elim hx) (fun r9 w1 H locs h9 w => ?_)
  obtain ⟨rfl, h9⟩ := h9
  have w := w.jn (L1 := [wXo G.2.1 (ad 0) (xF ad) svx K, wHo G.2.1 (ad 3) (nxt cu) (cap ct) (hput hs cu (b, P))]) (L' := [wXo G.2.1 (ad 0) (xF ad) svx K, wSh G.2.1 (ad 1) S', wHo G.2.1 (ad 3) (nxt cu) (cap ct) (hput hs cu (b, P)), hsL G.2.1 (hput hs cu (b, P))]) h9 4 [0, 2, 1, 3] rfl rfl rfl
  exact eiX F w hr hlocks rfl ⟨rfl, b, P, ⟨P0, hP⟩, rfl⟩ (Nat.le_of_ble_eq_true rfl) (Nat.le_of_ble_eq_true rfl) dX6_addLot_27
set_option maxRecDepth 100000 in
set_option maxHeartbeats 4000000 in
theorem k_seal_no {G : cG} (g : GOK G) (gM : MG G) {ad : Nat → Nat → Nat} {svx : Value} {K S : Mem} {cu ct : Nat} {hs : hS} {x1 : Int32} {E : String} (k1 : cu < 9) (hcp : ∀ P0, ∃ P, f_X4_copyFrom P0 S = some P) (e1 : f_X4_sealLot S x1 = some (numE E, S)) (hE : E ∈ excL) : CX G yX6_seal cX6_seal 2 .int 8 123 15 167 [.ref ((ad 0) 0), .int x1] (fl [wXo G.2.1 (ad 0) (xF ad) svx K, wSh G.2.1 (ad 1) S, wHo G.2.1 (ad 3) cu ct hs, hsL G.2.1 hs]) (fun _ _ => False) (fun E' w1 => E' = E ∧ NoW G ad svx K S cu ct hs w1) := by
  refine CX.of g (by decide) rfl (Nat.le_of_ble_eq_true rfl) ?_
  intro p l e s m below meth c A ls hst htab F hr hlocks w hl
  generalize ([.ref ((ad 0) 0), .int x1] : List Value).toArray = args
  have hl : lv_has ls 2 [(0, .ref ((ad 0) 0)), (1, .int x1)] := hl
  have w : Wd G A s.heap (fl [wXo G.2.1 (ad 0) (xF ad) svx K, wSh G.2.1 (ad 1) S, wHo G.2.1 (ad 3) cu ct hs, hsL G.2.1 hs]) _ _ := w
  refine lv_aload_n F.x F.b dX6_seal_0 rfl (lv_at hl 0 rfl) ?_
  refine rg F w cl6 0 rfl 2 (by decide) q262 rfl (v := .ref ((ad 3) 0)) rfl dX6_seal_1 ?_
  refine lv_aload_n F.x F.b dX6_seal_4 rfl (lv_at hl 0 rfl) ?_
  refine rg F w cl6 0 rfl 0 (by decide) q260 rfl (v := .ref ((ad 1) 0)) rfl dX6_seal_5 ?_
  refine kXv F w hst (LC := [wHo G.2.1 (ad 3) cu ct hs, hsL G.2.1 hs, wSh G.2.1 (ad 1) S]) (LR := [wXo G.2.1 (ad 0) (xF ad) svx K]) (As := [.ref ((ad 1) 0)]) (rest := []) (t_X2_prepare F.1 k1 hcp) m_X2_prepare v_X2_prepare q616 (ci := 6) (q0 := 15) rfl rfl rfl 4 [2, 3, 1, 0] rfl rfl rfl ⟨Nat.le_of_ble_eq_true rfl, Nat.le_of_ble_eq_true rfl⟩ rfl hl.1 rfl (Nat.le_of_ble_eq_true rfl) dX6_seal_8 ⟨Nat.le_of_ble_eq_true rfl, Nat.le_of_ble_eq_true rfl⟩ (fun _ _ _ _ _ _ hx => False.elim hx) (fun w1 H locs h9 w => ?_)
  obtain ⟨b, P, ⟨P0, hP⟩, h9⟩ := h9
  have w := w.jn (L1 := [wHo G.2.1 (ad 3) cu ct (hput hs cu (b, P)), hsL G.2.1 (hput hs cu (b, P)), wSh G.2.1 (ad 1) S]) (L' := [wXo G.2.1 (ad 0) (xF ad) svx K, wSh G.2.1 (ad 1) S, wHo G.2.1 (ad 3) cu ct (hput hs cu (b, P)), hsL G.2.1 (hput hs cu (b, P))]) h9 4 [3, 2, 0, 1] rfl rfl rfl
  have w : Wd G A s.heap (fl [wXo G.2.1 (ad 0) (xF ad) svx K, wSh G.2.1 (ad 1) S, wHo G.2.1 (ad 3) cu ct (hput hs cu (b, P)), hsL G.2.1 (hput hs cu (b, P))]) _ _ := w
  refine lv_aload_n F.x F.b dX6_seal_11 rfl (lv_at hl 0 rfl) ?_
  refine lv_aload_n F.x F.b dX6_seal_12 rfl (lv_at hl 0 rfl) ?_
  refine rg F w cl6 0 rfl 0 (by decide) q260 rfl (v := .ref ((ad 1) 0)) rfl dX6_seal_13 ?_
  refine lv_iload_n F.x F.b dX6_seal_16 rfl (lv_at hl 1 rfl) ?_
  refine kXi F w hst (LC := [wSh G.2.1 (ad 1) S]) (LR := [wXo G.2.1 (ad 0) (xF ad) svx K, wHo G.2.1 (ad 3) cu ct (hput hs cu (b, P)), hsL G.2.1 (hput hs cu (b, P))]) (As := [.int x1]) (rest := [.ref ((ad 0) 0)]) (t_X4_sealLot F.1 e1).toX m_X4_sealLot v_X4_sealLot q717 (ci := 8) (q0 := 1) rfl rfl rfl 4 [1, 0, 2, 3] rfl rfl rfl ⟨Nat.le_of_ble_eq_true rfl, Nat.le_of_ble_eq_true rfl⟩ rfl hl.1 rfl (Nat.le_of_ble_eq_true rfl) dX6_seal_17 ⟨Nat.le_of_ble_eq_true rfl, Nat.le_of_ble_eq_true rfl⟩ (fun _ _ _ _ _ _ hx => False.elim hx) (fun r9 w1 H locs h9 w => ?_)
  obtain ⟨rfl, h9⟩ := h9
  have w := w.jn (L1 := [wSh G.2.1 (ad 1) S]) (L' := [wXo G.2.1 (ad 0) (xF ad) svx K, wSh G.2.1 (ad 1) S, wHo G.2.1 (ad 3) cu ct (hput hs cu (b, P)), hsL G.2.1 (hput hs cu (b, P))]) h9 4 [1, 0, 2, 3] rfl rfl rfl
  refine kXi F w hst (LC := [wXo G.2.1 (ad 0) (xF ad) svx K, wHo G.2.1 (ad 3) cu ct (hput hs cu (b, P))]) (LR := [wSh G.2.1 (ad 1) S, hsL G.2.1 (hput hs cu (b, P))]) (As := [.int (numE E)]) (rest := []) (t_X6_settle_no F.1 gM hE) m_X6_settle v_X6_settle q638 (ci := 10) (q0 := 0) rfl rfl rfl 4 [0, 2, 1, 3] rfl rfl rfl ⟨Nat.le_of_ble_eq_true rfl, Nat.le_of_ble_eq_true rfl⟩ rfl hl.1 rfl (Nat.le_of_ble_eq_true rfl) dX6_seal_20 ⟨Nat.le_of_ble_eq_true rfl, Nat.le_of_ble_eq_true rfl⟩ (fun E w1 ce q H locs hx w hce hcv hcl => by obtain ⟨rfl, hx⟩ := hx; exact exX (w.jn (L1 := [wXo G.2.1 (ad 0) (xF ad) svx K, wHo G.2.1 (ad 3) cu ct (hput hs cu (b, P))]) (L' := [wXo G.2.1 (ad 0) (xF ad) svx K, wSh G.2.1 (ad 1) S, wHo G.2.1 (ad 3) cu ct (hput hs cu (b, P)), hsL G.2.1 (hput hs cu (b, P))]) hx 4 [0, 2, 1, 3] rfl rfl rfl) htab hlocks hce hcv hcl ⟨rfl, b, P, ⟨P0, hP⟩, rfl⟩ (Nat.le_of_ble_eq_true rfl) (Nat.le_of_ble_eq_true rfl)) (fun r9 w1 H locs h9 w => ?_)
  exact False.elim h9
set_option maxRecDepth 100000 in
set_option maxHeartbeats 4000000 in
theorem k_seal_ok {G : cG} (g : GOK G) {ad : Nat → Nat → Nat} {svx : Value} {K S S' : Mem} {cu ct : Nat} {hs : hS} {x1 : Int32} {r : Nat} (k1 : cu < 9) (hcp : ∀ P0, ∃ P, f_X4_copyFrom P0 S = some P) (k2 : ct ≤ 8) (hr9 : r < 2 ^ 31) (e1 : f_X4_sealLot S x1 = some (nI r, S')) : CX G yX6_seal cX6_seal 2 .int 4 88 14 161 [.ref ((ad 0) 0), .int x1] (fl [wXo G.2.1 (ad 0) (xF ad) svx K, wSh G.2.1 (ad 1) S, wHo G.2.1 (ad 3) cu ct hs, hsL G.2.1 hs]) (fun r9 w1 => r9 = nI r ∧ YeW G ad svx K S S' cu ct hs w1) (fun _ _ => False) := by
  refine CX.of g (by decide) rfl (Nat.le_of_ble_eq_true rfl) ?_
  intro p l e s m below meth c A ls hst htab F hr hlocks w hl
  generalize ([.ref ((ad 0) 0), .int x1] : List Value).toArray = args
  have hl : lv_has ls 2 [(0, .ref ((ad 0) 0)), (1, .int x1)] := hl
  have w : Wd G A s.heap (fl [wXo G.2.1 (ad 0) (xF ad) svx K, wSh G.2.1 (ad 1) S, wHo G.2.1 (ad 3) cu ct hs, hsL G.2.1 hs]) _ _ := w
  refine lv_aload_n F.x F.b dX6_seal_0 rfl (lv_at hl 0 rfl) ?_
  refine rg F w cl6 0 rfl 2 (by decide) q262 rfl (v := .ref ((ad 3) 0)) rfl dX6_seal_1 ?_
  refine lv_aload_n F.x F.b dX6_seal_4 rfl (lv_at hl 0 rfl) ?_
  refine rg F w cl6 0 rfl 0 (by decide) q260 rfl (v := .ref ((ad 1) 0)) rfl dX6_seal_5 ?_
  refine kXv F w hst (LC := [wHo G.2.1 (ad 3) cu ct hs, hsL G.2.1 hs, wSh G.2.1 (ad 1) S]) (LR := [wXo G.2.1 (ad 0) (xF ad) svx K]) (As := [.ref ((ad 1) 0)]) (rest := []) (t_X2_prepare F.1 k1 hcp) m_X2_prepare v_X2_prepare q616 (ci := 6) (q0 := 15) rfl rfl rfl 4 [2, 3, 1, 0] rfl rfl rfl ⟨Nat.le_of_ble_eq_true rfl, Nat.le_of_ble_eq_true rfl⟩ rfl hl.1 rfl (Nat.le_of_ble_eq_true rfl) dX6_seal_8 ⟨Nat.le_of_ble_eq_true rfl, Nat.le_of_ble_eq_true rfl⟩ (fun _ _ _ _ _ _ hx => False.elim hx) (fun w1 H locs h9 w => ?_)
  obtain ⟨b, P, ⟨P0, hP⟩, h9⟩ := h9
  have w := w.jn (L1 := [wHo G.2.1 (ad 3) cu ct (hput hs cu (b, P)), hsL G.2.1 (hput hs cu (b, P)), wSh G.2.1 (ad 1) S]) (L' := [wXo G.2.1 (ad 0) (xF ad) svx K, wSh G.2.1 (ad 1) S, wHo G.2.1 (ad 3) cu ct (hput hs cu (b, P)), hsL G.2.1 (hput hs cu (b, P))]) h9 4 [3, 2, 0, 1] rfl rfl rfl
  have w : Wd G A s.heap (fl [wXo G.2.1 (ad 0) (xF ad) svx K, wSh G.2.1 (ad 1) S, wHo G.2.1 (ad 3) cu ct (hput hs cu (b, P)), hsL G.2.1 (hput hs cu (b, P))]) _ _ := w
  refine lv_aload_n F.x F.b dX6_seal_11 rfl (lv_at hl 0 rfl) ?_
  refine lv_aload_n F.x F.b dX6_seal_12 rfl (lv_at hl 0 rfl) ?_
  refine rg F w cl6 0 rfl 0 (by decide) q260 rfl (v := .ref ((ad 1) 0)) rfl dX6_seal_13 ?_
  refine lv_iload_n F.x F.b dX6_seal_16 rfl (lv_at hl 1 rfl) ?_
  refine kXi F w hst (LC := [wSh G.2.1 (ad 1) S]) (LR := [wXo G.2.1 (ad 0) (xF ad) svx K, wHo G.2.1 (ad 3) cu ct (hput hs cu (b, P)), hsL G.2.1 (hput hs cu (b, P))]) (As := [.int x1]) (rest := [.ref ((ad 0) 0)]) (t_X4_sealLot F.1 e1).toX m_X4_sealLot v_X4_sealLot q717 (ci := 8) (q0 := 1) rfl rfl rfl 4 [1, 0, 2, 3] rfl rfl rfl ⟨Nat.le_of_ble_eq_true rfl, Nat.le_of_ble_eq_true rfl⟩ rfl hl.1 rfl (Nat.le_of_ble_eq_true rfl) dX6_seal_17 ⟨Nat.le_of_ble_eq_true rfl, Nat.le_of_ble_eq_true rfl⟩ (fun _ _ _ _ _ _ hx => False.elim hx) (fun r9 w1 H locs h9 w => ?_)
  obtain ⟨rfl, h9⟩ := h9
  have w := w.jn (L1 := [wSh G.2.1 (ad 1) S']) (L' := [wXo G.2.1 (ad 0) (xF ad) svx K, wSh G.2.1 (ad 1) S', wHo G.2.1 (ad 3) cu ct (hput hs cu (b, P)), hsL G.2.1 (hput hs cu (b, P))]) h9 4 [1, 0, 2, 3] rfl rfl rfl
  refine kXi F w hst (LC := [wXo G.2.1 (ad 0) (xF ad) svx K, wHo G.2.1 (ad 3) cu ct (hput hs cu (b, P))]) (LR := [wSh G.2.1 (ad 1) S', hsL G.2.1 (hput hs cu (b, P))]) (As := [.int (nI r)]) (rest := []) (t_X6_settle_ok F.1 hr9 k1 k2) m_X6_settle v_X6_settle q638 (ci := 10) (q0 := 0) rfl rfl rfl 4 [0, 2, 1, 3] rfl rfl rfl ⟨Nat.le_of_ble_eq_true rfl, Nat.le_of_ble_eq_true rfl⟩ rfl hl.1 rfl (Nat.le_of_ble_eq_true rfl) dX6_seal_20 ⟨Nat.le_of_ble_eq_true rfl, Nat.le_of_ble_eq_true rfl⟩ (fun _ _ _ _ _ _ hx => False.elim hx) (fun r9 w1 H locs h9 w => ?_)
  obtain ⟨rfl, h9⟩ := h9
  have w := w.jn (L1 := [wXo G.2.1 (ad 0) (xF ad) svx K, wHo G.2.1 (ad 3) (nxt cu) (cap ct) (hput hs cu (b, P))]) (L' := [wXo G.2.1 (ad 0) (xF ad) svx K, wSh G.2.1 (ad 1) S', wHo G.2.1 (ad 3) (nxt cu) (cap ct) (hput hs cu (b, P)), hsL G.2.1 (hput hs cu (b, P))]) h9 4 [0, 2, 1, 3] rfl rfl rfl
  exact eiX F w hr hlocks rfl ⟨rfl, b, P, ⟨P0, hP⟩, rfl⟩ (Nat.le_of_ble_eq_true rfl) (Nat.le_of_ble_eq_true rfl) dX6_seal_23
set_option maxRecDepth 100000 in
set_option maxHeartbeats 4000000 in
theorem k_open_no {G : cG} (g : GOK G) (gM : MG G) {ad : Nat → Nat → Nat} {svx : Value} {K S : Mem} {cu ct : Nat} {hs : hS} {x1 : Int32} {E : String} (k1 : cu < 9) (hcp : ∀ P0, ∃ P, f_X4_copyFrom P0 S = some P) (e1 : f_X4_openLot S x1 = some (numE E, S)) (hE : E ∈ excL) : CX G yX6_open cX6_open 2 .int 8 123 15 167 [.ref ((ad 0) 0), .int x1] (fl [wXo G.2.1 (ad 0) (xF ad) svx K, wSh G.2.1 (ad 1) S, wHo G.2.1 (ad 3) cu ct hs, hsL G.2.1 hs]) (fun _ _ => False) (fun E' w1 => E' = E ∧ NoW G ad svx K S cu ct hs w1) := by
  refine CX.of g (by decide) rfl (Nat.le_of_ble_eq_true rfl) ?_
  intro p l e s m below meth c A ls hst htab F hr hlocks w hl
  generalize ([.ref ((ad 0) 0), .int x1] : List Value).toArray = args
  have hl : lv_has ls 2 [(0, .ref ((ad 0) 0)), (1, .int x1)] := hl
  have w : Wd G A s.heap (fl [wXo G.2.1 (ad 0) (xF ad) svx K, wSh G.2.1 (ad 1) S, wHo G.2.1 (ad 3) cu ct hs, hsL G.2.1 hs]) _ _ := w
  refine lv_aload_n F.x F.b dX6_open_0 rfl (lv_at hl 0 rfl) ?_
  refine rg F w cl6 0 rfl 2 (by decide) q262 rfl (v := .ref ((ad 3) 0)) rfl dX6_open_1 ?_
  refine lv_aload_n F.x F.b dX6_open_4 rfl (lv_at hl 0 rfl) ?_
  refine rg F w cl6 0 rfl 0 (by decide) q260 rfl (v := .ref ((ad 1) 0)) rfl dX6_open_5 ?_
  refine kXv F w hst (LC := [wHo G.2.1 (ad 3) cu ct hs, hsL G.2.1 hs, wSh G.2.1 (ad 1) S]) (LR := [wXo G.2.1 (ad 0) (xF ad) svx K]) (As := [.ref ((ad 1) 0)]) (rest := []) (t_X2_prepare F.1 k1 hcp) m_X2_prepare v_X2_prepare q616 (ci := 6) (q0 := 15) rfl rfl rfl 4 [2, 3, 1, 0] rfl rfl rfl ⟨Nat.le_of_ble_eq_true rfl, Nat.le_of_ble_eq_true rfl⟩ rfl hl.1 rfl (Nat.le_of_ble_eq_true rfl) dX6_open_8 ⟨Nat.le_of_ble_eq_true rfl, Nat.le_of_ble_eq_true rfl⟩ (fun _ _ _ _ _ _ hx => False.elim hx) (fun w1 H locs h9 w => ?_)
  obtain ⟨b, P, ⟨P0, hP⟩, h9⟩ := h9
  have w := w.jn (L1 := [wHo G.2.1 (ad 3) cu ct (hput hs cu (b, P)), hsL G.2.1 (hput hs cu (b, P)), wSh G.2.1 (ad 1) S]) (L' := [wXo G.2.1 (ad 0) (xF ad) svx K, wSh G.2.1 (ad 1) S, wHo G.2.1 (ad 3) cu ct (hput hs cu (b, P)), hsL G.2.1 (hput hs cu (b, P))]) h9 4 [3, 2, 0, 1] rfl rfl rfl
  have w : Wd G A s.heap (fl [wXo G.2.1 (ad 0) (xF ad) svx K, wSh G.2.1 (ad 1) S, wHo G.2.1 (ad 3) cu ct (hput hs cu (b, P)), hsL G.2.1 (hput hs cu (b, P))]) _ _ := w
  refine lv_aload_n F.x F.b dX6_open_11 rfl (lv_at hl 0 rfl) ?_
  refine lv_aload_n F.x F.b dX6_open_12 rfl (lv_at hl 0 rfl) ?_
  refine rg F w cl6 0 rfl 0 (by decide) q260 rfl (v := .ref ((ad 1) 0)) rfl dX6_open_13 ?_
  refine lv_iload_n F.x F.b dX6_open_16 rfl (lv_at hl 1 rfl) ?_
  refine kXi F w hst (LC := [wSh G.2.1 (ad 1) S]) (LR := [wXo G.2.1 (ad 0) (xF ad) svx K, wHo G.2.1 (ad 3) cu ct (hput hs cu (b, P)), hsL G.2.1 (hput hs cu (b, P))]) (As := [.int x1]) (rest := [.ref ((ad 0) 0)]) (t_X4_openLot F.1 e1).toX m_X4_openLot v_X4_openLot q765 (ci := 8) (q0 := 1) rfl rfl rfl 4 [1, 0, 2, 3] rfl rfl rfl ⟨Nat.le_of_ble_eq_true rfl, Nat.le_of_ble_eq_true rfl⟩ rfl hl.1 rfl (Nat.le_of_ble_eq_true rfl) dX6_open_17 ⟨Nat.le_of_ble_eq_true rfl, Nat.le_of_ble_eq_true rfl⟩ (fun _ _ _ _ _ _ hx => False.elim hx) (fun r9 w1 H locs h9 w => ?_)
  obtain ⟨rfl, h9⟩ := h9
  have w := w.jn (L1 := [wSh G.2.1 (ad 1) S]) (L' := [wXo G.2.1 (ad 0) (xF ad) svx K, wSh G.2.1 (ad 1) S, wHo G.2.1 (ad 3) cu ct (hput hs cu (b, P)), hsL G.2.1 (hput hs cu (b, P))]) h9 4 [1, 0, 2, 3] rfl rfl rfl
  refine kXi F w hst (LC := [wXo G.2.1 (ad 0) (xF ad) svx K, wHo G.2.1 (ad 3) cu ct (hput hs cu (b, P))]) (LR := [wSh G.2.1 (ad 1) S, hsL G.2.1 (hput hs cu (b, P))]) (As := [.int (numE E)]) (rest := []) (t_X6_settle_no F.1 gM hE) m_X6_settle v_X6_settle q638 (ci := 10) (q0 := 0) rfl rfl rfl 4 [0, 2, 1, 3] rfl rfl rfl ⟨Nat.le_of_ble_eq_true rfl, Nat.le_of_ble_eq_true rfl⟩ rfl hl.1 rfl (Nat.le_of_ble_eq_true rfl) dX6_open_20 ⟨Nat.le_of_ble_eq_true rfl, Nat.le_of_ble_eq_true rfl⟩ (fun E w1 ce q H locs hx w hce hcv hcl => by obtain ⟨rfl, hx⟩ := hx; exact exX (w.jn (L1 := [wXo G.2.1 (ad 0) (xF ad) svx K, wHo G.2.1 (ad 3) cu ct (hput hs cu (b, P))]) (L' := [wXo G.2.1 (ad 0) (xF ad) svx K, wSh G.2.1 (ad 1) S, wHo G.2.1 (ad 3) cu ct (hput hs cu (b, P)), hsL G.2.1 (hput hs cu (b, P))]) hx 4 [0, 2, 1, 3] rfl rfl rfl) htab hlocks hce hcv hcl ⟨rfl, b, P, ⟨P0, hP⟩, rfl⟩ (Nat.le_of_ble_eq_true rfl) (Nat.le_of_ble_eq_true rfl)) (fun r9 w1 H locs h9 w => ?_)
  exact False.elim h9
set_option maxRecDepth 100000 in
set_option maxHeartbeats 4000000 in
theorem k_open_ok {G : cG} (g : GOK G) {ad : Nat → Nat → Nat} {svx : Value} {K S S' : Mem} {cu ct : Nat} {hs : hS} {x1 : Int32} {r : Nat} (k1 : cu < 9) (hcp : ∀ P0, ∃ P, f_X4_copyFrom P0 S = some P) (k2 : ct ≤ 8) (hr9 : r < 2 ^ 31) (e1 : f_X4_openLot S x1 = some (nI r, S')) : CX G yX6_open cX6_open 2 .int 4 88 14 161 [.ref ((ad 0) 0), .int x1] (fl [wXo G.2.1 (ad 0) (xF ad) svx K, wSh G.2.1 (ad 1) S, wHo G.2.1 (ad 3) cu ct hs, hsL G.2.1 hs]) (fun r9 w1 => r9 = nI r ∧ YeW G ad svx K S S' cu ct hs w1) (fun _ _ => False) := by
  refine CX.of g (by decide) rfl (Nat.le_of_ble_eq_true rfl) ?_
  intro p l e s m below meth c A ls hst htab F hr hlocks w hl
  generalize ([.ref ((ad 0) 0), .int x1] : List Value).toArray = args
  have hl : lv_has ls 2 [(0, .ref ((ad 0) 0)), (1, .int x1)] := hl
  have w : Wd G A s.heap (fl [wXo G.2.1 (ad 0) (xF ad) svx K, wSh G.2.1 (ad 1) S, wHo G.2.1 (ad 3) cu ct hs, hsL G.2.1 hs]) _ _ := w
  refine lv_aload_n F.x F.b dX6_open_0 rfl (lv_at hl 0 rfl) ?_
  refine rg F w cl6 0 rfl 2 (by decide) q262 rfl (v := .ref ((ad 3) 0)) rfl dX6_open_1 ?_
  refine lv_aload_n F.x F.b dX6_open_4 rfl (lv_at hl 0 rfl) ?_
  refine rg F w cl6 0 rfl 0 (by decide) q260 rfl (v := .ref ((ad 1) 0)) rfl dX6_open_5 ?_
  refine kXv F w hst (LC := [wHo G.2.1 (ad 3) cu ct hs, hsL G.2.1 hs, wSh G.2.1 (ad 1) S]) (LR := [wXo G.2.1 (ad 0) (xF ad) svx K]) (As := [.ref ((ad 1) 0)]) (rest := []) (t_X2_prepare F.1 k1 hcp) m_X2_prepare v_X2_prepare q616 (ci := 6) (q0 := 15) rfl rfl rfl 4 [2, 3, 1, 0] rfl rfl rfl ⟨Nat.le_of_ble_eq_true rfl, Nat.le_of_ble_eq_true rfl⟩ rfl hl.1 rfl (Nat.le_of_ble_eq_true rfl) dX6_open_8 ⟨Nat.le_of_ble_eq_true rfl, Nat.le_of_ble_eq_true rfl⟩ (fun _ _ _ _ _ _ hx => False.elim hx) (fun w1 H locs h9 w => ?_)
  obtain ⟨b, P, ⟨P0, hP⟩, h9⟩ := h9
  have w := w.jn (L1 := [wHo G.2.1 (ad 3) cu ct (hput hs cu (b, P)), hsL G.2.1 (hput hs cu (b, P)), wSh G.2.1 (ad 1) S]) (L' := [wXo G.2.1 (ad 0) (xF ad) svx K, wSh G.2.1 (ad 1) S, wHo G.2.1 (ad 3) cu ct (hput hs cu (b, P)), hsL G.2.1 (hput hs cu (b, P))]) h9 4 [3, 2, 0, 1] rfl rfl rfl
  have w : Wd G A s.heap (fl [wXo G.2.1 (ad 0) (xF ad) svx K, wSh G.2.1 (ad 1) S, wHo G.2.1 (ad 3) cu ct (hput hs cu (b, P)), hsL G.2.1 (hput hs cu (b, P))]) _ _ := w
  refine lv_aload_n F.x F.b dX6_open_11 rfl (lv_at hl 0 rfl) ?_
  refine lv_aload_n F.x F.b dX6_open_12 rfl (lv_at hl 0 rfl) ?_
  refine rg F w cl6 0 rfl 0 (by decide) q260 rfl (v := .ref ((ad 1) 0)) rfl dX6_open_13 ?_
  refine lv_iload_n F.x F.b dX6_open_16 rfl (lv_at hl 1 rfl) ?_
  refine kXi F w hst (LC := [wSh G.2.1 (ad 1) S]) (LR := [wXo G.2.1 (ad 0) (xF ad) svx K, wHo G.2.1 (ad 3) cu ct (hput hs cu (b, P)), hsL G.2.1 (hput hs cu (b, P))]) (As := [.int x1]) (rest := [.ref ((ad 0) 0)]) (t_X4_openLot F.1 e1).toX m_X4_openLot v_X4_openLot q765 (ci := 8) (q0 := 1) rfl rfl rfl 4 [1, 0, 2, 3] rfl rfl rfl ⟨Nat.le_of_ble_eq_true rfl, Nat.le_of_ble_eq_true rfl⟩ rfl hl.1 rfl (Nat.le_of_ble_eq_true rfl) dX6_open_17 ⟨Nat.le_of_ble_eq_true rfl, Nat.le_of_ble_eq_true rfl⟩ (fun _ _ _ _ _ _ hx => False.elim hx) (fun r9 w1 H locs h9 w => ?_)
  obtain ⟨rfl, h9⟩ := h9
  have w := w.jn (L1 := [wSh G.2.1 (ad 1) S']) (L' := [wXo G.2.1 (ad 0) (xF ad) svx K, wSh G.2.1 (ad 1) S', wHo G.2.1 (ad 3) cu ct (hput hs cu (b, P)), hsL G.2.1 (hput hs cu (b, P))]) h9 4 [1, 0, 2, 3] rfl rfl rfl
  refine kXi F w hst (LC := [wXo G.2.1 (ad 0) (xF ad) svx K, wHo G.2.1 (ad 3) cu ct (hput hs cu (b, P))]) (LR := [wSh G.2.1 (ad 1) S', hsL G.2.1 (hput hs cu (b, P))]) (As := [.int (nI r)]) (rest := []) (t_X6_settle_ok F.1 hr9 k1 k2) m_X6_settle v_X6_settle q638 (ci := 10) (q0 := 0) rfl rfl rfl 4 [0, 2, 1, 3] rfl rfl rfl ⟨Nat.le_of_ble_eq_true rfl, Nat.le_of_ble_eq_true rfl⟩ rfl hl.1 rfl (Nat.le_of_ble_eq_true rfl) dX6_open_20 ⟨Nat.le_of_ble_eq_true rfl, Nat.le_of_ble_eq_true rfl⟩ (fun _ _ _ _ _ _ hx => False.elim hx) (fun r9 w1 H locs h9 w => ?_)
  obtain ⟨rfl, h9⟩ := h9
  have w := w.jn (L1 := [wXo G.2.1 (ad 0) (xF ad) svx K, wHo G.2.1 (ad 3) (nxt cu) (cap ct) (hput hs cu (b, P))]) (L' := [wXo G.2.1 (ad 0) (xF ad) svx K, wSh G.2.1 (ad 1) S', wHo G.2.1 (ad 3) (nxt cu) (cap ct) (hput hs cu (b, P)), hsL G.2.1 (hput hs cu (b, P))]) h9 4 [0, 2, 1, 3] rfl rfl rfl
  exact eiX F w hr hlocks rfl ⟨rfl, b, P, ⟨P0, hP⟩, rfl⟩ (Nat.le_of_ble_eq_true rfl) (Nat.le_of_ble_eq_true rfl) dX6_open_23
set_option maxRecDepth 100000 in
set_option maxHeartbeats 4000000 in
theorem k_wet_no {G : cG} (g : GOK G) (gM : MG G) {ad : Nat → Nat → Nat} {svx : Value} {K S : Mem} {cu ct : Nat} {hs : hS} {x1 : Int32} {E : String} (k1 : cu < 9) (hcp : ∀ P0, ∃ P, f_X4_copyFrom P0 S = some P) (e1 : f_X4_wetLot S x1 = some (numE E, S)) (hE : E ∈ excL) : CX G yX6_wet cX6_wet 2 .int 8 123 15 167 [.ref ((ad 0) 0), .int x1] (fl [wXo G.2.1 (ad 0) (xF ad) svx K, wSh G.2.1 (ad 1) S, wHo G.2.1 (ad 3) cu ct hs, hsL G.2.1 hs]) (fun _ _ => False) (fun E' w1 => E' = E ∧ NoW G ad svx K S cu ct hs w1) := by
  refine CX.of g (by decide) rfl (Nat.le_of_ble_eq_true rfl) ?_
  intro p l e s m below meth c A ls hst htab F hr hlocks w hl
  generalize ([.ref ((ad 0) 0), .int x1] : List Value).toArray = args
  have hl : lv_has ls 2 [(0, .ref ((ad 0) 0)), (1, .int x1)] := hl
  have w : Wd G A s.heap (fl [wXo G.2.1 (ad 0) (xF ad) svx K, wSh G.2.1 (ad 1) S, wHo G.2.1 (ad 3) cu ct hs, hsL G.2.1 hs]) _ _ := w
  refine lv_aload_n F.x F.b dX6_wet_0 rfl (lv_at hl 0 rfl) ?_
  refine rg F w cl6 0 rfl 2 (by decide) q262 rfl (v := .ref ((ad 3) 0)) rfl dX6_wet_1 ?_
  refine lv_aload_n F.x F.b dX6_wet_4 rfl (lv_at hl 0 rfl) ?_
  refine rg F w cl6 0 rfl 0 (by decide) q260 rfl (v := .ref ((ad 1) 0)) rfl dX6_wet_5 ?_
  refine kXv F w hst (LC := [wHo G.2.1 (ad 3) cu ct hs, hsL G.2.1 hs, wSh G.2.1 (ad 1) S]) (LR := [wXo G.2.1 (ad 0) (xF ad) svx K]) (As := [.ref ((ad 1) 0)]) (rest := []) (t_X2_prepare F.1 k1 hcp) m_X2_prepare v_X2_prepare q616 (ci := 6) (q0 := 15) rfl rfl rfl 4 [2, 3, 1, 0] rfl rfl rfl ⟨Nat.le_of_ble_eq_true rfl, Nat.le_of_ble_eq_true rfl⟩ rfl hl.1 rfl (Nat.le_of_ble_eq_true rfl) dX6_wet_8 ⟨Nat.le_of_ble_eq_true rfl, Nat.le_of_ble_eq_true rfl⟩ (fun _ _ _ _ _ _ hx => False.elim hx) (fun w1 H locs h9 w => ?_)
  obtain ⟨b, P, ⟨P0, hP⟩, h9⟩ := h9
  have w := w.jn (L1 := [wHo G.2.1 (ad 3) cu ct (hput hs cu (b, P)), hsL G.2.1 (hput hs cu (b, P)), wSh G.2.1 (ad 1) S]) (L' := [wXo G.2.1 (ad 0) (xF ad) svx K, wSh G.2.1 (ad 1) S, wHo G.2.1 (ad 3) cu ct (hput hs cu (b, P)), hsL G.2.1 (hput hs cu (b, P))]) h9 4 [3, 2, 0, 1] rfl rfl rfl
  have w : Wd G A s.heap (fl [wXo G.2.1 (ad 0) (xF ad) svx K, wSh G.2.1 (ad 1) S, wHo G.2.1 (ad 3) cu ct (hput hs cu (b, P)), hsL G.2.1 (hput hs cu (b, P))]) _ _ := w
  refine lv_aload_n F.x F.b dX6_wet_11 rfl (lv_at hl 0 rfl) ?_
  refine lv_aload_n F.x F.b dX6_wet_12 rfl (lv_at hl 0 rfl) ?_
  refine rg F w cl6 0 rfl 0 (by decide) q260 rfl (v := .ref ((ad 1) 0)) rfl dX6_wet_13 ?_
  refine lv_iload_n F.x F.b dX6_wet_16 rfl (lv_at hl 1 rfl) ?_
  refine kXi F w hst (LC := [wSh G.2.1 (ad 1) S]) (LR := [wXo G.2.1 (ad 0) (xF ad) svx K, wHo G.2.1 (ad 3) cu ct (hput hs cu (b, P)), hsL G.2.1 (hput hs cu (b, P))]) (As := [.int x1]) (rest := [.ref ((ad 0) 0)]) (t_X4_wetLot F.1 e1).toX m_X4_wetLot v_X4_wetLot q776 (ci := 8) (q0 := 1) rfl rfl rfl 4 [1, 0, 2, 3] rfl rfl rfl ⟨Nat.le_of_ble_eq_true rfl, Nat.le_of_ble_eq_true rfl⟩ rfl hl.1 rfl (Nat.le_of_ble_eq_true rfl) dX6_wet_17 ⟨Nat.le_of_ble_eq_true rfl, Nat.le_of_ble_eq_true rfl⟩ (fun _ _ _ _ _ _ hx => False.elim hx) (fun r9 w1 H locs h9 w => ?_)
  obtain ⟨rfl, h9⟩ := h9
  have w := w.jn (L1 := [wSh G.2.1 (ad 1) S]) (L' := [wXo G.2.1 (ad 0) (xF ad) svx K, wSh G.2.1 (ad 1) S, wHo G.2.1 (ad 3) cu ct (hput hs cu (b, P)), hsL G.2.1 (hput hs cu (b, P))]) h9 4 [1, 0, 2, 3] rfl rfl rfl
  refine kXi F w hst (LC := [wXo G.2.1 (ad 0) (xF ad) svx K, wHo G.2.1 (ad 3) cu ct (hput hs cu (b, P))]) (LR := [wSh G.2.1 (ad 1) S, hsL G.2.1 (hput hs cu (b, P))]) (As := [.int (numE E)]) (rest := []) (t_X6_settle_no F.1 gM hE) m_X6_settle v_X6_settle q638 (ci := 10) (q0 := 0) rfl rfl rfl 4 [0, 2, 1, 3] rfl rfl rfl ⟨Nat.le_of_ble_eq_true rfl, Nat.le_of_ble_eq_true rfl⟩ rfl hl.1 rfl (Nat.le_of_ble_eq_true rfl) dX6_wet_20 ⟨Nat.le_of_ble_eq_true rfl, Nat.le_of_ble_eq_true rfl⟩ (fun E w1 ce q H locs hx w hce hcv hcl => by obtain ⟨rfl, hx⟩ := hx; exact exX (w.jn (L1 := [wXo G.2.1 (ad 0) (xF ad) svx K, wHo G.2.1 (ad 3) cu ct (hput hs cu (b, P))]) (L' := [wXo G.2.1 (ad 0) (xF ad) svx K, wSh G.2.1 (ad 1) S, wHo G.2.1 (ad 3) cu ct (hput hs cu (b, P)), hsL G.2.1 (hput hs cu (b, P))]) hx 4 [0, 2, 1, 3] rfl rfl rfl) htab hlocks hce hcv hcl ⟨rfl, b, P, ⟨P0, hP⟩, rfl⟩ (Nat.le_of_ble_eq_true rfl) (Nat.le_of_ble_eq_true rfl)) (fun r9 w1 H locs h9 w => ?_)
  exact False.elim h9
set_option maxRecDepth 100000 in
set_option maxHeartbeats 4000000 in
theorem k_wet_ok {G : cG} (g : GOK G) {ad : Nat → Nat → Nat} {svx : Value} {K S S' : Mem} {cu ct : Nat} {hs : hS} {x1 : Int32} {r : Nat} (k1 : cu < 9) (hcp : ∀ P0, ∃ P, f_X4_copyFrom P0 S = some P) (k2 : ct ≤ 8) (hr9 : r < 2 ^ 31) (e1 : f_X4_wetLot S x1 = some (nI r, S')) : CX G yX6_wet cX6_wet 2 .int 4 88 14 161 [.ref ((ad 0) 0), .int x1] (fl [wXo G.2.1 (ad 0) (xF ad) svx K, wSh G.2.1 (ad 1) S, wHo G.2.1 (ad 3) cu ct hs, hsL G.2.1 hs]) (fun r9 w1 => r9 = nI r ∧ YeW G ad svx K S S' cu ct hs w1) (fun _ _ => False) := by
  refine CX.of g (by decide) rfl (Nat.le_of_ble_eq_true rfl) ?_
  intro p l e s m below meth c A ls hst htab F hr hlocks w hl
  generalize ([.ref ((ad 0) 0), .int x1] : List Value).toArray = args
  have hl : lv_has ls 2 [(0, .ref ((ad 0) 0)), (1, .int x1)] := hl
  have w : Wd G A s.heap (fl [wXo G.2.1 (ad 0) (xF ad) svx K, wSh G.2.1 (ad 1) S, wHo G.2.1 (ad 3) cu ct hs, hsL G.2.1 hs]) _ _ := w
  refine lv_aload_n F.x F.b dX6_wet_0 rfl (lv_at hl 0 rfl) ?_
  refine rg F w cl6 0 rfl 2 (by decide) q262 rfl (v := .ref ((ad 3) 0)) rfl dX6_wet_1 ?_
  refine lv_aload_n F.x F.b dX6_wet_4 rfl (lv_at hl 0 rfl) ?_
  refine rg F w cl6 0 rfl 0 (by decide) q260 rfl (v := .ref ((ad 1) 0)) rfl dX6_wet_5 ?_
  refine kXv F w hst (LC := [wHo G.2.1 (ad 3) cu ct hs, hsL G.2.1 hs, wSh G.2.1 (ad 1) S]) (LR := [wXo G.2.1 (ad 0) (xF ad) svx K]) (As := [.ref ((ad 1) 0)]) (rest := []) (t_X2_prepare F.1 k1 hcp) m_X2_prepare v_X2_prepare q616 (ci := 6) (q0 := 15) rfl rfl rfl 4 [2, 3, 1, 0] rfl rfl rfl ⟨Nat.le_of_ble_eq_true rfl, Nat.le_of_ble_eq_true rfl⟩ rfl hl.1 rfl (Nat.le_of_ble_eq_true rfl) dX6_wet_8 ⟨Nat.le_of_ble_eq_true rfl, Nat.le_of_ble_eq_true rfl⟩ (fun _ _ _ _ _ _ hx => False.elim hx) (fun w1 H locs h9 w => ?_)
  obtain ⟨b, P, ⟨P0, hP⟩, h9⟩ := h9
  have w := w.jn (L1 := [wHo G.2.1 (ad 3) cu ct (hput hs cu (b, P)), hsL G.2.1 (hput hs cu (b, P)), wSh G.2.1 (ad 1) S]) (L' := [wXo G.2.1 (ad 0) (xF ad) svx K, wSh G.2.1 (ad 1) S, wHo G.2.1 (ad 3) cu ct (hput hs cu (b, P)), hsL G.2.1 (hput hs cu (b, P))]) h9 4 [3, 2, 0, 1] rfl rfl rfl
  have w : Wd G A s.heap (fl [wXo G.2.1 (ad 0) (xF ad) svx K, wSh G.2.1 (ad 1) S, wHo G.2.1 (ad 3) cu ct (hput hs cu (b, P)), hsL G.2.1 (hput hs cu (b, P))]) _ _ := w
  refine lv_aload_n F.x F.b dX6_wet_11 rfl (lv_at hl 0 rfl) ?_
  refine lv_aload_n F.x F.b dX6_wet_12 rfl (lv_at hl 0 rfl) ?_
  refine rg F w cl6 0 rfl 0 (by decide) q260 rfl (v := .ref ((ad 1) 0)) rfl dX6_wet_13 ?_
  refine lv_iload_n F.x F.b dX6_wet_16 rfl (lv_at hl 1 rfl) ?_
  refine kXi F w hst (LC := [wSh G.2.1 (ad 1) S]) (LR := [wXo G.2.1 (ad 0) (xF ad) svx K, wHo G.2.1 (ad 3) cu ct (hput hs cu (b, P)), hsL G.2.1 (hput hs cu (b, P))]) (As := [.int x1]) (rest := [.ref ((ad 0) 0)]) (t_X4_wetLot F.1 e1).toX m_X4_wetLot v_X4_wetLot q776 (ci := 8) (q0 := 1) rfl rfl rfl 4 [1, 0, 2, 3] rfl rfl rfl ⟨Nat.le_of_ble_eq_true rfl, Nat.le_of_ble_eq_true rfl⟩ rfl hl.1 rfl (Nat.le_of_ble_eq_true rfl) dX6_wet_17 ⟨Nat.le_of_ble_eq_true rfl, Nat.le_of_ble_eq_true rfl⟩ (fun _ _ _ _ _ _ hx => False.elim hx) (fun r9 w1 H locs h9 w => ?_)
  obtain ⟨rfl, h9⟩ := h9
  have w := w.jn (L1 := [wSh G.2.1 (ad 1) S']) (L' := [wXo G.2.1 (ad 0) (xF ad) svx K, wSh G.2.1 (ad 1) S', wHo G.2.1 (ad 3) cu ct (hput hs cu (b, P)), hsL G.2.1 (hput hs cu (b, P))]) h9 4 [1, 0, 2, 3] rfl rfl rfl
  refine kXi F w hst (LC := [wXo G.2.1 (ad 0) (xF ad) svx K, wHo G.2.1 (ad 3) cu ct (hput hs cu (b, P))]) (LR := [wSh G.2.1 (ad 1) S', hsL G.2.1 (hput hs cu (b, P))]) (As := [.int (nI r)]) (rest := []) (t_X6_settle_ok F.1 hr9 k1 k2) m_X6_settle v_X6_settle q638 (ci := 10) (q0 := 0) rfl rfl rfl 4 [0, 2, 1, 3] rfl rfl rfl ⟨Nat.le_of_ble_eq_true rfl, Nat.le_of_ble_eq_true rfl⟩ rfl hl.1 rfl (Nat.le_of_ble_eq_true rfl) dX6_wet_20 ⟨Nat.le_of_ble_eq_true rfl, Nat.le_of_ble_eq_true rfl⟩ (fun _ _ _ _ _ _ hx => False.elim hx) (fun r9 w1 H locs h9 w => ?_)
  obtain ⟨rfl, h9⟩ := h9
  have w := w.jn (L1 := [wXo G.2.1 (ad 0) (xF ad) svx K, wHo G.2.1 (ad 3) (nxt cu) (cap ct) (hput hs cu (b, P))]) (L' := [wXo G.2.1 (ad 0) (xF ad) svx K, wSh G.2.1 (ad 1) S', wHo G.2.1 (ad 3) (nxt cu) (cap ct) (hput hs cu (b, P)), hsL G.2.1 (hput hs cu (b, P))]) h9 4 [0, 2, 1, 3] rfl rfl rfl
  exact eiX F w hr hlocks rfl ⟨rfl, b, P, ⟨P0, hP⟩, rfl⟩ (Nat.le_of_ble_eq_true rfl) (Nat.le_of_ble_eq_true rfl) dX6_wet_23
set_option maxRecDepth 100000 in
set_option maxHeartbeats 4000000 in
theorem k_move_no {G : cG} (g : GOK G) (gM : MG G) {ad : Nat → Nat → Nat} {svx : Value} {K S : Mem} {cu ct : Nat} {hs : hS} {x1 x2 : Int32} {E : String} (k1 : cu < 9) (hcp : ∀ P0, ∃ P, f_X4_copyFrom P0 S = some P) (e1 : f_X4_moveLot S x1 x2 = some (numE E, S)) (hE : E ∈ excL) : CX G yX6_move cX6_move 3 .int 8 123 15 167 [.ref ((ad 0) 0), .int x1, .int x2] (fl [wXo G.2.1 (ad 0) (xF ad) svx K, wSh G.2.1 (ad 1) S, wHo G.2.1 (ad 3) cu ct hs, hsL G.2.1 hs]) (fun _ _ => False) (fun E' w1 => E' = E ∧ NoW G ad svx K S cu ct hs w1) := by
  refine CX.of g (by decide) rfl (Nat.le_of_ble_eq_true rfl) ?_
  intro p l e s m below meth c A ls hst htab F hr hlocks w hl
  generalize ([.ref ((ad 0) 0), .int x1, .int x2] : List Value).toArray = args
  have hl : lv_has ls 3 [(0, .ref ((ad 0) 0)), (1, .int x1), (2, .int x2)] := hl
  have w : Wd G A s.heap (fl [wXo G.2.1 (ad 0) (xF ad) svx K, wSh G.2.1 (ad 1) S, wHo G.2.1 (ad 3) cu ct hs, hsL G.2.1 hs]) _ _ := w
  refine lv_aload_n F.x F.b dX6_move_0 rfl (lv_at hl 0 rfl) ?_
  refine rg F w cl6 0 rfl 2 (by decide) q262 rfl (v := .ref ((ad 3) 0)) rfl dX6_move_1 ?_
  refine lv_aload_n F.x F.b dX6_move_4 rfl (lv_at hl 0 rfl) ?_
  refine rg F w cl6 0 rfl 0 (by decide) q260 rfl (v := .ref ((ad 1) 0)) rfl dX6_move_5 ?_
  refine kXv F w hst (LC := [wHo G.2.1 (ad 3) cu ct hs, hsL G.2.1 hs, wSh G.2.1 (ad 1) S]) (LR := [wXo G.2.1 (ad 0) (xF ad) svx K]) (As := [.ref ((ad 1) 0)]) (rest := []) (t_X2_prepare F.1 k1 hcp) m_X2_prepare v_X2_prepare q616 (ci := 6) (q0 := 15) rfl rfl rfl 4 [2, 3, 1, 0] rfl rfl rfl ⟨Nat.le_of_ble_eq_true rfl, Nat.le_of_ble_eq_true rfl⟩ rfl hl.1 rfl (Nat.le_of_ble_eq_true rfl) dX6_move_8 ⟨Nat.le_of_ble_eq_true rfl, Nat.le_of_ble_eq_true rfl⟩ (fun _ _ _ _ _ _ hx => False.elim hx) (fun w1 H locs h9 w => ?_)
  obtain ⟨b, P, ⟨P0, hP⟩, h9⟩ := h9
  have w := w.jn (L1 := [wHo G.2.1 (ad 3) cu ct (hput hs cu (b, P)), hsL G.2.1 (hput hs cu (b, P)), wSh G.2.1 (ad 1) S]) (L' := [wXo G.2.1 (ad 0) (xF ad) svx K, wSh G.2.1 (ad 1) S, wHo G.2.1 (ad 3) cu ct (hput hs cu (b, P)), hsL G.2.1 (hput hs cu (b, P))]) h9 4 [3, 2, 0, 1] rfl rfl rfl
  have w : Wd G A s.heap (fl [wXo G.2.1 (ad 0) (xF ad) svx K, wSh G.2.1 (ad 1) S, wHo G.2.1 (ad 3) cu ct (hput hs cu (b, P)), hsL G.2.1 (hput hs cu (b, P))]) _ _ := w
  refine lv_aload_n F.x F.b dX6_move_11 rfl (lv_at hl 0 rfl) ?_
  refine lv_aload_n F.x F.b dX6_move_12 rfl (lv_at hl 0 rfl) ?_
  refine rg F w cl6 0 rfl 0 (by decide) q260 rfl (v := .ref ((ad 1) 0)) rfl dX6_move_13 ?_
  refine lv_iload_n F.x F.b dX6_move_16 rfl (lv_at hl 1 rfl) ?_
  refine lv_iload_n F.x F.b dX6_move_17 rfl (lv_at hl 2 rfl) ?_
  refine kXi F w hst (LC := [wSh G.2.1 (ad 1) S]) (LR := [wXo G.2.1 (ad 0) (xF ad) svx K, wHo G.2.1 (ad 3) cu ct (hput hs cu (b, P)), hsL G.2.1 (hput hs cu (b, P))]) (As := [.int x1, .int x2]) (rest := [.ref ((ad 0) 0)]) (t_X4_moveLot F.1 e1).toX m_X4_moveLot v_X4_moveLot q788 (ci := 8) (q0 := 1) rfl rfl rfl 4 [1, 0, 2, 3] rfl rfl rfl ⟨Nat.le_of_ble_eq_true rfl, Nat.le_of_ble_eq_true rfl⟩ rfl hl.1 rfl (Nat.le_of_ble_eq_true rfl) dX6_move_18 ⟨Nat.le_of_ble_eq_true rfl, Nat.le_of_ble_eq_true rfl⟩ (fun _ _ _ _ _ _ hx => False.elim hx) (fun r9 w1 H locs h9 w => ?_)
  obtain ⟨rfl, h9⟩ := h9
  have w := w.jn (L1 := [wSh G.2.1 (ad 1) S]) (L' := [wXo G.2.1 (ad 0) (xF ad) svx K, wSh G.2.1 (ad 1) S, wHo G.2.1 (ad 3) cu ct (hput hs cu (b, P)), hsL G.2.1 (hput hs cu (b, P))]) h9 4 [1, 0, 2, 3] rfl rfl rfl
  refine kXi F w hst (LC := [wXo G.2.1 (ad 0) (xF ad) svx K, wHo G.2.1 (ad 3) cu ct (hput hs cu (b, P))]) (LR := [wSh G.2.1 (ad 1) S, hsL G.2.1 (hput hs cu (b, P))]) (As := [.int (numE E)]) (rest := []) (t_X6_settle_no F.1 gM hE) m_X6_settle v_X6_settle q638 (ci := 10) (q0 := 0) rfl rfl rfl 4 [0, 2, 1, 3] rfl rfl rfl ⟨Nat.le_of_ble_eq_true rfl, Nat.le_of_ble_eq_true rfl⟩ rfl hl.1 rfl (Nat.le_of_ble_eq_true rfl) dX6_move_21 ⟨Nat.le_of_ble_eq_true rfl, Nat.le_of_ble_eq_true rfl⟩ (fun E w1 ce q H locs hx w hce hcv hcl => by obtain ⟨rfl, hx⟩ := hx; exact exX (w.jn (L1 := [wXo G.2.1 (ad 0) (xF ad) svx K, wHo G.2.1 (ad 3) cu ct (hput hs cu (b, P))]) (L' := [wXo G.2.1 (ad 0) (xF ad) svx K, wSh G.2.1 (ad 1) S, wHo G.2.1 (ad 3) cu ct (hput hs cu (b, P)), hsL G.2.1 (hput hs cu (b, P))]) hx 4 [0, 2, 1, 3] rfl rfl rfl) htab hlocks hce hcv hcl ⟨rfl, b, P, ⟨P0, hP⟩, rfl⟩ (Nat.le_of_ble_eq_true rfl) (Nat.le_of_ble_eq_true rfl)) (fun r9 w1 H locs h9 w => ?_)
  exact False.elim h9
set_option maxRecDepth 100000 in
set_option maxHeartbeats 4000000 in
theorem k_move_ok {G : cG} (g : GOK G) {ad : Nat → Nat → Nat} {svx : Value} {K S S' : Mem} {cu ct : Nat} {hs : hS} {x1 x2 : Int32} {r : Nat} (k1 : cu < 9) (hcp : ∀ P0, ∃ P, f_X4_copyFrom P0 S = some P) (k2 : ct ≤ 8) (hr9 : r < 2 ^ 31) (e1 : f_X4_moveLot S x1 x2 = some (nI r, S')) : CX G yX6_move cX6_move 3 .int 4 88 14 161 [.ref ((ad 0) 0), .int x1, .int x2] (fl [wXo G.2.1 (ad 0) (xF ad) svx K, wSh G.2.1 (ad 1) S, wHo G.2.1 (ad 3) cu ct hs, hsL G.2.1 hs]) (fun r9 w1 => r9 = nI r ∧ YeW G ad svx K S S' cu ct hs w1) (fun _ _ => False) := by
  refine CX.of g (by decide) rfl (Nat.le_of_ble_eq_true rfl) ?_
  intro p l e s m below meth c A ls hst htab F hr hlocks w hl
  generalize ([.ref ((ad 0) 0), .int x1, .int x2] : List Value).toArray = args
  have hl : lv_has ls 3 [(0, .ref ((ad 0) 0)), (1, .int x1), (2, .int x2)] := hl
  have w : Wd G A s.heap (fl [wXo G.2.1 (ad 0) (xF ad) svx K, wSh G.2.1 (ad 1) S, wHo G.2.1 (ad 3) cu ct hs, hsL G.2.1 hs]) _ _ := w
  refine lv_aload_n F.x F.b dX6_move_0 rfl (lv_at hl 0 rfl) ?_
  refine rg F w cl6 0 rfl 2 (by decide) q262 rfl (v := .ref ((ad 3) 0)) rfl dX6_move_1 ?_
  refine lv_aload_n F.x F.b dX6_move_4 rfl (lv_at hl 0 rfl) ?_
  refine rg F w cl6 0 rfl 0 (by decide) q260 rfl (v := .ref ((ad 1) 0)) rfl dX6_move_5 ?_
  refine kXv F w hst (LC := [wHo G.2.1 (ad 3) cu ct hs, hsL G.2.1 hs, wSh G.2.1 (ad 1) S]) (LR := [wXo G.2.1 (ad 0) (xF ad) svx K]) (As := [.ref ((ad 1) 0)]) (rest := []) (t_X2_prepare F.1 k1 hcp) m_X2_prepare v_X2_prepare q616 (ci := 6) (q0 := 15) rfl rfl rfl 4 [2, 3, 1, 0] rfl rfl rfl ⟨Nat.le_of_ble_eq_true rfl, Nat.le_of_ble_eq_true rfl⟩ rfl hl.1 rfl (Nat.le_of_ble_eq_true rfl) dX6_move_8 ⟨Nat.le_of_ble_eq_true rfl, Nat.le_of_ble_eq_true rfl⟩ (fun _ _ _ _ _ _ hx => False.elim hx) (fun w1 H locs h9 w => ?_)
  obtain ⟨b, P, ⟨P0, hP⟩, h9⟩ := h9
  have w := w.jn (L1 := [wHo G.2.1 (ad 3) cu ct (hput hs cu (b, P)), hsL G.2.1 (hput hs cu (b, P)), wSh G.2.1 (ad 1) S]) (L' := [wXo G.2.1 (ad 0) (xF ad) svx K, wSh G.2.1 (ad 1) S, wHo G.2.1 (ad 3) cu ct (hput hs cu (b, P)), hsL G.2.1 (hput hs cu (b, P))]) h9 4 [3, 2, 0, 1] rfl rfl rfl
  have w : Wd G A s.heap (fl [wXo G.2.1 (ad 0) (xF ad) svx K, wSh G.2.1 (ad 1) S, wHo G.2.1 (ad 3) cu ct (hput hs cu (b, P)), hsL G.2.1 (hput hs cu (b, P))]) _ _ := w
  refine lv_aload_n F.x F.b dX6_move_11 rfl (lv_at hl 0 rfl) ?_
  refine lv_aload_n F.x F.b dX6_move_12 rfl (lv_at hl 0 rfl) ?_
  refine rg F w cl6 0 rfl 0 (by decide) q260 rfl (v := .ref ((ad 1) 0)) rfl dX6_move_13 ?_
  refine lv_iload_n F.x F.b dX6_move_16 rfl (lv_at hl 1 rfl) ?_
  refine lv_iload_n F.x F.b dX6_move_17 rfl (lv_at hl 2 rfl) ?_
  refine kXi F w hst (LC := [wSh G.2.1 (ad 1) S]) (LR := [wXo G.2.1 (ad 0) (xF ad) svx K, wHo G.2.1 (ad 3) cu ct (hput hs cu (b, P)), hsL G.2.1 (hput hs cu (b, P))]) (As := [.int x1, .int x2]) (rest := [.ref ((ad 0) 0)]) (t_X4_moveLot F.1 e1).toX m_X4_moveLot v_X4_moveLot q788 (ci := 8) (q0 := 1) rfl rfl rfl 4 [1, 0, 2, 3] rfl rfl rfl ⟨Nat.le_of_ble_eq_true rfl, Nat.le_of_ble_eq_true rfl⟩ rfl hl.1 rfl (Nat.le_of_ble_eq_true rfl) dX6_move_18 ⟨Nat.le_of_ble_eq_true rfl, Nat.le_of_ble_eq_true rfl⟩ (fun _ _ _ _ _ _ hx => False.elim hx) (fun r9 w1 H locs h9 w => ?_)
  obtain ⟨rfl, h9⟩ := h9
  have w := w.jn (L1 := [wSh G.2.1 (ad 1) S']) (L' := [wXo G.2.1 (ad 0) (xF ad) svx K, wSh G.2.1 (ad 1) S', wHo G.2.1 (ad 3) cu ct (hput hs cu (b, P)), hsL G.2.1 (hput hs cu (b, P))]) h9 4 [1, 0, 2, 3] rfl rfl rfl
  refine kXi F w hst (LC := [wXo G.2.1 (ad 0) (xF ad) svx K, wHo G.2.1 (ad 3) cu ct (hput hs cu (b, P))]) (LR := [wSh G.2.1 (ad 1) S', hsL G.2.1 (hput hs cu (b, P))]) (As := [.int (nI r)]) (rest := []) (t_X6_settle_ok F.1 hr9 k1 k2) m_X6_settle v_X6_settle q638 (ci := 10) (q0 := 0) rfl rfl rfl 4 [0, 2, 1, 3] rfl rfl rfl ⟨Nat.le_of_ble_eq_true rfl, Nat.le_of_ble_eq_true rfl⟩ rfl hl.1 rfl (Nat.le_of_ble_eq_true rfl) dX6_move_21 ⟨Nat.le_of_ble_eq_true rfl, Nat.le_of_ble_eq_true rfl⟩ (fun _ _ _ _ _ _ hx => False.elim hx) (fun r9 w1 H locs h9 w => ?_)
  obtain ⟨rfl, h9⟩ := h9
  have w := w.jn (L1 := [wXo G.2.1 (ad 0) (xF ad) svx K, wHo G.2.1 (ad 3) (nxt cu) (cap ct) (hput hs cu (b, P))]) (L' := [wXo G.2.1 (ad 0) (xF ad) svx K, wSh G.2.1 (ad 1) S', wHo G.2.1 (ad 3) (nxt cu) (cap ct) (hput hs cu (b, P)), hsL G.2.1 (hput hs cu (b, P))]) h9 4 [0, 2, 1, 3] rfl rfl rfl
  exact eiX F w hr hlocks rfl ⟨rfl, b, P, ⟨P0, hP⟩, rfl⟩ (Nat.le_of_ble_eq_true rfl) (Nat.le_of_ble_eq_true rfl) dX6_move_24
set_option maxRecDepth 100000 in
set_option maxHeartbeats 4000000 in
theorem k_addStep_no {G : cG} (g : GOK G) (gM : MG G) {ad : Nat → Nat → Nat} {svx : Value} {K S : Mem} {cu ct : Nat} {hs : hS} {x1 x2 : Int32} {E : String} (k1 : cu < 9) (hcp : ∀ P0, ∃ P, f_X4_copyFrom P0 S = some P) (e1 : f_X5_insert S x1 x2 = some (numE E, S)) (hE : E ∈ excL) : CX G yX6_addStep cX6_addStep 3 .int 8 123 15 167 [.ref ((ad 0) 0), .int x1, .int x2] (fl [wXo G.2.1 (ad 0) (xF ad) svx K, wSh G.2.1 (ad 1) S, wHo G.2.1 (ad 3) cu ct hs, hsL G.2.1 hs]) (fun _ _ => False) (fun E' w1 => E' = E ∧ NoW G ad svx K S cu ct hs w1) := by
  refine CX.of g (by decide) rfl (Nat.le_of_ble_eq_true rfl) ?_
  intro p l e s m below meth c A ls hst htab F hr hlocks w hl
  generalize ([.ref ((ad 0) 0), .int x1, .int x2] : List Value).toArray = args
  have hl : lv_has ls 3 [(0, .ref ((ad 0) 0)), (1, .int x1), (2, .int x2)] := hl
  have w : Wd G A s.heap (fl [wXo G.2.1 (ad 0) (xF ad) svx K, wSh G.2.1 (ad 1) S, wHo G.2.1 (ad 3) cu ct hs, hsL G.2.1 hs]) _ _ := w
  refine lv_aload_n F.x F.b dX6_addStep_0 rfl (lv_at hl 0 rfl) ?_
  refine rg F w cl6 0 rfl 2 (by decide) q262 rfl (v := .ref ((ad 3) 0)) rfl dX6_addStep_1 ?_
  refine lv_aload_n F.x F.b dX6_addStep_4 rfl (lv_at hl 0 rfl) ?_
  refine rg F w cl6 0 rfl 0 (by decide) q260 rfl (v := .ref ((ad 1) 0)) rfl dX6_addStep_5 ?_
  refine kXv F w hst (LC := [wHo G.2.1 (ad 3) cu ct hs, hsL G.2.1 hs, wSh G.2.1 (ad 1) S]) (LR := [wXo G.2.1 (ad 0) (xF ad) svx K]) (As := [.ref ((ad 1) 0)]) (rest := []) (t_X2_prepare F.1 k1 hcp) m_X2_prepare v_X2_prepare q616 (ci := 6) (q0 := 15) rfl rfl rfl 4 [2, 3, 1, 0] rfl rfl rfl ⟨Nat.le_of_ble_eq_true rfl, Nat.le_of_ble_eq_true rfl⟩ rfl hl.1 rfl (Nat.le_of_ble_eq_true rfl) dX6_addStep_8 ⟨Nat.le_of_ble_eq_true rfl, Nat.le_of_ble_eq_true rfl⟩ (fun _ _ _ _ _ _ hx => False.elim hx) (fun w1 H locs h9 w => ?_)
  obtain ⟨b, P, ⟨P0, hP⟩, h9⟩ := h9
  have w := w.jn (L1 := [wHo G.2.1 (ad 3) cu ct (hput hs cu (b, P)), hsL G.2.1 (hput hs cu (b, P)), wSh G.2.1 (ad 1) S]) (L' := [wXo G.2.1 (ad 0) (xF ad) svx K, wSh G.2.1 (ad 1) S, wHo G.2.1 (ad 3) cu ct (hput hs cu (b, P)), hsL G.2.1 (hput hs cu (b, P))]) h9 4 [3, 2, 0, 1] rfl rfl rfl
  have w : Wd G A s.heap (fl [wXo G.2.1 (ad 0) (xF ad) svx K, wSh G.2.1 (ad 1) S, wHo G.2.1 (ad 3) cu ct (hput hs cu (b, P)), hsL G.2.1 (hput hs cu (b, P))]) _ _ := w
  refine lv_aload_n F.x F.b dX6_addStep_11 rfl (lv_at hl 0 rfl) ?_
  refine lv_aload_n F.x F.b dX6_addStep_12 rfl (lv_at hl 0 rfl) ?_
  refine rg F w cl6 0 rfl 0 (by decide) q260 rfl (v := .ref ((ad 1) 0)) rfl dX6_addStep_13 ?_
  refine rgN F w cl4 1 rfl 1 (by decide) q149 rfl (v := .ref ((ad 1) 9)) rfl dX6_addStep_16 ?_
  refine lv_iload_n F.x F.b dX6_addStep_19 rfl (lv_at hl 1 rfl) ?_
  refine lv_iload_n F.x F.b dX6_addStep_20 rfl (lv_at hl 2 rfl) ?_
  refine kXi F w hst (LC := [wSh G.2.1 (ad 1) S]) (LR := [wXo G.2.1 (ad 0) (xF ad) svx K, wHo G.2.1 (ad 3) cu ct (hput hs cu (b, P)), hsL G.2.1 (hput hs cu (b, P))]) (As := [.int x1, .int x2]) (rest := [.ref ((ad 0) 0)]) (t_X5_insert F.1 e1).toX m_X5_insert v_X5_insert q739 (ci := 9) (q0 := 10) rfl rfl rfl 4 [1, 0, 2, 3] rfl rfl rfl ⟨Nat.le_of_ble_eq_true rfl, Nat.le_of_ble_eq_true rfl⟩ rfl hl.1 rfl (Nat.le_of_ble_eq_true rfl) dX6_addStep_21 ⟨Nat.le_of_ble_eq_true rfl, Nat.le_of_ble_eq_true rfl⟩ (fun _ _ _ _ _ _ hx => False.elim hx) (fun r9 w1 H locs h9 w => ?_)
  obtain ⟨rfl, h9⟩ := h9
  have w := w.jn (L1 := [wSh G.2.1 (ad 1) S]) (L' := [wXo G.2.1 (ad 0) (xF ad) svx K, wSh G.2.1 (ad 1) S, wHo G.2.1 (ad 3) cu ct (hput hs cu (b, P)), hsL G.2.1 (hput hs cu (b, P))]) h9 4 [1, 0, 2, 3] rfl rfl rfl
  refine kXi F w hst (LC := [wXo G.2.1 (ad 0) (xF ad) svx K, wHo G.2.1 (ad 3) cu ct (hput hs cu (b, P))]) (LR := [wSh G.2.1 (ad 1) S, hsL G.2.1 (hput hs cu (b, P))]) (As := [.int (numE E)]) (rest := []) (t_X6_settle_no F.1 gM hE) m_X6_settle v_X6_settle q638 (ci := 10) (q0 := 0) rfl rfl rfl 4 [0, 2, 1, 3] rfl rfl rfl ⟨Nat.le_of_ble_eq_true rfl, Nat.le_of_ble_eq_true rfl⟩ rfl hl.1 rfl (Nat.le_of_ble_eq_true rfl) dX6_addStep_24 ⟨Nat.le_of_ble_eq_true rfl, Nat.le_of_ble_eq_true rfl⟩ (fun E w1 ce q H locs hx w hce hcv hcl => by obtain ⟨rfl, hx⟩ := hx; exact exX (w.jn (L1 := [wXo G.2.1 (ad 0) (xF ad) svx K, wHo G.2.1 (ad 3) cu ct (hput hs cu (b, P))]) (L' := [wXo G.2.1 (ad 0) (xF ad) svx K, wSh G.2.1 (ad 1) S, wHo G.2.1 (ad 3) cu ct (hput hs cu (b, P)), hsL G.2.1 (hput hs cu (b, P))]) hx 4 [0, 2, 1, 3] rfl rfl rfl) htab hlocks hce hcv hcl ⟨rfl, b, P, ⟨P0, hP⟩, rfl⟩ (Nat.le_of_ble_eq_true rfl) (Nat.le_of_ble_eq_true rfl)) (fun r9 w1 H locs h9 w => ?_)
  exact False.elim h9
set_option maxRecDepth 100000 in
set_option maxHeartbeats 4000000 in
theorem k_addStep_ok {G : cG} (g : GOK G) {ad : Nat → Nat → Nat} {svx : Value} {K S S' : Mem} {cu ct : Nat} {hs : hS} {x1 x2 : Int32} {r : Nat} (k1 : cu < 9) (hcp : ∀ P0, ∃ P, f_X4_copyFrom P0 S = some P) (k2 : ct ≤ 8) (hr9 : r < 2 ^ 31) (e1 : f_X5_insert S x1 x2 = some (nI r, S')) : CX G yX6_addStep cX6_addStep 3 .int 4 88 14 161 [.ref ((ad 0) 0), .int x1, .int x2] (fl [wXo G.2.1 (ad 0) (xF ad) svx K, wSh G.2.1 (ad 1) S, wHo G.2.1 (ad 3) cu ct hs, hsL G.2.1 hs]) (fun r9 w1 => r9 = nI r ∧ YeW G ad svx K S S' cu ct hs w1) (fun _ _ => False) := by
  refine CX.of g (by decide) rfl (Nat.le_of_ble_eq_true rfl) ?_
  intro p l e s m below meth c A ls hst htab F hr hlocks w hl
  generalize ([.ref ((ad 0) 0), .int x1, .int x2] : List Value).toArray = args
  have hl : lv_has ls 3 [(0, .ref ((ad 0) 0)), (1, .int x1), (2, .int x2)] := hl
  have w : Wd G A s.heap (fl [wXo G.2.1 (ad 0) (xF ad) svx K, wSh G.2.1 (ad 1) S, wHo G.2.1 (ad 3) cu ct hs, hsL G.2.1 hs]) _ _ := w
  refine lv_aload_n F.x F.b dX6_addStep_0 rfl (lv_at hl 0 rfl) ?_
  refine rg F w cl6 0 rfl 2 (by decide) q262 rfl (v := .ref ((ad 3) 0)) rfl dX6_addStep_1 ?_
  refine lv_aload_n F.x F.b dX6_addStep_4 rfl (lv_at hl 0 rfl) ?_
  refine rg F w cl6 0 rfl 0 (by decide) q260 rfl (v := .ref ((ad 1) 0)) rfl dX6_addStep_5 ?_
  refine kXv F w hst (LC := [wHo G.2.1 (ad 3) cu ct hs, hsL G.2.1 hs, wSh G.2.1 (ad 1) S]) (LR := [wXo G.2.1 (ad 0) (xF ad) svx K]) (As := [.ref ((ad 1) 0)]) (rest := []) (t_X2_prepare F.1 k1 hcp) m_X2_prepare v_X2_prepare q616 (ci := 6) (q0 := 15) rfl rfl rfl 4 [2, 3, 1, 0] rfl rfl rfl ⟨Nat.le_of_ble_eq_true rfl, Nat.le_of_ble_eq_true rfl⟩ rfl hl.1 rfl (Nat.le_of_ble_eq_true rfl) dX6_addStep_8 ⟨Nat.le_of_ble_eq_true rfl, Nat.le_of_ble_eq_true rfl⟩ (fun _ _ _ _ _ _ hx => False.elim hx) (fun w1 H locs h9 w => ?_)
  obtain ⟨b, P, ⟨P0, hP⟩, h9⟩ := h9
  have w := w.jn (L1 := [wHo G.2.1 (ad 3) cu ct (hput hs cu (b, P)), hsL G.2.1 (hput hs cu (b, P)), wSh G.2.1 (ad 1) S]) (L' := [wXo G.2.1 (ad 0) (xF ad) svx K, wSh G.2.1 (ad 1) S, wHo G.2.1 (ad 3) cu ct (hput hs cu (b, P)), hsL G.2.1 (hput hs cu (b, P))]) h9 4 [3, 2, 0, 1] rfl rfl rfl
  have w : Wd G A s.heap (fl [wXo G.2.1 (ad 0) (xF ad) svx K, wSh G.2.1 (ad 1) S, wHo G.2.1 (ad 3) cu ct (hput hs cu (b, P)), hsL G.2.1 (hput hs cu (b, P))]) _ _ := w
  refine lv_aload_n F.x F.b dX6_addStep_11 rfl (lv_at hl 0 rfl) ?_
  refine lv_aload_n F.x F.b dX6_addStep_12 rfl (lv_at hl 0 rfl) ?_
  refine rg F w cl6 0 rfl 0 (by decide) q260 rfl (v := .ref ((ad 1) 0)) rfl dX6_addStep_13 ?_
  refine rgN F w cl4 1 rfl 1 (by decide) q149 rfl (v := .ref ((ad 1) 9)) rfl dX6_addStep_16 ?_
  refine lv_iload_n F.x F.b dX6_addStep_19 rfl (lv_at hl 1 rfl) ?_
  refine lv_iload_n F.x F.b dX6_addStep_20 rfl (lv_at hl 2 rfl) ?_
  refine kXi F w hst (LC := [wSh G.2.1 (ad 1) S]) (LR := [wXo G.2.1 (ad 0) (xF ad) svx K, wHo G.2.1 (ad 3) cu ct (hput hs cu (b, P)), hsL G.2.1 (hput hs cu (b, P))]) (As := [.int x1, .int x2]) (rest := [.ref ((ad 0) 0)]) (t_X5_insert F.1 e1).toX m_X5_insert v_X5_insert q739 (ci := 9) (q0 := 10) rfl rfl rfl 4 [1, 0, 2, 3] rfl rfl rfl ⟨Nat.le_of_ble_eq_true rfl, Nat.le_of_ble_eq_true rfl⟩ rfl hl.1 rfl (Nat.le_of_ble_eq_true rfl) dX6_addStep_21 ⟨Nat.le_of_ble_eq_true rfl, Nat.le_of_ble_eq_true rfl⟩ (fun _ _ _ _ _ _ hx => False.elim hx) (fun r9 w1 H locs h9 w => ?_)
  obtain ⟨rfl, h9⟩ := h9
  have w := w.jn (L1 := [wSh G.2.1 (ad 1) S']) (L' := [wXo G.2.1 (ad 0) (xF ad) svx K, wSh G.2.1 (ad 1) S', wHo G.2.1 (ad 3) cu ct (hput hs cu (b, P)), hsL G.2.1 (hput hs cu (b, P))]) h9 4 [1, 0, 2, 3] rfl rfl rfl
  refine kXi F w hst (LC := [wXo G.2.1 (ad 0) (xF ad) svx K, wHo G.2.1 (ad 3) cu ct (hput hs cu (b, P))]) (LR := [wSh G.2.1 (ad 1) S', hsL G.2.1 (hput hs cu (b, P))]) (As := [.int (nI r)]) (rest := []) (t_X6_settle_ok F.1 hr9 k1 k2) m_X6_settle v_X6_settle q638 (ci := 10) (q0 := 0) rfl rfl rfl 4 [0, 2, 1, 3] rfl rfl rfl ⟨Nat.le_of_ble_eq_true rfl, Nat.le_of_ble_eq_true rfl⟩ rfl hl.1 rfl (Nat.le_of_ble_eq_true rfl) dX6_addStep_24 ⟨Nat.le_of_ble_eq_true rfl, Nat.le_of_ble_eq_true rfl⟩ (fun _ _ _ _ _ _ hx => False.elim hx) (fun r9 w1 H locs h9 w => ?_)
  obtain ⟨rfl, h9⟩ := h9
  have w := w.jn (L1 := [wXo G.2.1 (ad 0) (xF ad) svx K, wHo G.2.1 (ad 3) (nxt cu) (cap ct) (hput hs cu (b, P))]) (L' := [wXo G.2.1 (ad 0) (xF ad) svx K, wSh G.2.1 (ad 1) S', wHo G.2.1 (ad 3) (nxt cu) (cap ct) (hput hs cu (b, P)), hsL G.2.1 (hput hs cu (b, P))]) h9 4 [0, 2, 1, 3] rfl rfl rfl
  exact eiX F w hr hlocks rfl ⟨rfl, b, P, ⟨P0, hP⟩, rfl⟩ (Nat.le_of_ble_eq_true rfl) (Nat.le_of_ble_eq_true rfl) dX6_addStep_27
set_option maxRecDepth 100000 in
set_option maxHeartbeats 4000000 in
theorem k_removeStep_no {G : cG} (g : GOK G) (gM : MG G) {ad : Nat → Nat → Nat} {svx : Value} {K S : Mem} {cu ct : Nat} {hs : hS} {x1 : Int32} {E : String} (k1 : cu < 9) (hcp : ∀ P0, ∃ P, f_X4_copyFrom P0 S = some P) (e1 : f_X5_remove S x1 = some (numE E, S)) (hE : E ∈ excL) : CX G yX6_removeStep cX6_removeStep 2 .int 8 123 15 167 [.ref ((ad 0) 0), .int x1] (fl [wXo G.2.1 (ad 0) (xF ad) svx K, wSh G.2.1 (ad 1) S, wHo G.2.1 (ad 3) cu ct hs, hsL G.2.1 hs]) (fun _ _ => False) (fun E' w1 => E' = E ∧ NoW G ad svx K S cu ct hs w1) := by
  refine CX.of g (by decide) rfl (Nat.le_of_ble_eq_true rfl) ?_
  intro p l e s m below meth c A ls hst htab F hr hlocks w hl
  generalize ([.ref ((ad 0) 0), .int x1] : List Value).toArray = args
  have hl : lv_has ls 2 [(0, .ref ((ad 0) 0)), (1, .int x1)] := hl
  have w : Wd G A s.heap (fl [wXo G.2.1 (ad 0) (xF ad) svx K, wSh G.2.1 (ad 1) S, wHo G.2.1 (ad 3) cu ct hs, hsL G.2.1 hs]) _ _ := w
  refine lv_aload_n F.x F.b dX6_removeStep_0 rfl (lv_at hl 0 rfl) ?_
  refine rg F w cl6 0 rfl 2 (by decide) q262 rfl (v := .ref ((ad 3) 0)) rfl dX6_removeStep_1 ?_
  refine lv_aload_n F.x F.b dX6_removeStep_4 rfl (lv_at hl 0 rfl) ?_
  refine rg F w cl6 0 rfl 0 (by decide) q260 rfl (v := .ref ((ad 1) 0)) rfl dX6_removeStep_5 ?_
  refine kXv F w hst (LC := [wHo G.2.1 (ad 3) cu ct hs, hsL G.2.1 hs, wSh G.2.1 (ad 1) S]) (LR := [wXo G.2.1 (ad 0) (xF ad) svx K]) (As := [.ref ((ad 1) 0)]) (rest := []) (t_X2_prepare F.1 k1 hcp) m_X2_prepare v_X2_prepare q616 (ci := 6) (q0 := 15) rfl rfl rfl 4 [2, 3, 1, 0] rfl rfl rfl ⟨Nat.le_of_ble_eq_true rfl, Nat.le_of_ble_eq_true rfl⟩ rfl hl.1 rfl (Nat.le_of_ble_eq_true rfl) dX6_removeStep_8 ⟨Nat.le_of_ble_eq_true rfl, Nat.le_of_ble_eq_true rfl⟩ (fun _ _ _ _ _ _ hx => False.elim hx) (fun w1 H locs h9 w => ?_)
  obtain ⟨b, P, ⟨P0, hP⟩, h9⟩ := h9
  have w := w.jn (L1 := [wHo G.2.1 (ad 3) cu ct (hput hs cu (b, P)), hsL G.2.1 (hput hs cu (b, P)), wSh G.2.1 (ad 1) S]) (L' := [wXo G.2.1 (ad 0) (xF ad) svx K, wSh G.2.1 (ad 1) S, wHo G.2.1 (ad 3) cu ct (hput hs cu (b, P)), hsL G.2.1 (hput hs cu (b, P))]) h9 4 [3, 2, 0, 1] rfl rfl rfl
  have w : Wd G A s.heap (fl [wXo G.2.1 (ad 0) (xF ad) svx K, wSh G.2.1 (ad 1) S, wHo G.2.1 (ad 3) cu ct (hput hs cu (b, P)), hsL G.2.1 (hput hs cu (b, P))]) _ _ := w
  refine lv_aload_n F.x F.b dX6_removeStep_11 rfl (lv_at hl 0 rfl) ?_
  refine lv_aload_n F.x F.b dX6_removeStep_12 rfl (lv_at hl 0 rfl) ?_
  refine rg F w cl6 0 rfl 0 (by decide) q260 rfl (v := .ref ((ad 1) 0)) rfl dX6_removeStep_13 ?_
  refine rgN F w cl4 1 rfl 1 (by decide) q149 rfl (v := .ref ((ad 1) 9)) rfl dX6_removeStep_16 ?_
  refine lv_iload_n F.x F.b dX6_removeStep_19 rfl (lv_at hl 1 rfl) ?_
  refine kXi F w hst (LC := [wSh G.2.1 (ad 1) S]) (LR := [wXo G.2.1 (ad 0) (xF ad) svx K, wHo G.2.1 (ad 3) cu ct (hput hs cu (b, P)), hsL G.2.1 (hput hs cu (b, P))]) (As := [.int x1]) (rest := [.ref ((ad 0) 0)]) (t_X5_remove F.1 e1).toX m_X5_remove v_X5_remove q754 (ci := 9) (q0 := 10) rfl rfl rfl 4 [1, 0, 2, 3] rfl rfl rfl ⟨Nat.le_of_ble_eq_true rfl, Nat.le_of_ble_eq_true rfl⟩ rfl hl.1 rfl (Nat.le_of_ble_eq_true rfl) dX6_removeStep_20 ⟨Nat.le_of_ble_eq_true rfl, Nat.le_of_ble_eq_true rfl⟩ (fun _ _ _ _ _ _ hx => False.elim hx) (fun r9 w1 H locs h9 w => ?_)
  obtain ⟨rfl, h9⟩ := h9
  have w := w.jn (L1 := [wSh G.2.1 (ad 1) S]) (L' := [wXo G.2.1 (ad 0) (xF ad) svx K, wSh G.2.1 (ad 1) S, wHo G.2.1 (ad 3) cu ct (hput hs cu (b, P)), hsL G.2.1 (hput hs cu (b, P))]) h9 4 [1, 0, 2, 3] rfl rfl rfl
  refine kXi F w hst (LC := [wXo G.2.1 (ad 0) (xF ad) svx K, wHo G.2.1 (ad 3) cu ct (hput hs cu (b, P))]) (LR := [wSh G.2.1 (ad 1) S, hsL G.2.1 (hput hs cu (b, P))]) (As := [.int (numE E)]) (rest := []) (t_X6_settle_no F.1 gM hE) m_X6_settle v_X6_settle q638 (ci := 10) (q0 := 0) rfl rfl rfl 4 [0, 2, 1, 3] rfl rfl rfl ⟨Nat.le_of_ble_eq_true rfl, Nat.le_of_ble_eq_true rfl⟩ rfl hl.1 rfl (Nat.le_of_ble_eq_true rfl) dX6_removeStep_23 ⟨Nat.le_of_ble_eq_true rfl, Nat.le_of_ble_eq_true rfl⟩ (fun E w1 ce q H locs hx w hce hcv hcl => by obtain ⟨rfl, hx⟩ := hx; exact exX (w.jn (L1 := [wXo G.2.1 (ad 0) (xF ad) svx K, wHo G.2.1 (ad 3) cu ct (hput hs cu (b, P))]) (L' := [wXo G.2.1 (ad 0) (xF ad) svx K, wSh G.2.1 (ad 1) S, wHo G.2.1 (ad 3) cu ct (hput hs cu (b, P)), hsL G.2.1 (hput hs cu (b, P))]) hx 4 [0, 2, 1, 3] rfl rfl rfl) htab hlocks hce hcv hcl ⟨rfl, b, P, ⟨P0, hP⟩, rfl⟩ (Nat.le_of_ble_eq_true rfl) (Nat.le_of_ble_eq_true rfl)) (fun r9 w1 H locs h9 w => ?_)
  exact False.elim h9
set_option maxRecDepth 100000 in
set_option maxHeartbeats 4000000 in
theorem k_removeStep_ok {G : cG} (g : GOK G) {ad : Nat → Nat → Nat} {svx : Value} {K S S' : Mem} {cu ct : Nat} {hs : hS} {x1 : Int32} {r : Nat} (k1 : cu < 9) (hcp : ∀ P0, ∃ P, f_X4_copyFrom P0 S = some P) (k2 : ct ≤ 8) (hr9 : r < 2 ^ 31) (e1 : f_X5_remove S x1 = some (nI r, S')) : CX G yX6_removeStep cX6_removeStep 2 .int 4 88 14 161 [.ref ((ad 0) 0), .int x1] (fl [wXo G.2.1 (ad 0) (xF ad) svx K, wSh G.2.1 (ad 1) S, wHo G.2.1 (ad 3) cu ct hs, hsL G.2.1 hs]) (fun r9 w1 => r9 = nI r ∧ YeW G ad svx K S S' cu ct hs w1) (fun _ _ => False) := by
  refine CX.of g (by decide) rfl (Nat.le_of_ble_eq_true rfl) ?_
  intro p l e s m below meth c A ls hst htab F hr hlocks w hl
  generalize ([.ref ((ad 0) 0), .int x1] : List Value).toArray = args
  have hl : lv_has ls 2 [(0, .ref ((ad 0) 0)), (1, .int x1)] := hl
  have w : Wd G A s.heap (fl [wXo G.2.1 (ad 0) (xF ad) svx K, wSh G.2.1 (ad 1) S, wHo G.2.1 (ad 3) cu ct hs, hsL G.2.1 hs]) _ _ := w
  refine lv_aload_n F.x F.b dX6_removeStep_0 rfl (lv_at hl 0 rfl) ?_
  refine rg F w cl6 0 rfl 2 (by decide) q262 rfl (v := .ref ((ad 3) 0)) rfl dX6_removeStep_1 ?_
  refine lv_aload_n F.x F.b dX6_removeStep_4 rfl (lv_at hl 0 rfl) ?_
  refine rg F w cl6 0 rfl 0 (by decide) q260 rfl (v := .ref ((ad 1) 0)) rfl dX6_removeStep_5 ?_
  refine kXv F w hst (LC := [wHo G.2.1 (ad 3) cu ct hs, hsL G.2.1 hs, wSh G.2.1 (ad 1) S]) (LR := [wXo G.2.1 (ad 0) (xF ad) svx K]) (As := [.ref ((ad 1) 0)]) (rest := []) (t_X2_prepare F.1 k1 hcp) m_X2_prepare v_X2_prepare q616 (ci := 6) (q0 := 15) rfl rfl rfl 4 [2, 3, 1, 0] rfl rfl rfl ⟨Nat.le_of_ble_eq_true rfl, Nat.le_of_ble_eq_true rfl⟩ rfl hl.1 rfl (Nat.le_of_ble_eq_true rfl) dX6_removeStep_8 ⟨Nat.le_of_ble_eq_true rfl, Nat.le_of_ble_eq_true rfl⟩ (fun _ _ _ _ _ _ hx => False.elim hx) (fun w1 H locs h9 w => ?_)
  obtain ⟨b, P, ⟨P0, hP⟩, h9⟩ := h9
  have w := w.jn (L1 := [wHo G.2.1 (ad 3) cu ct (hput hs cu (b, P)), hsL G.2.1 (hput hs cu (b, P)), wSh G.2.1 (ad 1) S]) (L' := [wXo G.2.1 (ad 0) (xF ad) svx K, wSh G.2.1 (ad 1) S, wHo G.2.1 (ad 3) cu ct (hput hs cu (b, P)), hsL G.2.1 (hput hs cu (b, P))]) h9 4 [3, 2, 0, 1] rfl rfl rfl
  have w : Wd G A s.heap (fl [wXo G.2.1 (ad 0) (xF ad) svx K, wSh G.2.1 (ad 1) S, wHo G.2.1 (ad 3) cu ct (hput hs cu (b, P)), hsL G.2.1 (hput hs cu (b, P))]) _ _ := w
  refine lv_aload_n F.x F.b dX6_removeStep_11 rfl (lv_at hl 0 rfl) ?_
  refine lv_aload_n F.x F.b dX6_removeStep_12 rfl (lv_at hl 0 rfl) ?_
  refine rg F w cl6 0 rfl 0 (by decide) q260 rfl (v := .ref ((ad 1) 0)) rfl dX6_removeStep_13 ?_
  refine rgN F w cl4 1 rfl 1 (by decide) q149 rfl (v := .ref ((ad 1) 9)) rfl dX6_removeStep_16 ?_
  refine lv_iload_n F.x F.b dX6_removeStep_19 rfl (lv_at hl 1 rfl) ?_
  refine kXi F w hst (LC := [wSh G.2.1 (ad 1) S]) (LR := [wXo G.2.1 (ad 0) (xF ad) svx K, wHo G.2.1 (ad 3) cu ct (hput hs cu (b, P)), hsL G.2.1 (hput hs cu (b, P))]) (As := [.int x1]) (rest := [.ref ((ad 0) 0)]) (t_X5_remove F.1 e1).toX m_X5_remove v_X5_remove q754 (ci := 9) (q0 := 10) rfl rfl rfl 4 [1, 0, 2, 3] rfl rfl rfl ⟨Nat.le_of_ble_eq_true rfl, Nat.le_of_ble_eq_true rfl⟩ rfl hl.1 rfl (Nat.le_of_ble_eq_true rfl) dX6_removeStep_20 ⟨Nat.le_of_ble_eq_true rfl, Nat.le_of_ble_eq_true rfl⟩ (fun _ _ _ _ _ _ hx => False.elim hx) (fun r9 w1 H locs h9 w => ?_)
  obtain ⟨rfl, h9⟩ := h9
  have w := w.jn (L1 := [wSh G.2.1 (ad 1) S']) (L' := [wXo G.2.1 (ad 0) (xF ad) svx K, wSh G.2.1 (ad 1) S', wHo G.2.1 (ad 3) cu ct (hput hs cu (b, P)), hsL G.2.1 (hput hs cu (b, P))]) h9 4 [1, 0, 2, 3] rfl rfl rfl
  refine kXi F w hst (LC := [wXo G.2.1 (ad 0) (xF ad) svx K, wHo G.2.1 (ad 3) cu ct (hput hs cu (b, P))]) (LR := [wSh G.2.1 (ad 1) S', hsL G.2.1 (hput hs cu (b, P))]) (As := [.int (nI r)]) (rest := []) (t_X6_settle_ok F.1 hr9 k1 k2) m_X6_settle v_X6_settle q638 (ci := 10) (q0 := 0) rfl rfl rfl 4 [0, 2, 1, 3] rfl rfl rfl ⟨Nat.le_of_ble_eq_true rfl, Nat.le_of_ble_eq_true rfl⟩ rfl hl.1 rfl (Nat.le_of_ble_eq_true rfl) dX6_removeStep_23 ⟨Nat.le_of_ble_eq_true rfl, Nat.le_of_ble_eq_true rfl⟩ (fun _ _ _ _ _ _ hx => False.elim hx) (fun r9 w1 H locs h9 w => ?_)
  obtain ⟨rfl, h9⟩ := h9
  have w := w.jn (L1 := [wXo G.2.1 (ad 0) (xF ad) svx K, wHo G.2.1 (ad 3) (nxt cu) (cap ct) (hput hs cu (b, P))]) (L' := [wXo G.2.1 (ad 0) (xF ad) svx K, wSh G.2.1 (ad 1) S', wHo G.2.1 (ad 3) (nxt cu) (cap ct) (hput hs cu (b, P)), hsL G.2.1 (hput hs cu (b, P))]) h9 4 [0, 2, 1, 3] rfl rfl rfl
  exact eiX F w hr hlocks rfl ⟨rfl, b, P, ⟨P0, hP⟩, rfl⟩ (Nat.le_of_ble_eq_true rfl) (Nat.le_of_ble_eq_true rfl) dX6_removeStep_26
set_option maxRecDepth 100000 in
set_option maxHeartbeats 4000000 in
theorem k_passDays_no {G : cG} (g : GOK G) (gM : MG G) {ad : Nat → Nat → Nat} {svx : Value} {K S : Mem} {cu ct : Nat} {hs : hS} {x1 : Int32} {E : String} (k1 : cu < 9) (hcp : ∀ P0, ∃ P, f_X4_copyFrom P0 S = some P) (e1 : f_X4_letPass S x1 = some (numE E, S)) (hE : E ∈ excL) : CX G yX6_passDays cX6_passDays 2 .int 8 123 15 167 [.ref ((ad 0) 0), .int x1] (fl [wXo G.2.1 (ad 0) (xF ad) svx K, wSh G.2.1 (ad 1) S, wHo G.2.1 (ad 3) cu ct hs, hsL G.2.1 hs]) (fun _ _ => False) (fun E' w1 => E' = E ∧ NoW G ad svx K S cu ct hs w1) := by
  refine CX.of g (by decide) rfl (Nat.le_of_ble_eq_true rfl) ?_
  intro p l e s m below meth c A ls hst htab F hr hlocks w hl
  generalize ([.ref ((ad 0) 0), .int x1] : List Value).toArray = args
  have hl : lv_has ls 2 [(0, .ref ((ad 0) 0)), (1, .int x1)] := hl
  have w : Wd G A s.heap (fl [wXo G.2.1 (ad 0) (xF ad) svx K, wSh G.2.1 (ad 1) S, wHo G.2.1 (ad 3) cu ct hs, hsL G.2.1 hs]) _ _ := w
  refine lv_aload_n F.x F.b dX6_passDays_0 rfl (lv_at hl 0 rfl) ?_
  refine rg F w cl6 0 rfl 2 (by decide) q262 rfl (v := .ref ((ad 3) 0)) rfl dX6_passDays_1 ?_
  refine lv_aload_n F.x F.b dX6_passDays_4 rfl (lv_at hl 0 rfl) ?_
  refine rg F w cl6 0 rfl 0 (by decide) q260 rfl (v := .ref ((ad 1) 0)) rfl dX6_passDays_5 ?_
  refine kXv F w hst (LC := [wHo G.2.1 (ad 3) cu ct hs, hsL G.2.1 hs, wSh G.2.1 (ad 1) S]) (LR := [wXo G.2.1 (ad 0) (xF ad) svx K]) (As := [.ref ((ad 1) 0)]) (rest := []) (t_X2_prepare F.1 k1 hcp) m_X2_prepare v_X2_prepare q616 (ci := 6) (q0 := 15) rfl rfl rfl 4 [2, 3, 1, 0] rfl rfl rfl ⟨Nat.le_of_ble_eq_true rfl, Nat.le_of_ble_eq_true rfl⟩ rfl hl.1 rfl (Nat.le_of_ble_eq_true rfl) dX6_passDays_8 ⟨Nat.le_of_ble_eq_true rfl, Nat.le_of_ble_eq_true rfl⟩ (fun _ _ _ _ _ _ hx => False.elim hx) (fun w1 H locs h9 w => ?_)
  obtain ⟨b, P, ⟨P0, hP⟩, h9⟩ := h9
  have w := w.jn (L1 := [wHo G.2.1 (ad 3) cu ct (hput hs cu (b, P)), hsL G.2.1 (hput hs cu (b, P)), wSh G.2.1 (ad 1) S]) (L' := [wXo G.2.1 (ad 0) (xF ad) svx K, wSh G.2.1 (ad 1) S, wHo G.2.1 (ad 3) cu ct (hput hs cu (b, P)), hsL G.2.1 (hput hs cu (b, P))]) h9 4 [3, 2, 0, 1] rfl rfl rfl
  have w : Wd G A s.heap (fl [wXo G.2.1 (ad 0) (xF ad) svx K, wSh G.2.1 (ad 1) S, wHo G.2.1 (ad 3) cu ct (hput hs cu (b, P)), hsL G.2.1 (hput hs cu (b, P))]) _ _ := w
  refine lv_aload_n F.x F.b dX6_passDays_11 rfl (lv_at hl 0 rfl) ?_
  refine lv_aload_n F.x F.b dX6_passDays_12 rfl (lv_at hl 0 rfl) ?_
  refine rg F w cl6 0 rfl 0 (by decide) q260 rfl (v := .ref ((ad 1) 0)) rfl dX6_passDays_13 ?_
  refine lv_iload_n F.x F.b dX6_passDays_16 rfl (lv_at hl 1 rfl) ?_
  refine kXi F w hst (LC := [wSh G.2.1 (ad 1) S]) (LR := [wXo G.2.1 (ad 0) (xF ad) svx K, wHo G.2.1 (ad 3) cu ct (hput hs cu (b, P)), hsL G.2.1 (hput hs cu (b, P))]) (As := [.int x1]) (rest := [.ref ((ad 0) 0)]) (t_X4_letPass F.1 e1).toX m_X4_letPass v_X4_letPass q562 (ci := 8) (q0 := 1) rfl rfl rfl 4 [1, 0, 2, 3] rfl rfl rfl ⟨Nat.le_of_ble_eq_true rfl, Nat.le_of_ble_eq_true rfl⟩ rfl hl.1 rfl (Nat.le_of_ble_eq_true rfl) dX6_passDays_17 ⟨Nat.le_of_ble_eq_true rfl, Nat.le_of_ble_eq_true rfl⟩ (fun _ _ _ _ _ _ hx => False.elim hx) (fun r9 w1 H locs h9 w => ?_)
  obtain ⟨rfl, h9⟩ := h9
  have w := w.jn (L1 := [wSh G.2.1 (ad 1) S]) (L' := [wXo G.2.1 (ad 0) (xF ad) svx K, wSh G.2.1 (ad 1) S, wHo G.2.1 (ad 3) cu ct (hput hs cu (b, P)), hsL G.2.1 (hput hs cu (b, P))]) h9 4 [1, 0, 2, 3] rfl rfl rfl
  refine kXi F w hst (LC := [wXo G.2.1 (ad 0) (xF ad) svx K, wHo G.2.1 (ad 3) cu ct (hput hs cu (b, P))]) (LR := [wSh G.2.1 (ad 1) S, hsL G.2.1 (hput hs cu (b, P))]) (As := [.int (numE E)]) (rest := []) (t_X6_settle_no F.1 gM hE) m_X6_settle v_X6_settle q638 (ci := 10) (q0 := 0) rfl rfl rfl 4 [0, 2, 1, 3] rfl rfl rfl ⟨Nat.le_of_ble_eq_true rfl, Nat.le_of_ble_eq_true rfl⟩ rfl hl.1 rfl (Nat.le_of_ble_eq_true rfl) dX6_passDays_20 ⟨Nat.le_of_ble_eq_true rfl, Nat.le_of_ble_eq_true rfl⟩ (fun E w1 ce q H locs hx w hce hcv hcl => by obtain ⟨rfl, hx⟩ := hx; exact exX (w.jn (L1 := [wXo G.2.1 (ad 0) (xF ad) svx K, wHo G.2.1 (ad 3) cu ct (hput hs cu (b, P))]) (L' := [wXo G.2.1 (ad 0) (xF ad) svx K, wSh G.2.1 (ad 1) S, wHo G.2.1 (ad 3) cu ct (hput hs cu (b, P)), hsL G.2.1 (hput hs cu (b, P))]) hx 4 [0, 2, 1, 3] rfl rfl rfl) htab hlocks hce hcv hcl ⟨rfl, b, P, ⟨P0, hP⟩, rfl⟩ (Nat.le_of_ble_eq_true rfl) (Nat.le_of_ble_eq_true rfl)) (fun r9 w1 H locs h9 w => ?_)
  exact False.elim h9
set_option maxRecDepth 100000 in
set_option maxHeartbeats 4000000 in
theorem k_passDays_ok {G : cG} (g : GOK G) {ad : Nat → Nat → Nat} {svx : Value} {K S S' : Mem} {cu ct : Nat} {hs : hS} {x1 : Int32} {r : Nat} (k1 : cu < 9) (hcp : ∀ P0, ∃ P, f_X4_copyFrom P0 S = some P) (k2 : ct ≤ 8) (hr9 : r < 2 ^ 31) (e1 : f_X4_letPass S x1 = some (nI r, S')) : CX G yX6_passDays cX6_passDays 2 .int 5 111 14 161 [.ref ((ad 0) 0), .int x1] (fl [wXo G.2.1 (ad 0) (xF ad) svx K, wSh G.2.1 (ad 1) S, wHo G.2.1 (ad 3) cu ct hs, hsL G.2.1 hs]) (fun r9 w1 => r9 = nI r ∧ YeW G ad svx K S S' cu ct hs w1) (fun _ _ => False) := by
  refine CX.of g (by decide) rfl (Nat.le_of_ble_eq_true rfl) ?_
  intro p l e s m below meth c A ls hst htab F hr hlocks w hl
  generalize ([.ref ((ad 0) 0), .int x1] : List Value).toArray = args
  have hl : lv_has ls 2 [(0, .ref ((ad 0) 0)), (1, .int x1)] := hl
  have w : Wd G A s.heap (fl [wXo G.2.1 (ad 0) (xF ad) svx K, wSh G.2.1 (ad 1) S, wHo G.2.1 (ad 3) cu ct hs, hsL G.2.1 hs]) _ _ := w
  refine lv_aload_n F.x F.b dX6_passDays_0 rfl (lv_at hl 0 rfl) ?_
  refine rg F w cl6 0 rfl 2 (by decide) q262 rfl (v := .ref ((ad 3) 0)) rfl dX6_passDays_1 ?_
  refine lv_aload_n F.x F.b dX6_passDays_4 rfl (lv_at hl 0 rfl) ?_
  refine rg F w cl6 0 rfl 0 (by decide) q260 rfl (v := .ref ((ad 1) 0)) rfl dX6_passDays_5 ?_
  refine kXv F w hst (LC := [wHo G.2.1 (ad 3) cu ct hs, hsL G.2.1 hs, wSh G.2.1 (ad 1) S]) (LR := [wXo G.2.1 (ad 0) (xF ad) svx K]) (As := [.ref ((ad 1) 0)]) (rest := []) (t_X2_prepare F.1 k1 hcp) m_X2_prepare v_X2_prepare q616 (ci := 6) (q0 := 15) rfl rfl rfl 4 [2, 3, 1, 0] rfl rfl rfl ⟨Nat.le_of_ble_eq_true rfl, Nat.le_of_ble_eq_true rfl⟩ rfl hl.1 rfl (Nat.le_of_ble_eq_true rfl) dX6_passDays_8 ⟨Nat.le_of_ble_eq_true rfl, Nat.le_of_ble_eq_true rfl⟩ (fun _ _ _ _ _ _ hx => False.elim hx) (fun w1 H locs h9 w => ?_)
  obtain ⟨b, P, ⟨P0, hP⟩, h9⟩ := h9
  have w := w.jn (L1 := [wHo G.2.1 (ad 3) cu ct (hput hs cu (b, P)), hsL G.2.1 (hput hs cu (b, P)), wSh G.2.1 (ad 1) S]) (L' := [wXo G.2.1 (ad 0) (xF ad) svx K, wSh G.2.1 (ad 1) S, wHo G.2.1 (ad 3) cu ct (hput hs cu (b, P)), hsL G.2.1 (hput hs cu (b, P))]) h9 4 [3, 2, 0, 1] rfl rfl rfl
  have w : Wd G A s.heap (fl [wXo G.2.1 (ad 0) (xF ad) svx K, wSh G.2.1 (ad 1) S, wHo G.2.1 (ad 3) cu ct (hput hs cu (b, P)), hsL G.2.1 (hput hs cu (b, P))]) _ _ := w
  refine lv_aload_n F.x F.b dX6_passDays_11 rfl (lv_at hl 0 rfl) ?_
  refine lv_aload_n F.x F.b dX6_passDays_12 rfl (lv_at hl 0 rfl) ?_
  refine rg F w cl6 0 rfl 0 (by decide) q260 rfl (v := .ref ((ad 1) 0)) rfl dX6_passDays_13 ?_
  refine lv_iload_n F.x F.b dX6_passDays_16 rfl (lv_at hl 1 rfl) ?_
  refine kXi F w hst (LC := [wSh G.2.1 (ad 1) S]) (LR := [wXo G.2.1 (ad 0) (xF ad) svx K, wHo G.2.1 (ad 3) cu ct (hput hs cu (b, P)), hsL G.2.1 (hput hs cu (b, P))]) (As := [.int x1]) (rest := [.ref ((ad 0) 0)]) (t_X4_letPass F.1 e1).toX m_X4_letPass v_X4_letPass q562 (ci := 8) (q0 := 1) rfl rfl rfl 4 [1, 0, 2, 3] rfl rfl rfl ⟨Nat.le_of_ble_eq_true rfl, Nat.le_of_ble_eq_true rfl⟩ rfl hl.1 rfl (Nat.le_of_ble_eq_true rfl) dX6_passDays_17 ⟨Nat.le_of_ble_eq_true rfl, Nat.le_of_ble_eq_true rfl⟩ (fun _ _ _ _ _ _ hx => False.elim hx) (fun r9 w1 H locs h9 w => ?_)
  obtain ⟨rfl, h9⟩ := h9
  have w := w.jn (L1 := [wSh G.2.1 (ad 1) S']) (L' := [wXo G.2.1 (ad 0) (xF ad) svx K, wSh G.2.1 (ad 1) S', wHo G.2.1 (ad 3) cu ct (hput hs cu (b, P)), hsL G.2.1 (hput hs cu (b, P))]) h9 4 [1, 0, 2, 3] rfl rfl rfl
  refine kXi F w hst (LC := [wXo G.2.1 (ad 0) (xF ad) svx K, wHo G.2.1 (ad 3) cu ct (hput hs cu (b, P))]) (LR := [wSh G.2.1 (ad 1) S', hsL G.2.1 (hput hs cu (b, P))]) (As := [.int (nI r)]) (rest := []) (t_X6_settle_ok F.1 hr9 k1 k2) m_X6_settle v_X6_settle q638 (ci := 10) (q0 := 0) rfl rfl rfl 4 [0, 2, 1, 3] rfl rfl rfl ⟨Nat.le_of_ble_eq_true rfl, Nat.le_of_ble_eq_true rfl⟩ rfl hl.1 rfl (Nat.le_of_ble_eq_true rfl) dX6_passDays_20 ⟨Nat.le_of_ble_eq_true rfl, Nat.le_of_ble_eq_true rfl⟩ (fun _ _ _ _ _ _ hx => False.elim hx) (fun r9 w1 H locs h9 w => ?_)
  obtain ⟨rfl, h9⟩ := h9
  have w := w.jn (L1 := [wXo G.2.1 (ad 0) (xF ad) svx K, wHo G.2.1 (ad 3) (nxt cu) (cap ct) (hput hs cu (b, P))]) (L' := [wXo G.2.1 (ad 0) (xF ad) svx K, wSh G.2.1 (ad 1) S', wHo G.2.1 (ad 3) (nxt cu) (cap ct) (hput hs cu (b, P)), hsL G.2.1 (hput hs cu (b, P))]) h9 4 [0, 2, 1, 3] rfl rfl rfl
  exact eiX F w hr hlocks rfl ⟨rfl, b, P, ⟨P0, hP⟩, rfl⟩ (Nat.le_of_ble_eq_true rfl) (Nat.le_of_ble_eq_true rfl) dX6_passDays_23
set_option maxRecDepth 100000 in
set_option maxHeartbeats 4000000 in
theorem k_enqueue_no {G : cG} (g : GOK G) (gM : MG G) {ad : Nat → Nat → Nat} {svx : Value} {K S : Mem} {cu ct : Nat} {hs : hS} {x1 : Int32} {E : String} (k1 : cu < 9) (hcp : ∀ P0, ∃ P, f_X4_copyFrom P0 S = some P) (e1 : f_X4_queueLot S x1 = some (numE E, S)) (hE : E ∈ excL) : CX G yX6_enqueue cX6_enqueue 2 .int 8 123 15 167 [.ref ((ad 0) 0), .int x1] (fl [wXo G.2.1 (ad 0) (xF ad) svx K, wSh G.2.1 (ad 1) S, wHo G.2.1 (ad 3) cu ct hs, hsL G.2.1 hs]) (fun _ _ => False) (fun E' w1 => E' = E ∧ NoW G ad svx K S cu ct hs w1) := by
  refine CX.of g (by decide) rfl (Nat.le_of_ble_eq_true rfl) ?_
  intro p l e s m below meth c A ls hst htab F hr hlocks w hl
  generalize ([.ref ((ad 0) 0), .int x1] : List Value).toArray = args
  have hl : lv_has ls 2 [(0, .ref ((ad 0) 0)), (1, .int x1)] := hl
  have w : Wd G A s.heap (fl [wXo G.2.1 (ad 0) (xF ad) svx K, wSh G.2.1 (ad 1) S, wHo G.2.1 (ad 3) cu ct hs, hsL G.2.1 hs]) _ _ := w
  refine lv_aload_n F.x F.b dX6_enqueue_0 rfl (lv_at hl 0 rfl) ?_
  refine rg F w cl6 0 rfl 2 (by decide) q262 rfl (v := .ref ((ad 3) 0)) rfl dX6_enqueue_1 ?_
  refine lv_aload_n F.x F.b dX6_enqueue_4 rfl (lv_at hl 0 rfl) ?_
  refine rg F w cl6 0 rfl 0 (by decide) q260 rfl (v := .ref ((ad 1) 0)) rfl dX6_enqueue_5 ?_
  refine kXv F w hst (LC := [wHo G.2.1 (ad 3) cu ct hs, hsL G.2.1 hs, wSh G.2.1 (ad 1) S]) (LR := [wXo G.2.1 (ad 0) (xF ad) svx K]) (As := [.ref ((ad 1) 0)]) (rest := []) (t_X2_prepare F.1 k1 hcp) m_X2_prepare v_X2_prepare q616 (ci := 6) (q0 := 15) rfl rfl rfl 4 [2, 3, 1, 0] rfl rfl rfl ⟨Nat.le_of_ble_eq_true rfl, Nat.le_of_ble_eq_true rfl⟩ rfl hl.1 rfl (Nat.le_of_ble_eq_true rfl) dX6_enqueue_8 ⟨Nat.le_of_ble_eq_true rfl, Nat.le_of_ble_eq_true rfl⟩ (fun _ _ _ _ _ _ hx => False.elim hx) (fun w1 H locs h9 w => ?_)
  obtain ⟨b, P, ⟨P0, hP⟩, h9⟩ := h9
  have w := w.jn (L1 := [wHo G.2.1 (ad 3) cu ct (hput hs cu (b, P)), hsL G.2.1 (hput hs cu (b, P)), wSh G.2.1 (ad 1) S]) (L' := [wXo G.2.1 (ad 0) (xF ad) svx K, wSh G.2.1 (ad 1) S, wHo G.2.1 (ad 3) cu ct (hput hs cu (b, P)), hsL G.2.1 (hput hs cu (b, P))]) h9 4 [3, 2, 0, 1] rfl rfl rfl
  have w : Wd G A s.heap (fl [wXo G.2.1 (ad 0) (xF ad) svx K, wSh G.2.1 (ad 1) S, wHo G.2.1 (ad 3) cu ct (hput hs cu (b, P)), hsL G.2.1 (hput hs cu (b, P))]) _ _ := w
  refine lv_aload_n F.x F.b dX6_enqueue_11 rfl (lv_at hl 0 rfl) ?_
  refine lv_aload_n F.x F.b dX6_enqueue_12 rfl (lv_at hl 0 rfl) ?_
  refine rg F w cl6 0 rfl 0 (by decide) q260 rfl (v := .ref ((ad 1) 0)) rfl dX6_enqueue_13 ?_
  refine lv_iload_n F.x F.b dX6_enqueue_16 rfl (lv_at hl 1 rfl) ?_
  refine kXi F w hst (LC := [wSh G.2.1 (ad 1) S]) (LR := [wXo G.2.1 (ad 0) (xF ad) svx K, wHo G.2.1 (ad 3) cu ct (hput hs cu (b, P)), hsL G.2.1 (hput hs cu (b, P))]) (As := [.int x1]) (rest := [.ref ((ad 0) 0)]) (t_X4_queueLot F.1 e1).toX m_X4_queueLot v_X4_queueLot q1158 (ci := 8) (q0 := 1) rfl rfl rfl 4 [1, 0, 2, 3] rfl rfl rfl ⟨Nat.le_of_ble_eq_true rfl, Nat.le_of_ble_eq_true rfl⟩ rfl hl.1 rfl (Nat.le_of_ble_eq_true rfl) dX6_enqueue_17 ⟨Nat.le_of_ble_eq_true rfl, Nat.le_of_ble_eq_true rfl⟩ (fun _ _ _ _ _ _ hx => False.elim hx) (fun r9 w1 H locs h9 w => ?_)
  obtain ⟨rfl, h9⟩ := h9
  have w := w.jn (L1 := [wSh G.2.1 (ad 1) S]) (L' := [wXo G.2.1 (ad 0) (xF ad) svx K, wSh G.2.1 (ad 1) S, wHo G.2.1 (ad 3) cu ct (hput hs cu (b, P)), hsL G.2.1 (hput hs cu (b, P))]) h9 4 [1, 0, 2, 3] rfl rfl rfl
  refine kXi F w hst (LC := [wXo G.2.1 (ad 0) (xF ad) svx K, wHo G.2.1 (ad 3) cu ct (hput hs cu (b, P))]) (LR := [wSh G.2.1 (ad 1) S, hsL G.2.1 (hput hs cu (b, P))]) (As := [.int (numE E)]) (rest := []) (t_X6_settle_no F.1 gM hE) m_X6_settle v_X6_settle q638 (ci := 10) (q0 := 0) rfl rfl rfl 4 [0, 2, 1, 3] rfl rfl rfl ⟨Nat.le_of_ble_eq_true rfl, Nat.le_of_ble_eq_true rfl⟩ rfl hl.1 rfl (Nat.le_of_ble_eq_true rfl) dX6_enqueue_20 ⟨Nat.le_of_ble_eq_true rfl, Nat.le_of_ble_eq_true rfl⟩ (fun E w1 ce q H locs hx w hce hcv hcl => by obtain ⟨rfl, hx⟩ := hx; exact exX (w.jn (L1 := [wXo G.2.1 (ad 0) (xF ad) svx K, wHo G.2.1 (ad 3) cu ct (hput hs cu (b, P))]) (L' := [wXo G.2.1 (ad 0) (xF ad) svx K, wSh G.2.1 (ad 1) S, wHo G.2.1 (ad 3) cu ct (hput hs cu (b, P)), hsL G.2.1 (hput hs cu (b, P))]) hx 4 [0, 2, 1, 3] rfl rfl rfl) htab hlocks hce hcv hcl ⟨rfl, b, P, ⟨P0, hP⟩, rfl⟩ (Nat.le_of_ble_eq_true rfl) (Nat.le_of_ble_eq_true rfl)) (fun r9 w1 H locs h9 w => ?_)
  exact False.elim h9
set_option maxRecDepth 100000 in
set_option maxHeartbeats 4000000 in
theorem k_enqueue_ok {G : cG} (g : GOK G) {ad : Nat → Nat → Nat} {svx : Value} {K S S' : Mem} {cu ct : Nat} {hs : hS} {x1 : Int32} {r : Nat} (k1 : cu < 9) (hcp : ∀ P0, ∃ P, f_X4_copyFrom P0 S = some P) (k2 : ct ≤ 8) (hr9 : r < 2 ^ 31) (e1 : f_X4_queueLot S x1 = some (nI r, S')) : CX G yX6_enqueue cX6_enqueue 2 .int 4 88 14 161 [.ref ((ad 0) 0), .int x1] (fl [wXo G.2.1 (ad 0) (xF ad) svx K, wSh G.2.1 (ad 1) S, wHo G.2.1 (ad 3) cu ct hs, hsL G.2.1 hs]) (fun r9 w1 => r9 = nI r ∧ YeW G ad svx K S S' cu ct hs w1) (fun _ _ => False) := by
  refine CX.of g (by decide) rfl (Nat.le_of_ble_eq_true rfl) ?_
  intro p l e s m below meth c A ls hst htab F hr hlocks w hl
  generalize ([.ref ((ad 0) 0), .int x1] : List Value).toArray = args
  have hl : lv_has ls 2 [(0, .ref ((ad 0) 0)), (1, .int x1)] := hl
  have w : Wd G A s.heap (fl [wXo G.2.1 (ad 0) (xF ad) svx K, wSh G.2.1 (ad 1) S, wHo G.2.1 (ad 3) cu ct hs, hsL G.2.1 hs]) _ _ := w
  refine lv_aload_n F.x F.b dX6_enqueue_0 rfl (lv_at hl 0 rfl) ?_
  refine rg F w cl6 0 rfl 2 (by decide) q262 rfl (v := .ref ((ad 3) 0)) rfl dX6_enqueue_1 ?_
  refine lv_aload_n F.x F.b dX6_enqueue_4 rfl (lv_at hl 0 rfl) ?_
  refine rg F w cl6 0 rfl 0 (by decide) q260 rfl (v := .ref ((ad 1) 0)) rfl dX6_enqueue_5 ?_
  refine kXv F w hst (LC := [wHo G.2.1 (ad 3) cu ct hs, hsL G.2.1 hs, wSh G.2.1 (ad 1) S]) (LR := [wXo G.2.1 (ad 0) (xF ad) svx K]) (As := [.ref ((ad 1) 0)]) (rest := []) (t_X2_prepare F.1 k1 hcp) m_X2_prepare v_X2_prepare q616 (ci := 6) (q0 := 15) rfl rfl rfl 4 [2, 3, 1, 0] rfl rfl rfl ⟨Nat.le_of_ble_eq_true rfl, Nat.le_of_ble_eq_true rfl⟩ rfl hl.1 rfl (Nat.le_of_ble_eq_true rfl) dX6_enqueue_8 ⟨Nat.le_of_ble_eq_true rfl, Nat.le_of_ble_eq_true rfl⟩ (fun _ _ _ _ _ _ hx => False.elim hx) (fun w1 H locs h9 w => ?_)
  obtain ⟨b, P, ⟨P0, hP⟩, h9⟩ := h9
  have w := w.jn (L1 := [wHo G.2.1 (ad 3) cu ct (hput hs cu (b, P)), hsL G.2.1 (hput hs cu (b, P)), wSh G.2.1 (ad 1) S]) (L' := [wXo G.2.1 (ad 0) (xF ad) svx K, wSh G.2.1 (ad 1) S, wHo G.2.1 (ad 3) cu ct (hput hs cu (b, P)), hsL G.2.1 (hput hs cu (b, P))]) h9 4 [3, 2, 0, 1] rfl rfl rfl
  have w : Wd G A s.heap (fl [wXo G.2.1 (ad 0) (xF ad) svx K, wSh G.2.1 (ad 1) S, wHo G.2.1 (ad 3) cu ct (hput hs cu (b, P)), hsL G.2.1 (hput hs cu (b, P))]) _ _ := w
  refine lv_aload_n F.x F.b dX6_enqueue_11 rfl (lv_at hl 0 rfl) ?_
  refine lv_aload_n F.x F.b dX6_enqueue_12 rfl (lv_at hl 0 rfl) ?_
  refine rg F w cl6 0 rfl 0 (by decide) q260 rfl (v := .ref ((ad 1) 0)) rfl dX6_enqueue_13 ?_
  refine lv_iload_n F.x F.b dX6_enqueue_16 rfl (lv_at hl 1 rfl) ?_
  refine kXi F w hst (LC := [wSh G.2.1 (ad 1) S]) (LR := [wXo G.2.1 (ad 0) (xF ad) svx K, wHo G.2.1 (ad 3) cu ct (hput hs cu (b, P)), hsL G.2.1 (hput hs cu (b, P))]) (As := [.int x1]) (rest := [.ref ((ad 0) 0)]) (t_X4_queueLot F.1 e1).toX m_X4_queueLot v_X4_queueLot q1158 (ci := 8) (q0 := 1) rfl rfl rfl 4 [1, 0, 2, 3] rfl rfl rfl ⟨Nat.le_of_ble_eq_true rfl, Nat.le_of_ble_eq_true rfl⟩ rfl hl.1 rfl (Nat.le_of_ble_eq_true rfl) dX6_enqueue_17 ⟨Nat.le_of_ble_eq_true rfl, Nat.le_of_ble_eq_true rfl⟩ (fun _ _ _ _ _ _ hx => False.elim hx) (fun r9 w1 H locs h9 w => ?_)
  obtain ⟨rfl, h9⟩ := h9
  have w := w.jn (L1 := [wSh G.2.1 (ad 1) S']) (L' := [wXo G.2.1 (ad 0) (xF ad) svx K, wSh G.2.1 (ad 1) S', wHo G.2.1 (ad 3) cu ct (hput hs cu (b, P)), hsL G.2.1 (hput hs cu (b, P))]) h9 4 [1, 0, 2, 3] rfl rfl rfl
  refine kXi F w hst (LC := [wXo G.2.1 (ad 0) (xF ad) svx K, wHo G.2.1 (ad 3) cu ct (hput hs cu (b, P))]) (LR := [wSh G.2.1 (ad 1) S', hsL G.2.1 (hput hs cu (b, P))]) (As := [.int (nI r)]) (rest := []) (t_X6_settle_ok F.1 hr9 k1 k2) m_X6_settle v_X6_settle q638 (ci := 10) (q0 := 0) rfl rfl rfl 4 [0, 2, 1, 3] rfl rfl rfl ⟨Nat.le_of_ble_eq_true rfl, Nat.le_of_ble_eq_true rfl⟩ rfl hl.1 rfl (Nat.le_of_ble_eq_true rfl) dX6_enqueue_20 ⟨Nat.le_of_ble_eq_true rfl, Nat.le_of_ble_eq_true rfl⟩ (fun _ _ _ _ _ _ hx => False.elim hx) (fun r9 w1 H locs h9 w => ?_)
  obtain ⟨rfl, h9⟩ := h9
  have w := w.jn (L1 := [wXo G.2.1 (ad 0) (xF ad) svx K, wHo G.2.1 (ad 3) (nxt cu) (cap ct) (hput hs cu (b, P))]) (L' := [wXo G.2.1 (ad 0) (xF ad) svx K, wSh G.2.1 (ad 1) S', wHo G.2.1 (ad 3) (nxt cu) (cap ct) (hput hs cu (b, P)), hsL G.2.1 (hput hs cu (b, P))]) h9 4 [0, 2, 1, 3] rfl rfl rfl
  exact eiX F w hr hlocks rfl ⟨rfl, b, P, ⟨P0, hP⟩, rfl⟩ (Nat.le_of_ble_eq_true rfl) (Nat.le_of_ble_eq_true rfl) dX6_enqueue_23
set_option maxRecDepth 100000 in
set_option maxHeartbeats 4000000 in
theorem k_audit_no {G : cG} (g : GOK G) (gM : MG G) {ad : Nat → Nat → Nat} {svx : Value} {K S : Mem} {cu ct : Nat} {hs : hS} {E : String} (k1 : cu < 9) (hcp : ∀ P0, ∃ P, f_X4_copyFrom P0 S = some P) (e1 : f_X4_auditFirst S = some (numE E, S)) (hE : E ∈ excL) : CX G yX6_audit cX6_audit 1 .int 8 123 15 167 [.ref ((ad 0) 0)] (fl [wXo G.2.1 (ad 0) (xF ad) svx K, wSh G.2.1 (ad 1) S, wHo G.2.1 (ad 3) cu ct hs, hsL G.2.1 hs]) (fun _ _ => False) (fun E' w1 => E' = E ∧ NoW G ad svx K S cu ct hs w1) := by
  refine CX.of g (by decide) rfl (Nat.le_of_ble_eq_true rfl) ?_
  intro p l e s m below meth c A ls hst htab F hr hlocks w hl
  generalize ([.ref ((ad 0) 0)] : List Value).toArray = args
  have hl : lv_has ls 1 [(0, .ref ((ad 0) 0))] := hl
  have w : Wd G A s.heap (fl [wXo G.2.1 (ad 0) (xF ad) svx K, wSh G.2.1 (ad 1) S, wHo G.2.1 (ad 3) cu ct hs, hsL G.2.1 hs]) _ _ := w
  refine lv_aload_n F.x F.b dX6_audit_0 rfl (lv_at hl 0 rfl) ?_
  refine rg F w cl6 0 rfl 2 (by decide) q262 rfl (v := .ref ((ad 3) 0)) rfl dX6_audit_1 ?_
  refine lv_aload_n F.x F.b dX6_audit_4 rfl (lv_at hl 0 rfl) ?_
  refine rg F w cl6 0 rfl 0 (by decide) q260 rfl (v := .ref ((ad 1) 0)) rfl dX6_audit_5 ?_
  refine kXv F w hst (LC := [wHo G.2.1 (ad 3) cu ct hs, hsL G.2.1 hs, wSh G.2.1 (ad 1) S]) (LR := [wXo G.2.1 (ad 0) (xF ad) svx K]) (As := [.ref ((ad 1) 0)]) (rest := []) (t_X2_prepare F.1 k1 hcp) m_X2_prepare v_X2_prepare q616 (ci := 6) (q0 := 15) rfl rfl rfl 4 [2, 3, 1, 0] rfl rfl rfl ⟨Nat.le_of_ble_eq_true rfl, Nat.le_of_ble_eq_true rfl⟩ rfl hl.1 rfl (Nat.le_of_ble_eq_true rfl) dX6_audit_8 ⟨Nat.le_of_ble_eq_true rfl, Nat.le_of_ble_eq_true rfl⟩ (fun _ _ _ _ _ _ hx => False.elim hx) (fun w1 H locs h9 w => ?_)
  obtain ⟨b, P, ⟨P0, hP⟩, h9⟩ := h9
  have w := w.jn (L1 := [wHo G.2.1 (ad 3) cu ct (hput hs cu (b, P)), hsL G.2.1 (hput hs cu (b, P)), wSh G.2.1 (ad 1) S]) (L' := [wXo G.2.1 (ad 0) (xF ad) svx K, wSh G.2.1 (ad 1) S, wHo G.2.1 (ad 3) cu ct (hput hs cu (b, P)), hsL G.2.1 (hput hs cu (b, P))]) h9 4 [3, 2, 0, 1] rfl rfl rfl
  have w : Wd G A s.heap (fl [wXo G.2.1 (ad 0) (xF ad) svx K, wSh G.2.1 (ad 1) S, wHo G.2.1 (ad 3) cu ct (hput hs cu (b, P)), hsL G.2.1 (hput hs cu (b, P))]) _ _ := w
  refine lv_aload_n F.x F.b dX6_audit_11 rfl (lv_at hl 0 rfl) ?_
  refine lv_aload_n F.x F.b dX6_audit_12 rfl (lv_at hl 0 rfl) ?_
  refine rg F w cl6 0 rfl 0 (by decide) q260 rfl (v := .ref ((ad 1) 0)) rfl dX6_audit_13 ?_
  refine kXi F w hst (LC := [wSh G.2.1 (ad 1) S]) (LR := [wXo G.2.1 (ad 0) (xF ad) svx K, wHo G.2.1 (ad 3) cu ct (hput hs cu (b, P)), hsL G.2.1 (hput hs cu (b, P))]) (As := []) (rest := [.ref ((ad 0) 0)]) (t_X4_auditFirst F.1 e1).toX m_X4_auditFirst v_X4_auditFirst q694 (ci := 8) (q0 := 1) rfl rfl rfl 4 [1, 0, 2, 3] rfl rfl rfl ⟨Nat.le_of_ble_eq_true rfl, Nat.le_of_ble_eq_true rfl⟩ rfl hl.1 rfl (Nat.le_of_ble_eq_true rfl) dX6_audit_16 ⟨Nat.le_of_ble_eq_true rfl, Nat.le_of_ble_eq_true rfl⟩ (fun _ _ _ _ _ _ hx => False.elim hx) (fun r9 w1 H locs h9 w => ?_)
  obtain ⟨rfl, h9⟩ := h9
  have w := w.jn (L1 := [wSh G.2.1 (ad 1) S]) (L' := [wXo G.2.1 (ad 0) (xF ad) svx K, wSh G.2.1 (ad 1) S, wHo G.2.1 (ad 3) cu ct (hput hs cu (b, P)), hsL G.2.1 (hput hs cu (b, P))]) h9 4 [1, 0, 2, 3] rfl rfl rfl
  refine kXi F w hst (LC := [wXo G.2.1 (ad 0) (xF ad) svx K, wHo G.2.1 (ad 3) cu ct (hput hs cu (b, P))]) (LR := [wSh G.2.1 (ad 1) S, hsL G.2.1 (hput hs cu (b, P))]) (As := [.int (numE E)]) (rest := []) (t_X6_settle_no F.1 gM hE) m_X6_settle v_X6_settle q638 (ci := 10) (q0 := 0) rfl rfl rfl 4 [0, 2, 1, 3] rfl rfl rfl ⟨Nat.le_of_ble_eq_true rfl, Nat.le_of_ble_eq_true rfl⟩ rfl hl.1 rfl (Nat.le_of_ble_eq_true rfl) dX6_audit_19 ⟨Nat.le_of_ble_eq_true rfl, Nat.le_of_ble_eq_true rfl⟩ (fun E w1 ce q H locs hx w hce hcv hcl => by obtain ⟨rfl, hx⟩ := hx; exact exX (w.jn (L1 := [wXo G.2.1 (ad 0) (xF ad) svx K, wHo G.2.1 (ad 3) cu ct (hput hs cu (b, P))]) (L' := [wXo G.2.1 (ad 0) (xF ad) svx K, wSh G.2.1 (ad 1) S, wHo G.2.1 (ad 3) cu ct (hput hs cu (b, P)), hsL G.2.1 (hput hs cu (b, P))]) hx 4 [0, 2, 1, 3] rfl rfl rfl) htab hlocks hce hcv hcl ⟨rfl, b, P, ⟨P0, hP⟩, rfl⟩ (Nat.le_of_ble_eq_true rfl) (Nat.le_of_ble_eq_true rfl)) (fun r9 w1 H locs h9 w => ?_)
  exact False.elim h9
set_option maxRecDepth 100000 in
set_option maxHeartbeats 4000000 in
theorem k_audit_ok {G : cG} (g : GOK G) {ad : Nat → Nat → Nat} {svx : Value} {K S S' : Mem} {cu ct : Nat} {hs : hS} {r : Nat} (k1 : cu < 9) (hcp : ∀ P0, ∃ P, f_X4_copyFrom P0 S = some P) (k2 : ct ≤ 8) (hr9 : r < 2 ^ 31) (e1 : f_X4_auditFirst S = some (nI r, S')) : CX G yX6_audit cX6_audit 1 .int 4 88 14 161 [.ref ((ad 0) 0)] (fl [wXo G.2.1 (ad 0) (xF ad) svx K, wSh G.2.1 (ad 1) S, wHo G.2.1 (ad 3) cu ct hs, hsL G.2.1 hs]) (fun r9 w1 => r9 = nI r ∧ YeW G ad svx K S S' cu ct hs w1) (fun _ _ => False) := by
  refine CX.of g (by decide) rfl (Nat.le_of_ble_eq_true rfl) ?_
  intro p l e s m below meth c A ls hst htab F hr hlocks w hl
  generalize ([.ref ((ad 0) 0)] : List Value).toArray = args
  have hl : lv_has ls 1 [(0, .ref ((ad 0) 0))] := hl
  have w : Wd G A s.heap (fl [wXo G.2.1 (ad 0) (xF ad) svx K, wSh G.2.1 (ad 1) S, wHo G.2.1 (ad 3) cu ct hs, hsL G.2.1 hs]) _ _ := w
  refine lv_aload_n F.x F.b dX6_audit_0 rfl (lv_at hl 0 rfl) ?_
  refine rg F w cl6 0 rfl 2 (by decide) q262 rfl (v := .ref ((ad 3) 0)) rfl dX6_audit_1 ?_
  refine lv_aload_n F.x F.b dX6_audit_4 rfl (lv_at hl 0 rfl) ?_
  refine rg F w cl6 0 rfl 0 (by decide) q260 rfl (v := .ref ((ad 1) 0)) rfl dX6_audit_5 ?_
  refine kXv F w hst (LC := [wHo G.2.1 (ad 3) cu ct hs, hsL G.2.1 hs, wSh G.2.1 (ad 1) S]) (LR := [wXo G.2.1 (ad 0) (xF ad) svx K]) (As := [.ref ((ad 1) 0)]) (rest := []) (t_X2_prepare F.1 k1 hcp) m_X2_prepare v_X2_prepare q616 (ci := 6) (q0 := 15) rfl rfl rfl 4 [2, 3, 1, 0] rfl rfl rfl ⟨Nat.le_of_ble_eq_true rfl, Nat.le_of_ble_eq_true rfl⟩ rfl hl.1 rfl (Nat.le_of_ble_eq_true rfl) dX6_audit_8 ⟨Nat.le_of_ble_eq_true rfl, Nat.le_of_ble_eq_true rfl⟩ (fun _ _ _ _ _ _ hx => False.elim hx) (fun w1 H locs h9 w => ?_)
  obtain ⟨b, P, ⟨P0, hP⟩, h9⟩ := h9
  have w := w.jn (L1 := [wHo G.2.1 (ad 3) cu ct (hput hs cu (b, P)), hsL G.2.1 (hput hs cu (b, P)), wSh G.2.1 (ad 1) S]) (L' := [wXo G.2.1 (ad 0) (xF ad) svx K, wSh G.2.1 (ad 1) S, wHo G.2.1 (ad 3) cu ct (hput hs cu (b, P)), hsL G.2.1 (hput hs cu (b, P))]) h9 4 [3, 2, 0, 1] rfl rfl rfl
  have w : Wd G A s.heap (fl [wXo G.2.1 (ad 0) (xF ad) svx K, wSh G.2.1 (ad 1) S, wHo G.2.1 (ad 3) cu ct (hput hs cu (b, P)), hsL G.2.1 (hput hs cu (b, P))]) _ _ := w
  refine lv_aload_n F.x F.b dX6_audit_11 rfl (lv_at hl 0 rfl) ?_
  refine lv_aload_n F.x F.b dX6_audit_12 rfl (lv_at hl 0 rfl) ?_
  refine rg F w cl6 0 rfl 0 (by decide) q260 rfl (v := .ref ((ad 1) 0)) rfl dX6_audit_13 ?_
  refine kXi F w hst (LC := [wSh G.2.1 (ad 1) S]) (LR := [wXo G.2.1 (ad 0) (xF ad) svx K, wHo G.2.1 (ad 3) cu ct (hput hs cu (b, P)), hsL G.2.1 (hput hs cu (b, P))]) (As := []) (rest := [.ref ((ad 0) 0)]) (t_X4_auditFirst F.1 e1).toX m_X4_auditFirst v_X4_auditFirst q694 (ci := 8) (q0 := 1) rfl rfl rfl 4 [1, 0, 2, 3] rfl rfl rfl ⟨Nat.le_of_ble_eq_true rfl, Nat.le_of_ble_eq_true rfl⟩ rfl hl.1 rfl (Nat.le_of_ble_eq_true rfl) dX6_audit_16 ⟨Nat.le_of_ble_eq_true rfl, Nat.le_of_ble_eq_true rfl⟩ (fun _ _ _ _ _ _ hx => False.elim hx) (fun r9 w1 H locs h9 w => ?_)
  obtain ⟨rfl, h9⟩ := h9
  have w := w.jn (L1 := [wSh G.2.1 (ad 1) S']) (L' := [wXo G.2.1 (ad 0) (xF ad) svx K, wSh G.2.1 (ad 1) S', wHo G.2.1 (ad 3) cu ct (hput hs cu (b, P)), hsL G.2.1 (hput hs cu (b, P))]) h9 4 [1, 0, 2, 3] rfl rfl rfl
  refine kXi F w hst (LC := [wXo G.2.1 (ad 0) (xF ad) svx K, wHo G.2.1 (ad 3) cu ct (hput hs cu (b, P))]) (LR := [wSh G.2.1 (ad 1) S', hsL G.2.1 (hput hs cu (b, P))]) (As := [.int (nI r)]) (rest := []) (t_X6_settle_ok F.1 hr9 k1 k2) m_X6_settle v_X6_settle q638 (ci := 10) (q0 := 0) rfl rfl rfl 4 [0, 2, 1, 3] rfl rfl rfl ⟨Nat.le_of_ble_eq_true rfl, Nat.le_of_ble_eq_true rfl⟩ rfl hl.1 rfl (Nat.le_of_ble_eq_true rfl) dX6_audit_19 ⟨Nat.le_of_ble_eq_true rfl, Nat.le_of_ble_eq_true rfl⟩ (fun _ _ _ _ _ _ hx => False.elim hx) (fun r9 w1 H locs h9 w => ?_)
  obtain ⟨rfl, h9⟩ := h9
  have w := w.jn (L1 := [wXo G.2.1 (ad 0) (xF ad) svx K, wHo G.2.1 (ad 3) (nxt cu) (cap ct) (hput hs cu (b, P))]) (L' := [wXo G.2.1 (ad 0) (xF ad) svx K, wSh G.2.1 (ad 1) S', wHo G.2.1 (ad 3) (nxt cu) (cap ct) (hput hs cu (b, P)), hsL G.2.1 (hput hs cu (b, P))]) h9 4 [0, 2, 1, 3] rfl rfl rfl
  exact eiX F w hr hlocks rfl ⟨rfl, b, P, ⟨P0, hP⟩, rfl⟩ (Nat.le_of_ble_eq_true rfl) (Nat.le_of_ble_eq_true rfl) dX6_audit_22
set_option maxRecDepth 100000 in
set_option maxHeartbeats 4000000 in
theorem k_deposit_no {G : cG} (g : GOK G) (gM : MG G) {ad : Nat → Nat → Nat} {svx : Value} {K S : Mem} {cu ct : Nat} {hs : hS} {x1 : Int32} {E : String} (k1 : cu < 9) (hcp : ∀ P0, ∃ P, f_X4_copyFrom P0 S = some P) (e1 : f_X4_takeCoins S x1 = some (numE E, S)) (hE : E ∈ excL) : CX G yX6_deposit cX6_deposit 2 .int 8 123 15 167 [.ref ((ad 0) 0), .int x1] (fl [wXo G.2.1 (ad 0) (xF ad) svx K, wSh G.2.1 (ad 1) S, wHo G.2.1 (ad 3) cu ct hs, hsL G.2.1 hs]) (fun _ _ => False) (fun E' w1 => E' = E ∧ NoW G ad svx K S cu ct hs w1) := by
  refine CX.of g (by decide) rfl (Nat.le_of_ble_eq_true rfl) ?_
  intro p l e s m below meth c A ls hst htab F hr hlocks w hl
  generalize ([.ref ((ad 0) 0), .int x1] : List Value).toArray = args
  have hl : lv_has ls 2 [(0, .ref ((ad 0) 0)), (1, .int x1)] := hl
  have w : Wd G A s.heap (fl [wXo G.2.1 (ad 0) (xF ad) svx K, wSh G.2.1 (ad 1) S, wHo G.2.1 (ad 3) cu ct hs, hsL G.2.1 hs]) _ _ := w
  refine lv_aload_n F.x F.b dX6_deposit_0 rfl (lv_at hl 0 rfl) ?_
  refine rg F w cl6 0 rfl 2 (by decide) q262 rfl (v := .ref ((ad 3) 0)) rfl dX6_deposit_1 ?_
  refine lv_aload_n F.x F.b dX6_deposit_4 rfl (lv_at hl 0 rfl) ?_
  refine rg F w cl6 0 rfl 0 (by decide) q260 rfl (v := .ref ((ad 1) 0)) rfl dX6_deposit_5 ?_
  refine kXv F w hst (LC := [wHo G.2.1 (ad 3) cu ct hs, hsL G.2.1 hs, wSh G.2.1 (ad 1) S]) (LR := [wXo G.2.1 (ad 0) (xF ad) svx K]) (As := [.ref ((ad 1) 0)]) (rest := []) (t_X2_prepare F.1 k1 hcp) m_X2_prepare v_X2_prepare q616 (ci := 6) (q0 := 15) rfl rfl rfl 4 [2, 3, 1, 0] rfl rfl rfl ⟨Nat.le_of_ble_eq_true rfl, Nat.le_of_ble_eq_true rfl⟩ rfl hl.1 rfl (Nat.le_of_ble_eq_true rfl) dX6_deposit_8 ⟨Nat.le_of_ble_eq_true rfl, Nat.le_of_ble_eq_true rfl⟩ (fun _ _ _ _ _ _ hx => False.elim hx) (fun w1 H locs h9 w => ?_)
  obtain ⟨b, P, ⟨P0, hP⟩, h9⟩ := h9
  have w := w.jn (L1 := [wHo G.2.1 (ad 3) cu ct (hput hs cu (b, P)), hsL G.2.1 (hput hs cu (b, P)), wSh G.2.1 (ad 1) S]) (L' := [wXo G.2.1 (ad 0) (xF ad) svx K, wSh G.2.1 (ad 1) S, wHo G.2.1 (ad 3) cu ct (hput hs cu (b, P)), hsL G.2.1 (hput hs cu (b, P))]) h9 4 [3, 2, 0, 1] rfl rfl rfl
  have w : Wd G A s.heap (fl [wXo G.2.1 (ad 0) (xF ad) svx K, wSh G.2.1 (ad 1) S, wHo G.2.1 (ad 3) cu ct (hput hs cu (b, P)), hsL G.2.1 (hput hs cu (b, P))]) _ _ := w
  refine lv_aload_n F.x F.b dX6_deposit_11 rfl (lv_at hl 0 rfl) ?_
  refine lv_aload_n F.x F.b dX6_deposit_12 rfl (lv_at hl 0 rfl) ?_
  refine rg F w cl6 0 rfl 0 (by decide) q260 rfl (v := .ref ((ad 1) 0)) rfl dX6_deposit_13 ?_
  refine lv_iload_n F.x F.b dX6_deposit_16 rfl (lv_at hl 1 rfl) ?_
  refine kXi F w hst (LC := [wSh G.2.1 (ad 1) S]) (LR := [wXo G.2.1 (ad 0) (xF ad) svx K, wHo G.2.1 (ad 3) cu ct (hput hs cu (b, P)), hsL G.2.1 (hput hs cu (b, P))]) (As := [.int x1]) (rest := [.ref ((ad 0) 0)]) (t_X4_takeCoins F.1 e1).toX m_X4_takeCoins v_X4_takeCoins q706 (ci := 8) (q0 := 1) rfl rfl rfl 4 [1, 0, 2, 3] rfl rfl rfl ⟨Nat.le_of_ble_eq_true rfl, Nat.le_of_ble_eq_true rfl⟩ rfl hl.1 rfl (Nat.le_of_ble_eq_true rfl) dX6_deposit_17 ⟨Nat.le_of_ble_eq_true rfl, Nat.le_of_ble_eq_true rfl⟩ (fun _ _ _ _ _ _ hx => False.elim hx) (fun r9 w1 H locs h9 w => ?_)
  obtain ⟨rfl, h9⟩ := h9
  have w := w.jn (L1 := [wSh G.2.1 (ad 1) S]) (L' := [wXo G.2.1 (ad 0) (xF ad) svx K, wSh G.2.1 (ad 1) S, wHo G.2.1 (ad 3) cu ct (hput hs cu (b, P)), hsL G.2.1 (hput hs cu (b, P))]) h9 4 [1, 0, 2, 3] rfl rfl rfl
  refine kXi F w hst (LC := [wXo G.2.1 (ad 0) (xF ad) svx K, wHo G.2.1 (ad 3) cu ct (hput hs cu (b, P))]) (LR := [wSh G.2.1 (ad 1) S, hsL G.2.1 (hput hs cu (b, P))]) (As := [.int (numE E)]) (rest := []) (t_X6_settle_no F.1 gM hE) m_X6_settle v_X6_settle q638 (ci := 10) (q0 := 0) rfl rfl rfl 4 [0, 2, 1, 3] rfl rfl rfl ⟨Nat.le_of_ble_eq_true rfl, Nat.le_of_ble_eq_true rfl⟩ rfl hl.1 rfl (Nat.le_of_ble_eq_true rfl) dX6_deposit_20 ⟨Nat.le_of_ble_eq_true rfl, Nat.le_of_ble_eq_true rfl⟩ (fun E w1 ce q H locs hx w hce hcv hcl => by obtain ⟨rfl, hx⟩ := hx; exact exX (w.jn (L1 := [wXo G.2.1 (ad 0) (xF ad) svx K, wHo G.2.1 (ad 3) cu ct (hput hs cu (b, P))]) (L' := [wXo G.2.1 (ad 0) (xF ad) svx K, wSh G.2.1 (ad 1) S, wHo G.2.1 (ad 3) cu ct (hput hs cu (b, P)), hsL G.2.1 (hput hs cu (b, P))]) hx 4 [0, 2, 1, 3] rfl rfl rfl) htab hlocks hce hcv hcl ⟨rfl, b, P, ⟨P0, hP⟩, rfl⟩ (Nat.le_of_ble_eq_true rfl) (Nat.le_of_ble_eq_true rfl)) (fun r9 w1 H locs h9 w => ?_)
  exact False.elim h9
set_option maxRecDepth 100000 in
set_option maxHeartbeats 4000000 in
theorem k_deposit_ok {G : cG} (g : GOK G) {ad : Nat → Nat → Nat} {svx : Value} {K S S' : Mem} {cu ct : Nat} {hs : hS} {x1 : Int32} {r : Nat} (k1 : cu < 9) (hcp : ∀ P0, ∃ P, f_X4_copyFrom P0 S = some P) (k2 : ct ≤ 8) (hr9 : r < 2 ^ 31) (e1 : f_X4_takeCoins S x1 = some (nI r, S')) : CX G yX6_deposit cX6_deposit 2 .int 4 88 14 161 [.ref ((ad 0) 0), .int x1] (fl [wXo G.2.1 (ad 0) (xF ad) svx K, wSh G.2.1 (ad 1) S, wHo G.2.1 (ad 3) cu ct hs, hsL G.2.1 hs]) (fun r9 w1 => r9 = nI r ∧ YeW G ad svx K S S' cu ct hs w1) (fun _ _ => False) := by
  refine CX.of g (by decide) rfl (Nat.le_of_ble_eq_true rfl) ?_
  intro p l e s m below meth c A ls hst htab F hr hlocks w hl
  generalize ([.ref ((ad 0) 0), .int x1] : List Value).toArray = args
  have hl : lv_has ls 2 [(0, .ref ((ad 0) 0)), (1, .int x1)] := hl
  have w : Wd G A s.heap (fl [wXo G.2.1 (ad 0) (xF ad) svx K, wSh G.2.1 (ad 1) S, wHo G.2.1 (ad 3) cu ct hs, hsL G.2.1 hs]) _ _ := w
  refine lv_aload_n F.x F.b dX6_deposit_0 rfl (lv_at hl 0 rfl) ?_
  refine rg F w cl6 0 rfl 2 (by decide) q262 rfl (v := .ref ((ad 3) 0)) rfl dX6_deposit_1 ?_
  refine lv_aload_n F.x F.b dX6_deposit_4 rfl (lv_at hl 0 rfl) ?_
  refine rg F w cl6 0 rfl 0 (by decide) q260 rfl (v := .ref ((ad 1) 0)) rfl dX6_deposit_5 ?_
  refine kXv F w hst (LC := [wHo G.2.1 (ad 3) cu ct hs, hsL G.2.1 hs, wSh G.2.1 (ad 1) S]) (LR := [wXo G.2.1 (ad 0) (xF ad) svx K]) (As := [.ref ((ad 1) 0)]) (rest := []) (t_X2_prepare F.1 k1 hcp) m_X2_prepare v_X2_prepare q616 (ci := 6) (q0 := 15) rfl rfl rfl 4 [2, 3, 1, 0] rfl rfl rfl ⟨Nat.le_of_ble_eq_true rfl, Nat.le_of_ble_eq_true rfl⟩ rfl hl.1 rfl (Nat.le_of_ble_eq_true rfl) dX6_deposit_8 ⟨Nat.le_of_ble_eq_true rfl, Nat.le_of_ble_eq_true rfl⟩ (fun _ _ _ _ _ _ hx => False.elim hx) (fun w1 H locs h9 w => ?_)
  obtain ⟨b, P, ⟨P0, hP⟩, h9⟩ := h9
  have w := w.jn (L1 := [wHo G.2.1 (ad 3) cu ct (hput hs cu (b, P)), hsL G.2.1 (hput hs cu (b, P)), wSh G.2.1 (ad 1) S]) (L' := [wXo G.2.1 (ad 0) (xF ad) svx K, wSh G.2.1 (ad 1) S, wHo G.2.1 (ad 3) cu ct (hput hs cu (b, P)), hsL G.2.1 (hput hs cu (b, P))]) h9 4 [3, 2, 0, 1] rfl rfl rfl
  have w : Wd G A s.heap (fl [wXo G.2.1 (ad 0) (xF ad) svx K, wSh G.2.1 (ad 1) S, wHo G.2.1 (ad 3) cu ct (hput hs cu (b, P)), hsL G.2.1 (hput hs cu (b, P))]) _ _ := w
  refine lv_aload_n F.x F.b dX6_deposit_11 rfl (lv_at hl 0 rfl) ?_
  refine lv_aload_n F.x F.b dX6_deposit_12 rfl (lv_at hl 0 rfl) ?_
  refine rg F w cl6 0 rfl 0 (by decide) q260 rfl (v := .ref ((ad 1) 0)) rfl dX6_deposit_13 ?_
  refine lv_iload_n F.x F.b dX6_deposit_16 rfl (lv_at hl 1 rfl) ?_
  refine kXi F w hst (LC := [wSh G.2.1 (ad 1) S]) (LR := [wXo G.2.1 (ad 0) (xF ad) svx K, wHo G.2.1 (ad 3) cu ct (hput hs cu (b, P)), hsL G.2.1 (hput hs cu (b, P))]) (As := [.int x1]) (rest := [.ref ((ad 0) 0)]) (t_X4_takeCoins F.1 e1).toX m_X4_takeCoins v_X4_takeCoins q706 (ci := 8) (q0 := 1) rfl rfl rfl 4 [1, 0, 2, 3] rfl rfl rfl ⟨Nat.le_of_ble_eq_true rfl, Nat.le_of_ble_eq_true rfl⟩ rfl hl.1 rfl (Nat.le_of_ble_eq_true rfl) dX6_deposit_17 ⟨Nat.le_of_ble_eq_true rfl, Nat.le_of_ble_eq_true rfl⟩ (fun _ _ _ _ _ _ hx => False.elim hx) (fun r9 w1 H locs h9 w => ?_)
  obtain ⟨rfl, h9⟩ := h9
  have w := w.jn (L1 := [wSh G.2.1 (ad 1) S']) (L' := [wXo G.2.1 (ad 0) (xF ad) svx K, wSh G.2.1 (ad 1) S', wHo G.2.1 (ad 3) cu ct (hput hs cu (b, P)), hsL G.2.1 (hput hs cu (b, P))]) h9 4 [1, 0, 2, 3] rfl rfl rfl
  refine kXi F w hst (LC := [wXo G.2.1 (ad 0) (xF ad) svx K, wHo G.2.1 (ad 3) cu ct (hput hs cu (b, P))]) (LR := [wSh G.2.1 (ad 1) S', hsL G.2.1 (hput hs cu (b, P))]) (As := [.int (nI r)]) (rest := []) (t_X6_settle_ok F.1 hr9 k1 k2) m_X6_settle v_X6_settle q638 (ci := 10) (q0 := 0) rfl rfl rfl 4 [0, 2, 1, 3] rfl rfl rfl ⟨Nat.le_of_ble_eq_true rfl, Nat.le_of_ble_eq_true rfl⟩ rfl hl.1 rfl (Nat.le_of_ble_eq_true rfl) dX6_deposit_20 ⟨Nat.le_of_ble_eq_true rfl, Nat.le_of_ble_eq_true rfl⟩ (fun _ _ _ _ _ _ hx => False.elim hx) (fun r9 w1 H locs h9 w => ?_)
  obtain ⟨rfl, h9⟩ := h9
  have w := w.jn (L1 := [wXo G.2.1 (ad 0) (xF ad) svx K, wHo G.2.1 (ad 3) (nxt cu) (cap ct) (hput hs cu (b, P))]) (L' := [wXo G.2.1 (ad 0) (xF ad) svx K, wSh G.2.1 (ad 1) S', wHo G.2.1 (ad 3) (nxt cu) (cap ct) (hput hs cu (b, P)), hsL G.2.1 (hput hs cu (b, P))]) h9 4 [0, 2, 1, 3] rfl rfl rfl
  exact eiX F w hr hlocks rfl ⟨rfl, b, P, ⟨P0, hP⟩, rfl⟩ (Nat.le_of_ble_eq_true rfl) (Nat.le_of_ble_eq_true rfl) dX6_deposit_23
set_option maxRecDepth 100000 in
set_option maxHeartbeats 4000000 in
theorem k_release_no {G : cG} (g : GOK G) (gM : MG G) {ad : Nat → Nat → Nat} {svx : Value} {K S : Mem} {cu ct : Nat} {hs : hS} {x1 : Int32} {E : String} (k1 : cu < 9) (hcp : ∀ P0, ∃ P, f_X4_copyFrom P0 S = some P) (e1 : f_X4_releaseLot S x1 = some (numE E, S)) (hE : E ∈ excL) : CX G yX6_release cX6_release 2 .int 8 123 15 167 [.ref ((ad 0) 0), .int x1] (fl [wXo G.2.1 (ad 0) (xF ad) svx K, wSh G.2.1 (ad 1) S, wHo G.2.1 (ad 3) cu ct hs, hsL G.2.1 hs]) (fun _ _ => False) (fun E' w1 => E' = E ∧ NoW G ad svx K S cu ct hs w1) := by
  refine CX.of g (by decide) rfl (Nat.le_of_ble_eq_true rfl) ?_
  intro p l e s m below meth c A ls hst htab F hr hlocks w hl
  generalize ([.ref ((ad 0) 0), .int x1] : List Value).toArray = args
  have hl : lv_has ls 2 [(0, .ref ((ad 0) 0)), (1, .int x1)] := hl
  have w : Wd G A s.heap (fl [wXo G.2.1 (ad 0) (xF ad) svx K, wSh G.2.1 (ad 1) S, wHo G.2.1 (ad 3) cu ct hs, hsL G.2.1 hs]) _ _ := w
  refine lv_aload_n F.x F.b dX6_release_0 rfl (lv_at hl 0 rfl) ?_
  refine rg F w cl6 0 rfl 2 (by decide) q262 rfl (v := .ref ((ad 3) 0)) rfl dX6_release_1 ?_
  refine lv_aload_n F.x F.b dX6_release_4 rfl (lv_at hl 0 rfl) ?_
  refine rg F w cl6 0 rfl 0 (by decide) q260 rfl (v := .ref ((ad 1) 0)) rfl dX6_release_5 ?_
  refine kXv F w hst (LC := [wHo G.2.1 (ad 3) cu ct hs, hsL G.2.1 hs, wSh G.2.1 (ad 1) S]) (LR := [wXo G.2.1 (ad 0) (xF ad) svx K]) (As := [.ref ((ad 1) 0)]) (rest := []) (t_X2_prepare F.1 k1 hcp) m_X2_prepare v_X2_prepare q616 (ci := 6) (q0 := 15) rfl rfl rfl 4 [2, 3, 1, 0] rfl rfl rfl ⟨Nat.le_of_ble_eq_true rfl, Nat.le_of_ble_eq_true rfl⟩ rfl hl.1 rfl (Nat.le_of_ble_eq_true rfl) dX6_release_8 ⟨Nat.le_of_ble_eq_true rfl, Nat.le_of_ble_eq_true rfl⟩ (fun _ _ _ _ _ _ hx => False.elim hx) (fun w1 H locs h9 w => ?_)
  obtain ⟨b, P, ⟨P0, hP⟩, h9⟩ := h9
  have w := w.jn (L1 := [wHo G.2.1 (ad 3) cu ct (hput hs cu (b, P)), hsL G.2.1 (hput hs cu (b, P)), wSh G.2.1 (ad 1) S]) (L' := [wXo G.2.1 (ad 0) (xF ad) svx K, wSh G.2.1 (ad 1) S, wHo G.2.1 (ad 3) cu ct (hput hs cu (b, P)), hsL G.2.1 (hput hs cu (b, P))]) h9 4 [3, 2, 0, 1] rfl rfl rfl
  have w : Wd G A s.heap (fl [wXo G.2.1 (ad 0) (xF ad) svx K, wSh G.2.1 (ad 1) S, wHo G.2.1 (ad 3) cu ct (hput hs cu (b, P)), hsL G.2.1 (hput hs cu (b, P))]) _ _ := w
  refine lv_aload_n F.x F.b dX6_release_11 rfl (lv_at hl 0 rfl) ?_
  refine lv_aload_n F.x F.b dX6_release_12 rfl (lv_at hl 0 rfl) ?_
  refine rg F w cl6 0 rfl 0 (by decide) q260 rfl (v := .ref ((ad 1) 0)) rfl dX6_release_13 ?_
  refine lv_iload_n F.x F.b dX6_release_16 rfl (lv_at hl 1 rfl) ?_
  refine kXi F w hst (LC := [wSh G.2.1 (ad 1) S]) (LR := [wXo G.2.1 (ad 0) (xF ad) svx K, wHo G.2.1 (ad 3) cu ct (hput hs cu (b, P)), hsL G.2.1 (hput hs cu (b, P))]) (As := [.int x1]) (rest := [.ref ((ad 0) 0)]) (t_X4_releaseLot F.1 e1).toX m_X4_releaseLot v_X4_releaseLot q1166 (ci := 8) (q0 := 1) rfl rfl rfl 4 [1, 0, 2, 3] rfl rfl rfl ⟨Nat.le_of_ble_eq_true rfl, Nat.le_of_ble_eq_true rfl⟩ rfl hl.1 rfl (Nat.le_of_ble_eq_true rfl) dX6_release_17 ⟨Nat.le_of_ble_eq_true rfl, Nat.le_of_ble_eq_true rfl⟩ (fun _ _ _ _ _ _ hx => False.elim hx) (fun r9 w1 H locs h9 w => ?_)
  obtain ⟨rfl, h9⟩ := h9
  have w := w.jn (L1 := [wSh G.2.1 (ad 1) S]) (L' := [wXo G.2.1 (ad 0) (xF ad) svx K, wSh G.2.1 (ad 1) S, wHo G.2.1 (ad 3) cu ct (hput hs cu (b, P)), hsL G.2.1 (hput hs cu (b, P))]) h9 4 [1, 0, 2, 3] rfl rfl rfl
  refine kXi F w hst (LC := [wXo G.2.1 (ad 0) (xF ad) svx K, wHo G.2.1 (ad 3) cu ct (hput hs cu (b, P))]) (LR := [wSh G.2.1 (ad 1) S, hsL G.2.1 (hput hs cu (b, P))]) (As := [.int (numE E)]) (rest := []) (t_X6_settle_no F.1 gM hE) m_X6_settle v_X6_settle q638 (ci := 10) (q0 := 0) rfl rfl rfl 4 [0, 2, 1, 3] rfl rfl rfl ⟨Nat.le_of_ble_eq_true rfl, Nat.le_of_ble_eq_true rfl⟩ rfl hl.1 rfl (Nat.le_of_ble_eq_true rfl) dX6_release_20 ⟨Nat.le_of_ble_eq_true rfl, Nat.le_of_ble_eq_true rfl⟩ (fun E w1 ce q H locs hx w hce hcv hcl => by obtain ⟨rfl, hx⟩ := hx; exact exX (w.jn (L1 := [wXo G.2.1 (ad 0) (xF ad) svx K, wHo G.2.1 (ad 3) cu ct (hput hs cu (b, P))]) (L' := [wXo G.2.1 (ad 0) (xF ad) svx K, wSh G.2.1 (ad 1) S, wHo G.2.1 (ad 3) cu ct (hput hs cu (b, P)), hsL G.2.1 (hput hs cu (b, P))]) hx 4 [0, 2, 1, 3] rfl rfl rfl) htab hlocks hce hcv hcl ⟨rfl, b, P, ⟨P0, hP⟩, rfl⟩ (Nat.le_of_ble_eq_true rfl) (Nat.le_of_ble_eq_true rfl)) (fun r9 w1 H locs h9 w => ?_)
  exact False.elim h9
set_option maxRecDepth 100000 in
set_option maxHeartbeats 4000000 in
theorem k_release_ok {G : cG} (g : GOK G) {ad : Nat → Nat → Nat} {svx : Value} {K S S' : Mem} {cu ct : Nat} {hs : hS} {x1 : Int32} {r : Nat} (k1 : cu < 9) (hcp : ∀ P0, ∃ P, f_X4_copyFrom P0 S = some P) (k2 : ct ≤ 8) (hr9 : r < 2 ^ 31) (e1 : f_X4_releaseLot S x1 = some (nI r, S')) : CX G yX6_release cX6_release 2 .int 4 90 14 161 [.ref ((ad 0) 0), .int x1] (fl [wXo G.2.1 (ad 0) (xF ad) svx K, wSh G.2.1 (ad 1) S, wHo G.2.1 (ad 3) cu ct hs, hsL G.2.1 hs]) (fun r9 w1 => r9 = nI r ∧ YeW G ad svx K S S' cu ct hs w1) (fun _ _ => False) := by
  refine CX.of g (by decide) rfl (Nat.le_of_ble_eq_true rfl) ?_
  intro p l e s m below meth c A ls hst htab F hr hlocks w hl
  generalize ([.ref ((ad 0) 0), .int x1] : List Value).toArray = args
  have hl : lv_has ls 2 [(0, .ref ((ad 0) 0)), (1, .int x1)] := hl
  have w : Wd G A s.heap (fl [wXo G.2.1 (ad 0) (xF ad) svx K, wSh G.2.1 (ad 1) S, wHo G.2.1 (ad 3) cu ct hs, hsL G.2.1 hs]) _ _ := w
  refine lv_aload_n F.x F.b dX6_release_0 rfl (lv_at hl 0 rfl) ?_
  refine rg F w cl6 0 rfl 2 (by decide) q262 rfl (v := .ref ((ad 3) 0)) rfl dX6_release_1 ?_
  refine lv_aload_n F.x F.b dX6_release_4 rfl (lv_at hl 0 rfl) ?_
  refine rg F w cl6 0 rfl 0 (by decide) q260 rfl (v := .ref ((ad 1) 0)) rfl dX6_release_5 ?_
  refine kXv F w hst (LC := [wHo G.2.1 (ad 3) cu ct hs, hsL G.2.1 hs, wSh G.2.1 (ad 1) S]) (LR := [wXo G.2.1 (ad 0) (xF ad) svx K]) (As := [.ref ((ad 1) 0)]) (rest := []) (t_X2_prepare F.1 k1 hcp) m_X2_prepare v_X2_prepare q616 (ci := 6) (q0 := 15) rfl rfl rfl 4 [2, 3, 1, 0] rfl rfl rfl ⟨Nat.le_of_ble_eq_true rfl, Nat.le_of_ble_eq_true rfl⟩ rfl hl.1 rfl (Nat.le_of_ble_eq_true rfl) dX6_release_8 ⟨Nat.le_of_ble_eq_true rfl, Nat.le_of_ble_eq_true rfl⟩ (fun _ _ _ _ _ _ hx => False.elim hx) (fun w1 H locs h9 w => ?_)
  obtain ⟨b, P, ⟨P0, hP⟩, h9⟩ := h9
  have w := w.jn (L1 := [wHo G.2.1 (ad 3) cu ct (hput hs cu (b, P)), hsL G.2.1 (hput hs cu (b, P)), wSh G.2.1 (ad 1) S]) (L' := [wXo G.2.1 (ad 0) (xF ad) svx K, wSh G.2.1 (ad 1) S, wHo G.2.1 (ad 3) cu ct (hput hs cu (b, P)), hsL G.2.1 (hput hs cu (b, P))]) h9 4 [3, 2, 0, 1] rfl rfl rfl
  have w : Wd G A s.heap (fl [wXo G.2.1 (ad 0) (xF ad) svx K, wSh G.2.1 (ad 1) S, wHo G.2.1 (ad 3) cu ct (hput hs cu (b, P)), hsL G.2.1 (hput hs cu (b, P))]) _ _ := w
  refine lv_aload_n F.x F.b dX6_release_11 rfl (lv_at hl 0 rfl) ?_
  refine lv_aload_n F.x F.b dX6_release_12 rfl (lv_at hl 0 rfl) ?_
  refine rg F w cl6 0 rfl 0 (by decide) q260 rfl (v := .ref ((ad 1) 0)) rfl dX6_release_13 ?_
  refine lv_iload_n F.x F.b dX6_release_16 rfl (lv_at hl 1 rfl) ?_
  refine kXi F w hst (LC := [wSh G.2.1 (ad 1) S]) (LR := [wXo G.2.1 (ad 0) (xF ad) svx K, wHo G.2.1 (ad 3) cu ct (hput hs cu (b, P)), hsL G.2.1 (hput hs cu (b, P))]) (As := [.int x1]) (rest := [.ref ((ad 0) 0)]) (t_X4_releaseLot F.1 e1).toX m_X4_releaseLot v_X4_releaseLot q1166 (ci := 8) (q0 := 1) rfl rfl rfl 4 [1, 0, 2, 3] rfl rfl rfl ⟨Nat.le_of_ble_eq_true rfl, Nat.le_of_ble_eq_true rfl⟩ rfl hl.1 rfl (Nat.le_of_ble_eq_true rfl) dX6_release_17 ⟨Nat.le_of_ble_eq_true rfl, Nat.le_of_ble_eq_true rfl⟩ (fun _ _ _ _ _ _ hx => False.elim hx) (fun r9 w1 H locs h9 w => ?_)
  obtain ⟨rfl, h9⟩ := h9
  have w := w.jn (L1 := [wSh G.2.1 (ad 1) S']) (L' := [wXo G.2.1 (ad 0) (xF ad) svx K, wSh G.2.1 (ad 1) S', wHo G.2.1 (ad 3) cu ct (hput hs cu (b, P)), hsL G.2.1 (hput hs cu (b, P))]) h9 4 [1, 0, 2, 3] rfl rfl rfl
  refine kXi F w hst (LC := [wXo G.2.1 (ad 0) (xF ad) svx K, wHo G.2.1 (ad 3) cu ct (hput hs cu (b, P))]) (LR := [wSh G.2.1 (ad 1) S', hsL G.2.1 (hput hs cu (b, P))]) (As := [.int (nI r)]) (rest := []) (t_X6_settle_ok F.1 hr9 k1 k2) m_X6_settle v_X6_settle q638 (ci := 10) (q0 := 0) rfl rfl rfl 4 [0, 2, 1, 3] rfl rfl rfl ⟨Nat.le_of_ble_eq_true rfl, Nat.le_of_ble_eq_true rfl⟩ rfl hl.1 rfl (Nat.le_of_ble_eq_true rfl) dX6_release_20 ⟨Nat.le_of_ble_eq_true rfl, Nat.le_of_ble_eq_true rfl⟩ (fun _ _ _ _ _ _ hx => False.elim hx) (fun r9 w1 H locs h9 w => ?_)
  obtain ⟨rfl, h9⟩ := h9
  have w := w.jn (L1 := [wXo G.2.1 (ad 0) (xF ad) svx K, wHo G.2.1 (ad 3) (nxt cu) (cap ct) (hput hs cu (b, P))]) (L' := [wXo G.2.1 (ad 0) (xF ad) svx K, wSh G.2.1 (ad 1) S', wHo G.2.1 (ad 3) (nxt cu) (cap ct) (hput hs cu (b, P)), hsL G.2.1 (hput hs cu (b, P))]) h9 4 [0, 2, 1, 3] rfl rfl rfl
  exact eiX F w hr hlocks rfl ⟨rfl, b, P, ⟨P0, hP⟩, rfl⟩ (Nat.le_of_ble_eq_true rfl) (Nat.le_of_ble_eq_true rfl) dX6_release_23

/-! printed by wip/p61/tools/gen98.py: the class' constructor -/
theorem q50 : Cond.methodLink RX6 1 Lib.objectInit ∈ lw_tbl := List.mem_of_getElem? (i := 50) (by decide +kernel)
theorem q175 : Cond.classLink RX6 19 RX2 ∈ lw_tbl := List.mem_of_getElem? (i := 175) (by decide +kernel)
theorem q177 : Cond.methodLinkNest RX6 21 yX2_init "CustomsShed" ∈ lw_tbl := List.mem_of_getElem? (i := 177) (by decide +kernel)
theorem q194 : Cond.classLink RX6 26 RX1 ∈ lw_tbl := List.mem_of_getElem? (i := 194) (by decide +kernel)
theorem q196 : Cond.methodLinkNest RX6 28 yX1_init "CustomsShed" ∈ lw_tbl := List.mem_of_getElem? (i := 196) (by decide +kernel)
theorem q227 : Cond.classLink RX6 33 RJ4 ∈ lw_tbl := List.mem_of_getElem? (i := 227) (by decide +kernel)
theorem q229 : Cond.methodLink RX6 35 yJ4_init_da8c8 ∈ lw_tbl := List.mem_of_getElem? (i := 229) (by decide +kernel)
theorem q268 : Cond.fieldLink RX6 50 "CustomsShed" "keptErrorPosition" "I" ∈ lw_tbl := List.mem_of_getElem? (i := 268) (by decide +kernel)
theorem m_X2_init : YM yX2_init cX2_init 1 (none) 0 := ⟨⟨List.mem_of_getElem? (i := 179) (by decide +kernel), by decide +kernel⟩, List.mem_of_getElem? (i := 20) (by decide +kernel), ⟨by decide, by decide⟩, by decide +kernel⟩
theorem v_X2_init : Cond.instanceMethod yX2_init ∈ lw_tbl := (List.mem_of_getElem? (i := 178) (by decide +kernel))
theorem m_X1_init : YM yX1_init cX1_init 1 (none) 0 := ⟨⟨List.mem_of_getElem? (i := 198) (by decide +kernel), by decide +kernel⟩, List.mem_of_getElem? (i := 21) (by decide +kernel), ⟨by decide, by decide⟩, by decide +kernel⟩
theorem v_X1_init : Cond.instanceMethod yX1_init ∈ lw_tbl := (List.mem_of_getElem? (i := 197) (by decide +kernel))
theorem m_J4_init_da8c8 : YM yJ4_init_da8c8 cJ4_init_da8c8 1 (none) 0 := ⟨⟨List.mem_of_getElem? (i := 231) (by decide +kernel), by decide +kernel⟩, List.mem_of_getElem? (i := 23) (by decide +kernel), ⟨by decide, by decide⟩, by decide +kernel⟩
theorem v_J4_init_da8c8 : Cond.instanceMethod yJ4_init_da8c8 ∈ lw_tbl := (List.mem_of_getElem? (i := 230) (by decide +kernel))
def K0 : Mem := wrI (wrI zM 0 (-1)) 1 (-1)
theorem fl_nil2 (L : List va_W) : fl (L ++ [[], []]) = fl L := by
  rw [fl_flatten, fl_flatten]
  simp
set_option maxRecDepth 100000 in
set_option maxHeartbeats 4000000 in
theorem t_X6_init {G : cG} (g : GOK G) (hAG : AG G) {ks kv : Nat → Nat} (hSG : SG G ks kv) {o : Nat} : CN G yX6_init cX6_init 1 3 53 37 464 [.ref o] [(o, .inr (10, [.null, .null, .null, .null, .null, .null, .null, .null, .int 0, .int 0]))] (fun w1 => ∃ (ad : Nat → Nat → Nat) (va : Nat), (ad 0) 0 = o ∧ w1 = fl (wTop G.2.1 ad K0 zM zM C0 zM zM 0 0 (fun _ => none) none (va, 16, 0, 0, fun _ => 0))) := by
  refine CN.of g (by decide) rfl (Nat.le_of_ble_eq_true rfl) ?_
  intro p l e s m below meth c A ls hin F hr hlocks w hl
  generalize ([.ref o] : List Value).toArray = args
  have hin : meth.name = "<init>" := hin
  have hl : lv_has ls 1 [(0, .ref o)] := hl
  have w : Wd G A s.heap (fl [[(o, .inr (10, [.null, .null, .null, .null, .null, .null, .null, .null, .int 0, .int 0]))]]) _ _ := w
  refine lv_aload_n F.x F.b dX6_init_0 rfl (lv_at hl 0 rfl) ?_
  refine roI F q50 (List.mem_of_getElem? (i := 51) (by decide +kernel)) (List.mem_of_getElem? (i := 52) (by decide +kernel)) (by decide +kernel) hl.1 ⟨Nat.le_of_ble_eq_true rfl, Nat.le_of_ble_eq_true rfl⟩ dX6_init_1 ?_
  refine lv_aload_n F.x F.b dX6_init_4 rfl (lv_at hl 0 rfl) ?_
  refine rn F w cl4 q53 (List.mem_of_getElem? (i := 54) (by decide +kernel)) (List.mem_of_getElem? (i := 16) (by decide +kernel)) [.null, .null, .null, .int 0, .int 0, .int 0, .int 0] (fun j hj => by rcases (show j = 0 ∨ j = 1 ∨ j = 2 ∨ j = 3 ∨ j = 4 ∨ j = 5 ∨ j = 6 by omega) with rfl | rfl | rfl | rfl | rfl | rfl | rfl <;> rfl) (Nat.le_of_ble_eq_true rfl) (Nat.le_of_ble_eq_true rfl) dX6_init_5 (fun z1 H w => ?_)
  have w : Wd G A s.heap (fl [[(o, .inr (10, [.null, .null, .null, .null, .null, .null, .null, .null, .int 0, .int 0]))], [(z1, .inr (8, [.null, .null, .null, .int 0, .int 0, .int 0, .int 0]))]]) _ _ := w
  refine lv_dup F.x F.b dX6_init_8 rfl ?_
  refine kCN F w (LC := [[(z1, .inr (8, [.null, .null, .null, .int 0, .int 0, .int 0, .int 0]))]]) (LR := [[(o, .inr (10, [.null, .null, .null, .null, .null, .null, .null, .null, .int 0, .int 0]))]]) (As := []) (rest := [.ref z1, .ref o]) (t_X4_init F.1) m_X4_init v_X4_init rfl q55 2 [1, 0] rfl rfl rfl ⟨Nat.le_of_ble_eq_true rfl, Nat.le_of_ble_eq_true rfl⟩ rfl hl.1 rfl (Nat.le_of_ble_eq_true rfl) dX6_init_9 ⟨Nat.le_of_ble_eq_true rfl, Nat.le_of_ble_eq_true rfl⟩ (fun w1 H locs h9 w => ?_)
  obtain ⟨b1, hb1, h9⟩ := h9
  have w0 := w
  subst hb1
  have w := w0
  have w := w.jn (L1 := [wSh G.2.1 b1 zM]) (L' := [[(o, .inr (10, [.null, .null, .null, .null, .null, .null, .null, .null, .int 0, .int 0]))], wSh G.2.1 b1 zM]) h9 2 [1, 0] rfl rfl rfl
  have w : Wd G A s.heap (fl [[(o, .inr (10, [.null, .null, .null, .null, .null, .null, .null, .null, .int 0, .int 0]))], wSh G.2.1 b1 zM]) _ _ := w
  refine rpF F w (ws' := fl [[(o, .inr (10, [.ref (b1 0), .null, .null, .null, .null, .null, .null, .null, .int 0, .int 0]))], wSh G.2.1 b1 zM]) cl6 0 rfl 0 (by decide) q260 rfl rfl hin rfl rfl rfl (Nat.le_of_ble_eq_true rfl) rfl dX6_init_12 (fun H locs w => ?_)
  refine lv_aload_n F.x F.b dX6_init_15 rfl (lv_at hl 0 rfl) ?_
  refine rn F w cl4 q53 (List.mem_of_getElem? (i := 54) (by decide +kernel)) (List.mem_of_getElem? (i := 16) (by decide +kernel)) [.null, .null, .null, .int 0, .int 0, .int 0, .int 0] (fun j hj => by rcases (show j = 0 ∨ j = 1 ∨ j = 2 ∨ j = 3 ∨ j = 4 ∨ j = 5 ∨ j = 6 by omega) with rfl | rfl | rfl | rfl | rfl | rfl | rfl <;> rfl) (Nat.le_of_ble_eq_true rfl) (Nat.le_of_ble_eq_true rfl) dX6_init_16 (fun z2 H w => ?_)
  have w : Wd G A s.heap (fl [[(o, .inr (10, [.ref (b1 0), .null, .null, .null, .null, .null, .null, .null, .int 0, .int 0]))], wSh G.2.1 b1 zM, [(z2, .inr (8, [.null, .null, .null, .int 0, .int 0, .int 0, .int 0]))]]) _ _ := w
  refine lv_dup F.x F.b dX6_init_19 rfl ?_
  refine kCN F w (LC := [[(z2, .inr (8, [.null, .null, .null, .int 0, .int 0, .int 0, .int 0]))]]) (LR := [[(o, .inr (10, [.ref (b1 0), .null, .null, .null, .null, .null, .null, .null, .int 0, .int 0]))], wSh G.2.1 b1 zM]) (As := []) (rest := [.ref z2, .ref o]) (t_X4_init F.1) m_X4_init v_X4_init rfl q55 3 [2, 0, 1] rfl rfl rfl ⟨Nat.le_of_ble_eq_true rfl, Nat.le_of_ble_eq_true rfl⟩ rfl hl.1 rfl (Nat.le_of_ble_eq_true rfl) dX6_init_20 ⟨Nat.le_of_ble_eq_true rfl, Nat.le_of_ble_eq_true rfl⟩ (fun w1 H locs h9 w => ?_)
  obtain ⟨b2, hb2, h9⟩ := h9
  have w0 := w
  subst hb2
  have w := w0
  have w := w.jn (L1 := [wSh G.2.1 b2 zM]) (L' := [[(o, .inr (10, [.ref (b1 0), .null, .null, .null, .null, .null, .null, .null, .int 0, .int 0]))], wSh G.2.1 b1 zM, wSh G.2.1 b2 zM]) h9 3 [1, 2, 0] rfl rfl rfl
  have w : Wd G A s.heap (fl [[(o, .inr (10, [.ref (b1 0), .null, .null, .null, .null, .null, .null, .null, .int 0, .int 0]))], wSh G.2.1 b1 zM, wSh G.2.1 b2 zM]) _ _ := w
  refine rpF F w (ws' := fl [[(o, .inr (10, [.ref (b1 0), .ref (b2 0), .null, .null, .null, .null, .null, .null, .int 0, .int 0]))], wSh G.2.1 b1 zM, wSh G.2.1 b2 zM]) cl6 0 rfl 1 (by decide) q261 rfl rfl hin rfl rfl rfl (Nat.le_of_ble_eq_true rfl) rfl dX6_init_23 (fun H locs w => ?_)
  refine lv_aload_n F.x F.b dX6_init_26 rfl (lv_at hl 0 rfl) ?_
  refine rn F w cl2 q175 (List.mem_of_getElem? (i := 176) (by decide +kernel)) (List.mem_of_getElem? (i := 20) (by decide +kernel)) [.null, .int 0, .int 0] (fun j hj => by rcases (show j = 0 ∨ j = 1 ∨ j = 2 by omega) with rfl | rfl | rfl <;> rfl) (Nat.le_of_ble_eq_true rfl) (Nat.le_of_ble_eq_true rfl) dX6_init_27 (fun z3 H w => ?_)
  have w : Wd G A s.heap (fl [[(o, .inr (10, [.ref (b1 0), .ref (b2 0), .null, .null, .null, .null, .null, .null, .int 0, .int 0]))], wSh G.2.1 b1 zM, wSh G.2.1 b2 zM, [(z3, .inr (6, [.null, .int 0, .int 0]))]]) _ _ := w
  refine lv_dup F.x F.b dX6_init_30 rfl ?_
  refine kCN F w (LC := [[(z3, .inr (6, [.null, .int 0, .int 0]))]]) (LR := [[(o, .inr (10, [.ref (b1 0), .ref (b2 0), .null, .null, .null, .null, .null, .null, .int 0, .int 0]))], wSh G.2.1 b1 zM, wSh G.2.1 b2 zM]) (As := []) (rest := [.ref z3, .ref o]) (t_X2_init F.1 hAG) m_X2_init v_X2_init rfl q177 4 [3, 0, 1, 2] rfl rfl rfl ⟨Nat.le_of_ble_eq_true rfl, Nat.le_of_ble_eq_true rfl⟩ rfl hl.1 rfl (Nat.le_of_ble_eq_true rfl) dX6_init_31 ⟨Nat.le_of_ble_eq_true rfl, Nat.le_of_ble_eq_true rfl⟩ (fun w1 H locs h9 w => ?_)
  obtain ⟨b3, hb3, h9⟩ := h9
  have w0 := w
  subst hb3
  have w := w0
  have w := w.jn (L1 := [wHo G.2.1 b3 0 0 (fun _ => none)]) (L' := [[(o, .inr (10, [.ref (b1 0), .ref (b2 0), .null, .null, .null, .null, .null, .null, .int 0, .int 0]))], wSh G.2.1 b1 zM, wSh G.2.1 b2 zM, wHo G.2.1 b3 0 0 (fun _ => none)]) h9 4 [1, 2, 3, 0] rfl rfl rfl
  have w : Wd G A s.heap (fl [[(o, .inr (10, [.ref (b1 0), .ref (b2 0), .null, .null, .null, .null, .null, .null, .int 0, .int 0]))], wSh G.2.1 b1 zM, wSh G.2.1 b2 zM, wHo G.2.1 b3 0 0 (fun _ => none)]) _ _ := w
  refine rpF F w (ws' := fl [[(o, .inr (10, [.ref (b1 0), .ref (b2 0), .ref (b3 0), .null, .null, .null, .null, .null, .int 0, .int 0]))], wSh G.2.1 b1 zM, wSh G.2.1 b2 zM, wHo G.2.1 b3 0 0 (fun _ => none)]) cl6 0 rfl 2 (by decide) q262 rfl rfl hin rfl rfl rfl (Nat.le_of_ble_eq_true rfl) rfl dX6_init_34 (fun H locs w => ?_)
  refine lv_aload_n F.x F.b dX6_init_37 rfl (lv_at hl 0 rfl) ?_
  refine rn F w cl1 q194 (List.mem_of_getElem? (i := 195) (by decide +kernel)) (List.mem_of_getElem? (i := 21) (by decide +kernel)) [.null, .null, .int 0, .int 0, .int 0, .int 0, .int 0] (fun j hj => by rcases (show j = 0 ∨ j = 1 ∨ j = 2 ∨ j = 3 ∨ j = 4 ∨ j = 5 ∨ j = 6 by omega) with rfl | rfl | rfl | rfl | rfl | rfl | rfl <;> rfl) (Nat.le_of_ble_eq_true rfl) (Nat.le_of_ble_eq_true rfl) dX6_init_38 (fun z4 H w => ?_)
  have w : Wd G A s.heap (fl [[(o, .inr (10, [.ref (b1 0), .ref (b2 0), .ref (b3 0), .null, .null, .null, .null, .null, .int 0, .int 0]))], wSh G.2.1 b1 zM, wSh G.2.1 b2 zM, wHo G.2.1 b3 0 0 (fun _ => none), [(z4, .inr (5, [.null, .null, .int 0, .int 0, .int 0, .int 0, .int 0]))]]) _ _ := w
  refine lv_dup F.x F.b dX6_init_41 rfl ?_
  refine kCN F w (LC := [[(z4, .inr (5, [.null, .null, .int 0, .int 0, .int 0, .int 0, .int 0]))]]) (LR := [[(o, .inr (10, [.ref (b1 0), .ref (b2 0), .ref (b3 0), .null, .null, .null, .null, .null, .int 0, .int 0]))], wSh G.2.1 b1 zM, wSh G.2.1 b2 zM, wHo G.2.1 b3 0 0 (fun _ => none)]) (As := []) (rest := [.ref z4, .ref o]) (t_X1_init F.1) m_X1_init v_X1_init rfl q196 5 [4, 0, 1, 2, 3] rfl rfl rfl ⟨Nat.le_of_ble_eq_true rfl, Nat.le_of_ble_eq_true rfl⟩ rfl hl.1 rfl (Nat.le_of_ble_eq_true rfl) dX6_init_42 ⟨Nat.le_of_ble_eq_true rfl, Nat.le_of_ble_eq_true rfl⟩ (fun w1 H locs h9 w => ?_)
  obtain ⟨b4, hb4, h9⟩ := h9
  have w0 := w
  subst hb4
  have w := w0
  have w := w.jn (L1 := [wTe G.2.1 b4 C0]) (L' := [[(o, .inr (10, [.ref (b1 0), .ref (b2 0), .ref (b3 0), .null, .null, .null, .null, .null, .int 0, .int 0]))], wSh G.2.1 b1 zM, wSh G.2.1 b2 zM, wHo G.2.1 b3 0 0 (fun _ => none), wTe G.2.1 b4 C0]) h9 5 [1, 2, 3, 4, 0] rfl rfl rfl
  have w : Wd G A s.heap (fl [[(o, .inr (10, [.ref (b1 0), .ref (b2 0), .ref (b3 0), .null, .null, .null, .null, .null, .int 0, .int 0]))], wSh G.2.1 b1 zM, wSh G.2.1 b2 zM, wHo G.2.1 b3 0 0 (fun _ => none), wTe G.2.1 b4 C0]) _ _ := w
  refine rpF F w (ws' := fl [[(o, .inr (10, [.ref (b1 0), .ref (b2 0), .ref (b3 0), .ref (b4 0), .null, .null, .null, .null, .int 0, .int 0]))], wSh G.2.1 b1 zM, wSh G.2.1 b2 zM, wHo G.2.1 b3 0 0 (fun _ => none), wTe G.2.1 b4 C0]) cl6 0 rfl 3 (by decide) q263 rfl rfl hin rfl rfl rfl (Nat.le_of_ble_eq_true rfl) rfl dX6_init_45 (fun H locs w => ?_)
  refine lv_aload_n F.x F.b dX6_init_48 rfl (lv_at hl 0 rfl) ?_
  refine rn F w clB q227 (List.mem_of_getElem? (i := 228) (by decide +kernel)) (List.mem_of_getElem? (i := 23) (by decide +kernel)) [.null, .int 0, .int 0, .int 0] (fun j hj => by rcases (show j = 0 ∨ j = 1 ∨ j = 2 ∨ j = 3 by omega) with rfl | rfl | rfl | rfl <;> rfl) (Nat.le_of_ble_eq_true rfl) (Nat.le_of_ble_eq_true rfl) dX6_init_49 (fun z5 H w => ?_)
  have w : Wd G A s.heap (fl [[(o, .inr (10, [.ref (b1 0), .ref (b2 0), .ref (b3 0), .ref (b4 0), .null, .null, .null, .null, .int 0, .int 0]))], wSh G.2.1 b1 zM, wSh G.2.1 b2 zM, wHo G.2.1 b3 0 0 (fun _ => none), wTe G.2.1 b4 C0, [(z5, .inr (1, [.null, .int 0, .int 0, .int 0]))]]) _ _ := w
  refine lv_dup F.x F.b dX6_init_52 rfl ?_
  refine kCI F w (LC := [[(z5, .inr (1, [.null, .int 0, .int 0, .int 0]))]]) (LR := [[(o, .inr (10, [.ref (b1 0), .ref (b2 0), .ref (b3 0), .ref (b4 0), .null, .null, .null, .null, .int 0, .int 0]))], wSh G.2.1 b1 zM, wSh G.2.1 b2 zM, wHo G.2.1 b3 0 0 (fun _ => none), wTe G.2.1 b4 C0]) (As := []) (rest := [.ref z5, .ref o]) (t_J4_init_da8c8 F.1 hSG (o := fun _ => z5)) m_J4_init_da8c8 v_J4_init_da8c8 rfl q229 6 [5, 0, 1, 2, 3, 4] rfl rfl rfl ⟨Nat.le_of_ble_eq_true rfl, Nat.le_of_ble_eq_true rfl⟩ rfl hl.1 rfl (Nat.le_of_ble_eq_true rfl) dX6_init_53 ⟨Nat.le_of_ble_eq_true rfl, Nat.le_of_ble_eq_true rfl⟩ (fun w1 H locs h9 w => ?_)
  obtain ⟨va, h9⟩ := h9
  have w := w.jn (L1 := [wSb G.2.1 (fun _ => z5) (va, 16, 0, 0, fun _ => 0)]) (L' := [[(o, .inr (10, [.ref (b1 0), .ref (b2 0), .ref (b3 0), .ref (b4 0), .null, .null, .null, .null, .int 0, .int 0]))], wSh G.2.1 b1 zM, wSh G.2.1 b2 zM, wHo G.2.1 b3 0 0 (fun _ => none), wTe G.2.1 b4 C0, wSb G.2.1 (fun _ => z5) (va, 16, 0, 0, fun _ => 0)]) h9 6 [1, 2, 3, 4, 5, 0] rfl rfl rfl
  have w : Wd G A s.heap (fl [[(o, .inr (10, [.ref (b1 0), .ref (b2 0), .ref (b3 0), .ref (b4 0), .null, .null, .null, .null, .int 0, .int 0]))], wSh G.2.1 b1 zM, wSh G.2.1 b2 zM, wHo G.2.1 b3 0 0 (fun _ => none), wTe G.2.1 b4 C0, wSb G.2.1 (fun _ => z5) (va, 16, 0, 0, fun _ => 0)]) _ _ := w
  refine rpF F w (ws' := fl [[(o, .inr (10, [.ref (b1 0), .ref (b2 0), .ref (b3 0), .ref (b4 0), .ref z5, .null, .null, .null, .int 0, .int 0]))], wSh G.2.1 b1 zM, wSh G.2.1 b2 zM, wHo G.2.1 b3 0 0 (fun _ => none), wTe G.2.1 b4 C0, wSb G.2.1 (fun _ => z5) (va, 16, 0, 0, fun _ => 0)]) cl6 0 rfl 4 (by decide) q264 rfl rfl hin rfl rfl rfl (Nat.le_of_ble_eq_true rfl) rfl dX6_init_56 (fun H locs w => ?_)
  refine lv_aload_n F.x F.b dX6_init_59 rfl (lv_at hl 0 rfl) ?_
  refine lv_bipush (v := 16) F.x F.b dX6_init_60 (by decide) ?_
  refine rnA F w (atype := .int) (ty := .int) 0 rfl (List.mem_of_getElem? (i := 107) (by decide +kernel)) (by decide +kernel) rfl (16, .inl (fun _ => 0)) (fun _ => rfl) (by decide) (N' := 16) (by decide) (Nat.le_of_ble_eq_true rfl) (Nat.le_of_ble_eq_true rfl) (Nat.le_of_ble_eq_true rfl) dX6_init_62 (fun z6 H w => ?_)
  have w : Wd G A s.heap (fl [[(o, .inr (10, [.ref (b1 0), .ref (b2 0), .ref (b3 0), .ref (b4 0), .ref z5, .null, .null, .null, .int 0, .int 0]))], wSh G.2.1 b1 zM, wSh G.2.1 b2 zM, wHo G.2.1 b3 0 0 (fun _ => none), wTe G.2.1 b4 C0, wSb G.2.1 (fun _ => z5) (va, 16, 0, 0, fun _ => 0), [(z6, .inl (G.2.1 0, 16, .inl (fun _ => 0)))]]) _ _ := w
  refine rpF F w (ws' := fl [[(o, .inr (10, [.ref (b1 0), .ref (b2 0), .ref (b3 0), .ref (b4 0), .ref z5, .ref z6, .null, .null, .int 0, .int 0]))], wSh G.2.1 b1 zM, wSh G.2.1 b2 zM, wHo G.2.1 b3 0 0 (fun _ => none), wTe G.2.1 b4 C0, wSb G.2.1 (fun _ => z5) (va, 16, 0, 0, fun _ => 0), [(z6, .inl (G.2.1 0, 16, .inl (fun _ => 0)))]]) cl6 0 rfl 5 (by decide) q265 rfl rfl hin rfl rfl rfl (Nat.le_of_ble_eq_true rfl) rfl dX6_init_64 (fun H locs w => ?_)
  refine lv_aload_n F.x F.b dX6_init_67 rfl (lv_at hl 0 rfl) ?_
  refine lv_bipush (v := 24) F.x F.b dX6_init_68 (by decide) ?_
  refine rnA F w (atype := .int) (ty := .int) 0 rfl (List.mem_of_getElem? (i := 107) (by decide +kernel)) (by decide +kernel) rfl (24, .inl (fun _ => 0)) (fun _ => rfl) (by decide) (N' := 24) (by decide) (Nat.le_of_ble_eq_true rfl) (Nat.le_of_ble_eq_true rfl) (Nat.le_of_ble_eq_true rfl) dX6_init_70 (fun z7 H w => ?_)
  have w : Wd G A s.heap (fl [[(o, .inr (10, [.ref (b1 0), .ref (b2 0), .ref (b3 0), .ref (b4 0), .ref z5, .ref z6, .null, .null, .int 0, .int 0]))], wSh G.2.1 b1 zM, wSh G.2.1 b2 zM, wHo G.2.1 b3 0 0 (fun _ => none), wTe G.2.1 b4 C0, wSb G.2.1 (fun _ => z5) (va, 16, 0, 0, fun _ => 0), [(z6, .inl (G.2.1 0, 16, .inl (fun _ => 0)))], [(z7, .inl (G.2.1 0, 24, .inl (fun _ => 0)))]]) _ _ := w
  refine rpF F w (ws' := fl [[(o, .inr (10, [.ref (b1 0), .ref (b2 0), .ref (b3 0), .ref (b4 0), .ref z5, .ref z6, .ref z7, .null, .int 0, .int 0]))], wSh G.2.1 b1 zM, wSh G.2.1 b2 zM, wHo G.2.1 b3 0 0 (fun _ => none), wTe G.2.1 b4 C0, wSb G.2.1 (fun _ => z5) (va, 16, 0, 0, fun _ => 0), [(z6, .inl (G.2.1 0, 16, .inl (fun _ => 0)))], [(z7, .inl (G.2.1 0, 24, .inl (fun _ => 0)))]]) cl6 0 rfl 6 (by decide) q266 rfl rfl hin rfl rfl rfl (Nat.le_of_ble_eq_true rfl) rfl dX6_init_72 (fun H locs w => ?_)
  refine lv_aload_n F.x F.b dX6_init_75 rfl (lv_at hl 0 rfl) ?_
  refine lv_null F.x F.b dX6_init_76 ?_
  refine rp F w (ws' := fl [[(o, .inr (10, [.ref (b1 0), .ref (b2 0), .ref (b3 0), .ref (b4 0), .ref z5, .ref z6, .ref z7, .null, .int 0, .int 0]))], wSh G.2.1 b1 zM, wSh G.2.1 b2 zM, wHo G.2.1 b3 0 0 (fun _ => none), wTe G.2.1 b4 C0, wSb G.2.1 (fun _ => z5) (va, 16, 0, 0, fun _ => 0), [(z6, .inl (G.2.1 0, 16, .inl (fun _ => 0)))], [(z7, .inl (G.2.1 0, 24, .inl (fun _ => 0)))]]) cl6 0 rfl 7 (by decide) q267 rfl rfl rfl rfl (Nat.le_of_ble_eq_true rfl) rfl dX6_init_77 (fun H locs w => ?_)
  refine lv_aload_n F.x F.b dX6_init_80 rfl (lv_at hl 0 rfl) ?_
  refine lv_iconst (v := (-1)) F.x F.b dX6_init_81 (by decide) ?_
  refine rp F w (ws' := fl [[(o, .inr (10, [.ref (b1 0), .ref (b2 0), .ref (b3 0), .ref (b4 0), .ref z5, .ref z6, .ref z7, .null, .int (-1), .int 0]))], wSh G.2.1 b1 zM, wSh G.2.1 b2 zM, wHo G.2.1 b3 0 0 (fun _ => none), wTe G.2.1 b4 C0, wSb G.2.1 (fun _ => z5) (va, 16, 0, 0, fun _ => 0), [(z6, .inl (G.2.1 0, 16, .inl (fun _ => 0)))], [(z7, .inl (G.2.1 0, 24, .inl (fun _ => 0)))]]) cl6 0 rfl 8 (by decide) q268 rfl rfl rfl rfl (Nat.le_of_ble_eq_true rfl) rfl dX6_init_82 (fun H locs w => ?_)
  refine lv_aload_n F.x F.b dX6_init_85 rfl (lv_at hl 0 rfl) ?_
  refine lv_iconst (v := (-1)) F.x F.b dX6_init_86 (by decide) ?_
  refine rp F w (ws' := fl [[(o, .inr (10, [.ref (b1 0), .ref (b2 0), .ref (b3 0), .ref (b4 0), .ref z5, .ref z6, .ref z7, .null, .int (-1), .int (-1)]))], wSh G.2.1 b1 zM, wSh G.2.1 b2 zM, wHo G.2.1 b3 0 0 (fun _ => none), wTe G.2.1 b4 C0, wSb G.2.1 (fun _ => z5) (va, 16, 0, 0, fun _ => 0), [(z6, .inl (G.2.1 0, 16, .inl (fun _ => 0)))], [(z7, .inl (G.2.1 0, 24, .inl (fun _ => 0)))]]) cl6 0 rfl 9 (by decide) q269 rfl rfl rfl rfl (Nat.le_of_ble_eq_true rfl) rfl dX6_init_87 (fun H locs w => ?_)
  have w := w.re (L' := [[(o, .inr (10, [.ref (b1 0), .ref (b2 0), .ref (b3 0), .ref (b4 0), .ref z5, .ref z6, .ref z7, .null, .int (-1), .int (-1)]))], wSh G.2.1 b1 zM, wSh G.2.1 b2 zM, wTe G.2.1 b4 C0, wSb G.2.1 (fun _ => z5) (va, 16, 0, 0, fun _ => 0), [(z6, .inl (G.2.1 0, 16, .inl (fun _ => 0)))], [(z7, .inl (G.2.1 0, 24, .inl (fun _ => 0)))], wHo G.2.1 b3 0 0 (fun _ => none)]) 8 [0, 1, 2, 4, 5, 6, 7, 3] rfl rfl rfl
  exact evN F w hr hlocks ⟨(fun k => ([fun _ => o, b1, b2, b3, b4, fun _ => z5, fun _ => z6, fun _ => z7] : List (Nat → Nat)).getD k (fun _ => 0)), va, rfl, (fl_nil2 _).symm⟩ (Nat.le_of_ble_eq_true rfl) (Nat.le_of_ble_eq_true rfl) dX6_init_90

/-! printed by wip/p61/tools/gen85.py: constructors: what they make -/
def zM : Mem := (fun _ => 0, fun _ _ => 0)
def cQu (T : Nat → ClassId) (o : Nat) (q : Nat → Nat) : va_W := [(o, .inr (4, [.ref (q 0), .int 0])), (q 0, .inl (T 0, 16, .inl (fun _ => 0)))]
def cTa (T : Nat → ClassId) (o : Nat) (q : Nat → Nat) : va_W := [(o, .inr (9, [.ref (q 0), .ref (q 1), .int 0])), (q 0, .inl (T 0, 6, .inl (fun _ => 0))), (q 1, .inl (T 0, 6, .inl (fun _ => 0)))]
def cLo (T : Nat → ClassId) (o : Nat) (q : Nat → Nat) : va_W := [(o, .inr (7, [.ref (q 0), .ref (q 1), .ref (q 2), .ref (q 3), .ref (q 4), .ref (q 5), .ref (q 6), .int 0, .int 0])), (q 0, .inl (T 0, 16, .inl (fun _ => 0))), (q 1, .inl (T 1, 16, .inl (fun _ => 0))), (q 2, .inl (T 0, 16, .inl (fun _ => 0))), (q 3, .inl (T 0, 16, .inl (fun _ => 0))), (q 4, .inl (T 0, 16, .inl (fun _ => 0))), (q 5, .inl (T 2, 16, .inl (fun _ => 0))), (q 6, .inl (T 2, 16, .inl (fun _ => 0)))]
/-- the class' history: where it stands, how many changes it keeps, the states -/
abbrev hS : Type := Nat → Option ((Nat → Nat) × Mem)
def wHo (T : Nat → ClassId) (h : Nat → Nat) (cu ct : Nat) (hs : hS) : va_W := [(h 0, .inr (6, [.ref (h 1), .int (nI cu), .int (nI ct)])), (h 1, .inl (T 6, 9, .inr (.inr (.inr (.inr (fun i => (hs i).map (fun q => q.1 0)))))))]
/-- the class of the rows of states is known to the start -/
def AG (G : cG) : Prop := ∀ (U : State) (H : Heap), G.2.2.2 U H → va_AO RX4 U
def C0 : Mem := wrI (wrI zM 2 10) 3 97
theorem q58 : Cond.methodLink RX4 3 Lib.objectInit ∈ lw_tbl := List.mem_of_getElem? (i := 58) (by decide +kernel)
theorem q59 : Cond.classLink RX4 9 RX3 ∈ lw_tbl := List.mem_of_getElem? (i := 59) (by decide +kernel)
theorem q61 : Cond.methodLinkNest RX4 11 yX3_init "CustomsShed" ∈ lw_tbl := List.mem_of_getElem? (i := 61) (by decide +kernel)
theorem q64 : Cond.methodLink RX3 3 Lib.objectInit ∈ lw_tbl := List.mem_of_getElem? (i := 64) (by decide +kernel)
theorem q110 : Cond.classLink RX4 18 RX5 ∈ lw_tbl := List.mem_of_getElem? (i := 110) (by decide +kernel)
theorem q112 : Cond.methodLinkNest RX4 20 yX5_init "CustomsShed" ∈ lw_tbl := List.mem_of_getElem? (i := 112) (by decide +kernel)
theorem q115 : Cond.methodLink RX5 3 Lib.objectInit ∈ lw_tbl := List.mem_of_getElem? (i := 115) (by decide +kernel)
theorem q129 : Cond.classLink RX4 25 RX0 ∈ lw_tbl := List.mem_of_getElem? (i := 129) (by decide +kernel)
theorem q131 : Cond.methodLinkNest RX4 27 yX0_init "CustomsShed" ∈ lw_tbl := List.mem_of_getElem? (i := 131) (by decide +kernel)
theorem q134 : Cond.methodLink RX0 3 Lib.objectInit ∈ lw_tbl := List.mem_of_getElem? (i := 134) (by decide +kernel)
theorem q180 : Cond.methodLink RX2 3 Lib.objectInit ∈ lw_tbl := List.mem_of_getElem? (i := 180) (by decide +kernel)
theorem q181 : Cond.classLink RX2 11 RX4 ∈ lw_tbl := List.mem_of_getElem? (i := 181) (by decide +kernel)
theorem q183 : Cond.fieldLink RX2 13 "CustomsShed$History" "states" "[LCustomsShed$Shed;" ∈ lw_tbl := List.mem_of_getElem? (i := 183) (by decide +kernel)
theorem q184 : Cond.fieldLink RX2 17 "CustomsShed$History" "cursor" "I" ∈ lw_tbl := List.mem_of_getElem? (i := 184) (by decide +kernel)
theorem q185 : Cond.fieldLink RX2 21 "CustomsShed$History" "count" "I" ∈ lw_tbl := List.mem_of_getElem? (i := 185) (by decide +kernel)
theorem q199 : Cond.methodLink RX1 3 Lib.objectInit ∈ lw_tbl := List.mem_of_getElem? (i := 199) (by decide +kernel)
theorem m_X3_init : YM yX3_init cX3_init 1 (none) 0 := ⟨⟨List.mem_of_getElem? (i := 63) (by decide +kernel), by decide +kernel⟩, List.mem_of_getElem? (i := 17) (by decide +kernel), ⟨by decide, by decide⟩, by decide +kernel⟩
theorem v_X3_init : Cond.instanceMethod yX3_init ∈ lw_tbl := (List.mem_of_getElem? (i := 62) (by decide +kernel))
theorem m_X5_init : YM yX5_init cX5_init 1 (none) 0 := ⟨⟨List.mem_of_getElem? (i := 114) (by decide +kernel), by decide +kernel⟩, List.mem_of_getElem? (i := 18) (by decide +kernel), ⟨by decide, by decide⟩, by decide +kernel⟩
theorem v_X5_init : Cond.instanceMethod yX5_init ∈ lw_tbl := (List.mem_of_getElem? (i := 113) (by decide +kernel))
theorem m_X0_init : YM yX0_init cX0_init 1 (none) 0 := ⟨⟨List.mem_of_getElem? (i := 133) (by decide +kernel), by decide +kernel⟩, List.mem_of_getElem? (i := 19) (by decide +kernel), ⟨by decide, by decide⟩, by decide +kernel⟩
theorem v_X0_init : Cond.instanceMethod yX0_init ∈ lw_tbl := (List.mem_of_getElem? (i := 132) (by decide +kernel))
set_option maxRecDepth 100000 in
set_option maxHeartbeats 4000000 in
theorem t_X0_init {G : cG} (g : GOK G) {o : Nat} : CN G yX0_init cX0_init 1 1 12 1 16 [.ref o] [(o, .inr (4, [.null, .int 0]))] (fun w1 => ∃ q : Nat → Nat, w1 = cQu G.2.1 o q) := by
  refine CN.of g (by decide) rfl (Nat.le_of_ble_eq_true rfl) ?_
  intro p l e s m below meth c A ls hin F hr hlocks w hl
  generalize ([.ref o] : List Value).toArray = args
  have hin : meth.name = "<init>" := hin
  have hl : lv_has ls 1 [(0, .ref o)] := hl
  have w : Wd G A s.heap (fl [[(o, .inr (4, [.null, .int 0]))]]) _ _ := w
  refine lv_aload_n F.x F.b dX0_init_0 rfl (lv_at hl 0 rfl) ?_
  refine roI F q134 (List.mem_of_getElem? (i := 51) (by decide +kernel)) (List.mem_of_getElem? (i := 52) (by decide +kernel)) (by decide +kernel) hl.1 ⟨Nat.le_of_ble_eq_true rfl, Nat.le_of_ble_eq_true rfl⟩ dX0_init_1 ?_
  refine lv_aload_n F.x F.b dX0_init_4 rfl (lv_at hl 0 rfl) ?_
  refine lv_bipush (v := 16) F.x F.b dX0_init_5 (by decide) ?_
  refine rnA F w (atype := .int) (ty := .int) 0 rfl (List.mem_of_getElem? (i := 107) (by decide +kernel)) (by decide +kernel) rfl (16, .inl (fun _ => 0)) (fun _ => rfl) (by decide) (N' := 16) (by decide) (Nat.le_of_ble_eq_true rfl) (Nat.le_of_ble_eq_true rfl) (Nat.le_of_ble_eq_true rfl) dX0_init_7 (fun z1 H w => ?_)
  have w : Wd G A s.heap (fl [[(o, .inr (4, [.null, .int 0]))], [(z1, .inl (G.2.1 0, 16, .inl (fun _ => 0)))]]) _ _ := w
  refine rpF F w (ws' := fl [[(o, .inr (4, [.ref z1, .int 0]))], [(z1, .inl (G.2.1 0, 16, .inl (fun _ => 0)))]]) cl0 0 rfl 0 (by decide) q135 rfl rfl hin rfl rfl rfl (Nat.le_of_ble_eq_true rfl) rfl dX0_init_9 (fun H locs w => ?_)
  refine lv_aload_n F.x F.b dX0_init_12 rfl (lv_at hl 0 rfl) ?_
  refine lv_iconst (v := 0) F.x F.b dX0_init_13 (by decide) ?_
  refine rp F w (ws' := fl [[(o, .inr (4, [.ref z1, .int 0]))], [(z1, .inl (G.2.1 0, 16, .inl (fun _ => 0)))]]) cl0 0 rfl 1 (by decide) q138 rfl rfl rfl rfl (Nat.le_of_ble_eq_true rfl) rfl dX0_init_14 (fun H locs w => ?_)
  exact evN F w hr hlocks ⟨fun k => [z1].getD k 0, rfl⟩ (Nat.le_of_ble_eq_true rfl) (Nat.le_of_ble_eq_true rfl) dX0_init_17
set_option maxRecDepth 100000 in
set_option maxHeartbeats 4000000 in
theorem t_X5_init {G : cG} (g : GOK G) {o : Nat} : CN G yX5_init cX5_init 1 1 12 2 12 [.ref o] [(o, .inr (9, [.null, .null, .int 0]))] (fun w1 => ∃ q : Nat → Nat, w1 = cTa G.2.1 o q) := by
  refine CN.of g (by decide) rfl (Nat.le_of_ble_eq_true rfl) ?_
  intro p l e s m below meth c A ls hin F hr hlocks w hl
  generalize ([.ref o] : List Value).toArray = args
  have hin : meth.name = "<init>" := hin
  have hl : lv_has ls 1 [(0, .ref o)] := hl
  have w : Wd G A s.heap (fl [[(o, .inr (9, [.null, .null, .int 0]))]]) _ _ := w
  refine lv_aload_n F.x F.b dX5_init_0 rfl (lv_at hl 0 rfl) ?_
  refine roI F q115 (List.mem_of_getElem? (i := 51) (by decide +kernel)) (List.mem_of_getElem? (i := 52) (by decide +kernel)) (by decide +kernel) hl.1 ⟨Nat.le_of_ble_eq_true rfl, Nat.le_of_ble_eq_true rfl⟩ dX5_init_1 ?_
  refine lv_aload_n F.x F.b dX5_init_4 rfl (lv_at hl 0 rfl) ?_
  refine lv_bipush (v := 6) F.x F.b dX5_init_5 (by decide) ?_
  refine rnA F w (atype := .int) (ty := .int) 0 rfl (List.mem_of_getElem? (i := 107) (by decide +kernel)) (by decide +kernel) rfl (6, .inl (fun _ => 0)) (fun _ => rfl) (by decide) (N' := 6) (by decide) (Nat.le_of_ble_eq_true rfl) (Nat.le_of_ble_eq_true rfl) (Nat.le_of_ble_eq_true rfl) dX5_init_7 (fun z1 H w => ?_)
  have w : Wd G A s.heap (fl [[(o, .inr (9, [.null, .null, .int 0]))], [(z1, .inl (G.2.1 0, 6, .inl (fun _ => 0)))]]) _ _ := w
  refine rpF F w (ws' := fl [[(o, .inr (9, [.ref z1, .null, .int 0]))], [(z1, .inl (G.2.1 0, 6, .inl (fun _ => 0)))]]) cl5 0 rfl 0 (by decide) q116 rfl rfl hin rfl rfl rfl (Nat.le_of_ble_eq_true rfl) rfl dX5_init_9 (fun H locs w => ?_)
  refine lv_aload_n F.x F.b dX5_init_12 rfl (lv_at hl 0 rfl) ?_
  refine lv_bipush (v := 6) F.x F.b dX5_init_13 (by decide) ?_
  refine rnA F w (atype := .int) (ty := .int) 0 rfl (List.mem_of_getElem? (i := 107) (by decide +kernel)) (by decide +kernel) rfl (6, .inl (fun _ => 0)) (fun _ => rfl) (by decide) (N' := 6) (by decide) (Nat.le_of_ble_eq_true rfl) (Nat.le_of_ble_eq_true rfl) (Nat.le_of_ble_eq_true rfl) dX5_init_15 (fun z2 H w => ?_)
  have w : Wd G A s.heap (fl [[(o, .inr (9, [.ref z1, .null, .int 0]))], [(z1, .inl (G.2.1 0, 6, .inl (fun _ => 0)))], [(z2, .inl (G.2.1 0, 6, .inl (fun _ => 0)))]]) _ _ := w
  refine rpF F w (ws' := fl [[(o, .inr (9, [.ref z1, .ref z2, .int 0]))], [(z1, .inl (G.2.1 0, 6, .inl (fun _ => 0)))], [(z2, .inl (G.2.1 0, 6, .inl (fun _ => 0)))]]) cl5 0 rfl 1 (by decide) q118 rfl rfl hin rfl rfl rfl (Nat.le_of_ble_eq_true rfl) rfl dX5_init_17 (fun H locs w => ?_)
  refine lv_aload_n F.x F.b dX5_init_20 rfl (lv_at hl 0 rfl) ?_
  refine lv_iconst (v := 0) F.x F.b dX5_init_21 (by decide) ?_
  refine rp F w (ws' := fl [[(o, .inr (9, [.ref z1, .ref z2, .int 0]))], [(z1, .inl (G.2.1 0, 6, .inl (fun _ => 0)))], [(z2, .inl (G.2.1 0, 6, .inl (fun _ => 0)))]]) cl5 0 rfl 2 (by decide) q120 rfl rfl rfl rfl (Nat.le_of_ble_eq_true rfl) rfl dX5_init_22 (fun H locs w => ?_)
  exact evN F w hr hlocks ⟨fun k => [z1, z2].getD k 0, rfl⟩ (Nat.le_of_ble_eq_true rfl) (Nat.le_of_ble_eq_true rfl) dX5_init_25
set_option maxRecDepth 100000 in
set_option maxHeartbeats 4000000 in
theorem t_X3_init {G : cG} (g : GOK G) {o : Nat} : CN G yX3_init cX3_init 1 1 12 7 112 [.ref o] [(o, .inr (7, [.null, .null, .null, .null, .null, .null, .null, .int 0, .int 0]))] (fun w1 => ∃ q : Nat → Nat, w1 = cLo G.2.1 o q) := by
  refine CN.of g (by decide) rfl (Nat.le_of_ble_eq_true rfl) ?_
  intro p l e s m below meth c A ls hin F hr hlocks w hl
  generalize ([.ref o] : List Value).toArray = args
  have hin : meth.name = "<init>" := hin
  have hl : lv_has ls 1 [(0, .ref o)] := hl
  have w : Wd G A s.heap (fl [[(o, .inr (7, [.null, .null, .null, .null, .null, .null, .null, .int 0, .int 0]))]]) _ _ := w
  refine lv_aload_n F.x F.b dX3_init_0 rfl (lv_at hl 0 rfl) ?_
  refine roI F q64 (List.mem_of_getElem? (i := 51) (by decide +kernel)) (List.mem_of_getElem? (i := 52) (by decide +kernel)) (by decide +kernel) hl.1 ⟨Nat.le_of_ble_eq_true rfl, Nat.le_of_ble_eq_true rfl⟩ dX3_init_1 ?_
  refine lv_aload_n F.x F.b dX3_init_4 rfl (lv_at hl 0 rfl) ?_
  refine lv_bipush (v := 16) F.x F.b dX3_init_5 (by decide) ?_
  refine rnA F w (atype := .int) (ty := .int) 0 rfl (List.mem_of_getElem? (i := 107) (by decide +kernel)) (by decide +kernel) rfl (16, .inl (fun _ => 0)) (fun _ => rfl) (by decide) (N' := 16) (by decide) (Nat.le_of_ble_eq_true rfl) (Nat.le_of_ble_eq_true rfl) (Nat.le_of_ble_eq_true rfl) dX3_init_7 (fun z1 H w => ?_)
  have w : Wd G A s.heap (fl [[(o, .inr (7, [.null, .null, .null, .null, .null, .null, .null, .int 0, .int 0]))], [(z1, .inl (G.2.1 0, 16, .inl (fun _ => 0)))]]) _ _ := w
  refine rpF F w (ws' := fl [[(o, .inr (7, [.ref z1, .null, .null, .null, .null, .null, .null, .int 0, .int 0]))], [(z1, .inl (G.2.1 0, 16, .inl (fun _ => 0)))]]) cl3 0 rfl 0 (by decide) q65 rfl rfl hin rfl rfl rfl (Nat.le_of_ble_eq_true rfl) rfl dX3_init_9 (fun H locs w => ?_)
  refine lv_aload_n F.x F.b dX3_init_12 rfl (lv_at hl 0 rfl) ?_
  refine lv_bipush (v := 16) F.x F.b dX3_init_13 (by decide) ?_
  refine rnA F w (atype := .char) (ty := .char) 1 rfl (List.mem_of_getElem? (i := 108) (by decide +kernel)) (by decide +kernel) rfl (16, .inl (fun _ => 0)) (fun _ => rfl) (by decide) (N' := 16) (by decide) (Nat.le_of_ble_eq_true rfl) (Nat.le_of_ble_eq_true rfl) (Nat.le_of_ble_eq_true rfl) dX3_init_15 (fun z2 H w => ?_)
  have w : Wd G A s.heap (fl [[(o, .inr (7, [.ref z1, .null, .null, .null, .null, .null, .null, .int 0, .int 0]))], [(z1, .inl (G.2.1 0, 16, .inl (fun _ => 0)))], [(z2, .inl (G.2.1 1, 16, .inl (fun _ => 0)))]]) _ _ := w
  refine rpF F w (ws' := fl [[(o, .inr (7, [.ref z1, .ref z2, .null, .null, .null, .null, .null, .int 0, .int 0]))], [(z1, .inl (G.2.1 0, 16, .inl (fun _ => 0)))], [(z2, .inl (G.2.1 1, 16, .inl (fun _ => 0)))]]) cl3 0 rfl 1 (by decide) q68 rfl rfl hin rfl rfl rfl (Nat.le_of_ble_eq_true rfl) rfl dX3_init_17 (fun H locs w => ?_)
  refine lv_aload_n F.x F.b dX3_init_20 rfl (lv_at hl 0 rfl) ?_
  refine lv_bipush (v := 16) F.x F.b dX3_init_21 (by decide) ?_
  refine rnA F w (atype := .int) (ty := .int) 0 rfl (List.mem_of_getElem? (i := 107) (by decide +kernel)) (by decide +kernel) rfl (16, .inl (fun _ => 0)) (fun _ => rfl) (by decide) (N' := 16) (by decide) (Nat.le_of_ble_eq_true rfl) (Nat.le_of_ble_eq_true rfl) (Nat.le_of_ble_eq_true rfl) dX3_init_23 (fun z3 H w => ?_)
  have w : Wd G A s.heap (fl [[(o, .inr (7, [.ref z1, .ref z2, .null, .null, .null, .null, .null, .int 0, .int 0]))], [(z1, .inl (G.2.1 0, 16, .inl (fun _ => 0)))], [(z2, .inl (G.2.1 1, 16, .inl (fun _ => 0)))], [(z3, .inl (G.2.1 0, 16, .inl (fun _ => 0)))]]) _ _ := w
  refine rpF F w (ws' := fl [[(o, .inr (7, [.ref z1, .ref z2, .ref z3, .null, .null, .null, .null, .int 0, .int 0]))], [(z1, .inl (G.2.1 0, 16, .inl (fun _ => 0)))], [(z2, .inl (G.2.1 1, 16, .inl (fun _ => 0)))], [(z3, .inl (G.2.1 0, 16, .inl (fun _ => 0)))]]) cl3 0 rfl 2 (by decide) q70 rfl rfl hin rfl rfl rfl (Nat.le_of_ble_eq_true rfl) rfl dX3_init_25 (fun H locs w => ?_)
  refine lv_aload_n F.x F.b dX3_init_28 rfl (lv_at hl 0 rfl) ?_
  refine lv_bipush (v := 16) F.x F.b dX3_init_29 (by decide) ?_
  refine rnA F w (atype := .int) (ty := .int) 0 rfl (List.mem_of_getElem? (i := 107) (by decide +kernel)) (by decide +kernel) rfl (16, .inl (fun _ => 0)) (fun _ => rfl) (by decide) (N' := 16) (by decide) (Nat.le_of_ble_eq_true rfl) (Nat.le_of_ble_eq_true rfl) (Nat.le_of_ble_eq_true rfl) dX3_init_31 (fun z4 H w => ?_)
  have w : Wd G A s.heap (fl [[(o, .inr (7, [.ref z1, .ref z2, .ref z3, .null, .null, .null, .null, .int 0, .int 0]))], [(z1, .inl (G.2.1 0, 16, .inl (fun _ => 0)))], [(z2, .inl (G.2.1 1, 16, .inl (fun _ => 0)))], [(z3, .inl (G.2.1 0, 16, .inl (fun _ => 0)))], [(z4, .inl (G.2.1 0, 16, .inl (fun _ => 0)))]]) _ _ := w
  refine rpF F w (ws' := fl [[(o, .inr (7, [.ref z1, .ref z2, .ref z3, .ref z4, .null, .null, .null, .int 0, .int 0]))], [(z1, .inl (G.2.1 0, 16, .inl (fun _ => 0)))], [(z2, .inl (G.2.1 1, 16, .inl (fun _ => 0)))], [(z3, .inl (G.2.1 0, 16, .inl (fun _ => 0)))], [(z4, .inl (G.2.1 0, 16, .inl (fun _ => 0)))]]) cl3 0 rfl 3 (by decide) q73 rfl rfl hin rfl rfl rfl (Nat.le_of_ble_eq_true rfl) rfl dX3_init_33 (fun H locs w => ?_)
  refine lv_aload_n F.x F.b dX3_init_36 rfl (lv_at hl 0 rfl) ?_
  refine lv_bipush (v := 16) F.x F.b dX3_init_37 (by decide) ?_
  refine rnA F w (atype := .int) (ty := .int) 0 rfl (List.mem_of_getElem? (i := 107) (by decide +kernel)) (by decide +kernel) rfl (16, .inl (fun _ => 0)) (fun _ => rfl) (by decide) (N' := 16) (by decide) (Nat.le_of_ble_eq_true rfl) (Nat.le_of_ble_eq_true rfl) (Nat.le_of_ble_eq_true rfl) dX3_init_39 (fun z5 H w => ?_)
  have w : Wd G A s.heap (fl [[(o, .inr (7, [.ref z1, .ref z2, .ref z3, .ref z4, .null, .null, .null, .int 0, .int 0]))], [(z1, .inl (G.2.1 0, 16, .inl (fun _ => 0)))], [(z2, .inl (G.2.1 1, 16, .inl (fun _ => 0)))], [(z3, .inl (G.2.1 0, 16, .inl (fun _ => 0)))], [(z4, .inl (G.2.1 0, 16, .inl (fun _ => 0)))], [(z5, .inl (G.2.1 0, 16, .inl (fun _ => 0)))]]) _ _ := w
  refine rpF F w (ws' := fl [[(o, .inr (7, [.ref z1, .ref z2, .ref z3, .ref z4, .ref z5, .null, .null, .int 0, .int 0]))], [(z1, .inl (G.2.1 0, 16, .inl (fun _ => 0)))], [(z2, .inl (G.2.1 1, 16, .inl (fun _ => 0)))], [(z3, .inl (G.2.1 0, 16, .inl (fun _ => 0)))], [(z4, .inl (G.2.1 0, 16, .inl (fun _ => 0)))], [(z5, .inl (G.2.1 0, 16, .inl (fun _ => 0)))]]) cl3 0 rfl 4 (by decide) q75 rfl rfl hin rfl rfl rfl (Nat.le_of_ble_eq_true rfl) rfl dX3_init_41 (fun H locs w => ?_)
  refine lv_aload_n F.x F.b dX3_init_44 rfl (lv_at hl 0 rfl) ?_
  refine lv_bipush (v := 16) F.x F.b dX3_init_45 (by decide) ?_
  refine rnA F w (atype := .boolean) (ty := .boolean) 2 rfl (List.mem_of_getElem? (i := 109) (by decide +kernel)) (by decide +kernel) rfl (16, .inl (fun _ => 0)) (fun _ => rfl) (by decide) (N' := 16) (by decide) (Nat.le_of_ble_eq_true rfl) (Nat.le_of_ble_eq_true rfl) (Nat.le_of_ble_eq_true rfl) dX3_init_47 (fun z6 H w => ?_)
  have w : Wd G A s.heap (fl [[(o, .inr (7, [.ref z1, .ref z2, .ref z3, .ref z4, .ref z5, .null, .null, .int 0, .int 0]))], [(z1, .inl (G.2.1 0, 16, .inl (fun _ => 0)))], [(z2, .inl (G.2.1 1, 16, .inl (fun _ => 0)))], [(z3, .inl (G.2.1 0, 16, .inl (fun _ => 0)))], [(z4, .inl (G.2.1 0, 16, .inl (fun _ => 0)))], [(z5, .inl (G.2.1 0, 16, .inl (fun _ => 0)))], [(z6, .inl (G.2.1 2, 16, .inl (fun _ => 0)))]]) _ _ := w
  refine rpF F w (ws' := fl [[(o, .inr (7, [.ref z1, .ref z2, .ref z3, .ref z4, .ref z5, .ref z6, .null, .int 0, .int 0]))], [(z1, .inl (G.2.1 0, 16, .inl (fun _ => 0)))], [(z2, .inl (G.2.1 1, 16, .inl (fun _ => 0)))], [(z3, .inl (G.2.1 0, 16, .inl (fun _ => 0)))], [(z4, .inl (G.2.1 0, 16, .inl (fun _ => 0)))], [(z5, .inl (G.2.1 0, 16, .inl (fun _ => 0)))], [(z6, .inl (G.2.1 2, 16, .inl (fun _ => 0)))]]) cl3 0 rfl 5 (by decide) q78 rfl rfl hin rfl rfl rfl (Nat.le_of_ble_eq_true rfl) rfl dX3_init_49 (fun H locs w => ?_)
  refine lv_aload_n F.x F.b dX3_init_52 rfl (lv_at hl 0 rfl) ?_
  refine lv_bipush (v := 16) F.x F.b dX3_init_53 (by decide) ?_
  refine rnA F w (atype := .boolean) (ty := .boolean) 2 rfl (List.mem_of_getElem? (i := 109) (by decide +kernel)) (by decide +kernel) rfl (16, .inl (fun _ => 0)) (fun _ => rfl) (by decide) (N' := 16) (by decide) (Nat.le_of_ble_eq_true rfl) (Nat.le_of_ble_eq_true rfl) (Nat.le_of_ble_eq_true rfl) dX3_init_55 (fun z7 H w => ?_)
  have w : Wd G A s.heap (fl [[(o, .inr (7, [.ref z1, .ref z2, .ref z3, .ref z4, .ref z5, .ref z6, .null, .int 0, .int 0]))], [(z1, .inl (G.2.1 0, 16, .inl (fun _ => 0)))], [(z2, .inl (G.2.1 1, 16, .inl (fun _ => 0)))], [(z3, .inl (G.2.1 0, 16, .inl (fun _ => 0)))], [(z4, .inl (G.2.1 0, 16, .inl (fun _ => 0)))], [(z5, .inl (G.2.1 0, 16, .inl (fun _ => 0)))], [(z6, .inl (G.2.1 2, 16, .inl (fun _ => 0)))], [(z7, .inl (G.2.1 2, 16, .inl (fun _ => 0)))]]) _ _ := w
  refine rpF F w (ws' := fl [[(o, .inr (7, [.ref z1, .ref z2, .ref z3, .ref z4, .ref z5, .ref z6, .ref z7, .int 0, .int 0]))], [(z1, .inl (G.2.1 0, 16, .inl (fun _ => 0)))], [(z2, .inl (G.2.1 1, 16, .inl (fun _ => 0)))], [(z3, .inl (G.2.1 0, 16, .inl (fun _ => 0)))], [(z4, .inl (G.2.1 0, 16, .inl (fun _ => 0)))], [(z5, .inl (G.2.1 0, 16, .inl (fun _ => 0)))], [(z6, .inl (G.2.1 2, 16, .inl (fun _ => 0)))], [(z7, .inl (G.2.1 2, 16, .inl (fun _ => 0)))]]) cl3 0 rfl 6 (by decide) q81 rfl rfl hin rfl rfl rfl (Nat.le_of_ble_eq_true rfl) rfl dX3_init_57 (fun H locs w => ?_)
  refine lv_aload_n F.x F.b dX3_init_60 rfl (lv_at hl 0 rfl) ?_
  refine lv_iconst (v := 0) F.x F.b dX3_init_61 (by decide) ?_
  refine rp F w (ws' := fl [[(o, .inr (7, [.ref z1, .ref z2, .ref z3, .ref z4, .ref z5, .ref z6, .ref z7, .int 0, .int 0]))], [(z1, .inl (G.2.1 0, 16, .inl (fun _ => 0)))], [(z2, .inl (G.2.1 1, 16, .inl (fun _ => 0)))], [(z3, .inl (G.2.1 0, 16, .inl (fun _ => 0)))], [(z4, .inl (G.2.1 0, 16, .inl (fun _ => 0)))], [(z5, .inl (G.2.1 0, 16, .inl (fun _ => 0)))], [(z6, .inl (G.2.1 2, 16, .inl (fun _ => 0)))], [(z7, .inl (G.2.1 2, 16, .inl (fun _ => 0)))]]) cl3 0 rfl 7 (by decide) q84 rfl rfl rfl rfl (Nat.le_of_ble_eq_true rfl) rfl dX3_init_62 (fun H locs w => ?_)
  refine lv_aload_n F.x F.b dX3_init_65 rfl (lv_at hl 0 rfl) ?_
  refine lv_iconst (v := 0) F.x F.b dX3_init_66 (by decide) ?_
  refine rp F w (ws' := fl [[(o, .inr (7, [.ref z1, .ref z2, .ref z3, .ref z4, .ref z5, .ref z6, .ref z7, .int 0, .int 0]))], [(z1, .inl (G.2.1 0, 16, .inl (fun _ => 0)))], [(z2, .inl (G.2.1 1, 16, .inl (fun _ => 0)))], [(z3, .inl (G.2.1 0, 16, .inl (fun _ => 0)))], [(z4, .inl (G.2.1 0, 16, .inl (fun _ => 0)))], [(z5, .inl (G.2.1 0, 16, .inl (fun _ => 0)))], [(z6, .inl (G.2.1 2, 16, .inl (fun _ => 0)))], [(z7, .inl (G.2.1 2, 16, .inl (fun _ => 0)))]]) cl3 0 rfl 8 (by decide) q87 rfl rfl rfl rfl (Nat.le_of_ble_eq_true rfl) rfl dX3_init_67 (fun H locs w => ?_)
  exact evN F w hr hlocks ⟨fun k => [z1, z2, z3, z4, z5, z6, z7].getD k 0, rfl⟩ (Nat.le_of_ble_eq_true rfl) (Nat.le_of_ble_eq_true rfl) dX3_init_70
set_option maxRecDepth 100000 in
set_option maxHeartbeats 4000000 in
theorem t_X4_init {G : cG} (g : GOK G) {o : Nat} : CN G yX4_init cX4_init 1 2 32 13 154 [.ref o] [(o, .inr (8, [.null, .null, .null, .int 0, .int 0, .int 0, .int 0]))] (fun w1 => ∃ b : Nat → Nat, b 0 = o ∧ w1 = wSh G.2.1 b zM) := by
  refine CN.of g (by decide) rfl (Nat.le_of_ble_eq_true rfl) ?_
  intro p l e s m below meth c A ls hin F hr hlocks w hl
  generalize ([.ref o] : List Value).toArray = args
  have hin : meth.name = "<init>" := hin
  have hl : lv_has ls 1 [(0, .ref o)] := hl
  have w : Wd G A s.heap (fl [[(o, .inr (8, [.null, .null, .null, .int 0, .int 0, .int 0, .int 0]))]]) _ _ := w
  refine lv_aload_n F.x F.b dX4_init_0 rfl (lv_at hl 0 rfl) ?_
  refine roI F q58 (List.mem_of_getElem? (i := 51) (by decide +kernel)) (List.mem_of_getElem? (i := 52) (by decide +kernel)) (by decide +kernel) hl.1 ⟨Nat.le_of_ble_eq_true rfl, Nat.le_of_ble_eq_true rfl⟩ dX4_init_1 ?_
  refine lv_aload_n F.x F.b dX4_init_4 rfl (lv_at hl 0 rfl) ?_
  refine rn F w cl3 q59 (List.mem_of_getElem? (i := 60) (by decide +kernel)) (List.mem_of_getElem? (i := 17) (by decide +kernel)) [.null, .null, .null, .null, .null, .null, .null, .int 0, .int 0] (fun j hj => by rcases (show j = 0 ∨ j = 1 ∨ j = 2 ∨ j = 3 ∨ j = 4 ∨ j = 5 ∨ j = 6 ∨ j = 7 ∨ j = 8 by omega) with rfl | rfl | rfl | rfl | rfl | rfl | rfl | rfl | rfl <;> rfl) (Nat.le_of_ble_eq_true rfl) (Nat.le_of_ble_eq_true rfl) dX4_init_5 (fun z1 H w => ?_)
  have w : Wd G A s.heap (fl [[(o, .inr (8, [.null, .null, .null, .int 0, .int 0, .int 0, .int 0]))], [(z1, .inr (7, [.null, .null, .null, .null, .null, .null, .null, .int 0, .int 0]))]]) _ _ := w
  refine lv_dup F.x F.b dX4_init_8 rfl ?_
  refine kCN F w (LC := [[(z1, .inr (7, [.null, .null, .null, .null, .null, .null, .null, .int 0, .int 0]))]]) (LR := [[(o, .inr (8, [.null, .null, .null, .int 0, .int 0, .int 0, .int 0]))]]) (As := []) (rest := [.ref z1, .ref o]) (t_X3_init F.1) m_X3_init v_X3_init rfl q61 2 [1, 0] rfl rfl rfl ⟨Nat.le_of_ble_eq_true rfl, Nat.le_of_ble_eq_true rfl⟩ rfl hl.1 rfl (Nat.le_of_ble_eq_true rfl) dX4_init_9 ⟨Nat.le_of_ble_eq_true rfl, Nat.le_of_ble_eq_true rfl⟩ (fun w1 H locs h9 w => ?_)
  obtain ⟨q2, h9⟩ := h9
  have w := w.jn (L1 := [cLo G.2.1 z1 q2]) (L' := [[(o, .inr (8, [.null, .null, .null, .int 0, .int 0, .int 0, .int 0]))], cLo G.2.1 z1 q2]) h9 2 [1, 0] rfl rfl rfl
  refine rpF F w (ws' := fl [[(o, .inr (8, [.ref z1, .null, .null, .int 0, .int 0, .int 0, .int 0]))], cLo G.2.1 z1 q2]) cl4 0 rfl 0 (by decide) q146 rfl rfl hin rfl rfl rfl (Nat.le_of_ble_eq_true rfl) rfl dX4_init_12 (fun H locs w => ?_)
  refine lv_aload_n F.x F.b dX4_init_15 rfl (lv_at hl 0 rfl) ?_
  refine rn F w cl5 q110 (List.mem_of_getElem? (i := 111) (by decide +kernel)) (List.mem_of_getElem? (i := 18) (by decide +kernel)) [.null, .null, .int 0] (fun j hj => by rcases (show j = 0 ∨ j = 1 ∨ j = 2 by omega) with rfl | rfl | rfl <;> rfl) (Nat.le_of_ble_eq_true rfl) (Nat.le_of_ble_eq_true rfl) dX4_init_16 (fun z3 H w => ?_)
  have w : Wd G A s.heap (fl [[(o, .inr (8, [.ref z1, .null, .null, .int 0, .int 0, .int 0, .int 0]))], cLo G.2.1 z1 q2, [(z3, .inr (9, [.null, .null, .int 0]))]]) _ _ := w
  refine lv_dup F.x F.b dX4_init_19 rfl ?_
  refine kCN F w (LC := [[(z3, .inr (9, [.null, .null, .int 0]))]]) (LR := [[(o, .inr (8, [.ref z1, .null, .null, .int 0, .int 0, .int 0, .int 0]))], cLo G.2.1 z1 q2]) (As := []) (rest := [.ref z3, .ref o]) (t_X5_init F.1) m_X5_init v_X5_init rfl q112 3 [2, 0, 1] rfl rfl rfl ⟨Nat.le_of_ble_eq_true rfl, Nat.le_of_ble_eq_true rfl⟩ rfl hl.1 rfl (Nat.le_of_ble_eq_true rfl) dX4_init_20 ⟨Nat.le_of_ble_eq_true rfl, Nat.le_of_ble_eq_true rfl⟩ (fun w1 H locs h9 w => ?_)
  obtain ⟨q4, h9⟩ := h9
  have w := w.jn (L1 := [cTa G.2.1 z3 q4]) (L' := [[(o, .inr (8, [.ref z1, .null, .null, .int 0, .int 0, .int 0, .int 0]))], cLo G.2.1 z1 q2, cTa G.2.1 z3 q4]) h9 3 [1, 2, 0] rfl rfl rfl
  refine rpF F w (ws' := fl [[(o, .inr (8, [.ref z1, .ref z3, .null, .int 0, .int 0, .int 0, .int 0]))], cLo G.2.1 z1 q2, cTa G.2.1 z3 q4]) cl4 0 rfl 1 (by decide) q148 rfl rfl hin rfl rfl rfl (Nat.le_of_ble_eq_true rfl) rfl dX4_init_23 (fun H locs w => ?_)
  refine lv_aload_n F.x F.b dX4_init_26 rfl (lv_at hl 0 rfl) ?_
  refine rn F w cl0 q129 (List.mem_of_getElem? (i := 130) (by decide +kernel)) (List.mem_of_getElem? (i := 19) (by decide +kernel)) [.null, .int 0] (fun j hj => by rcases (show j = 0 ∨ j = 1 by omega) with rfl | rfl <;> rfl) (Nat.le_of_ble_eq_true rfl) (Nat.le_of_ble_eq_true rfl) dX4_init_27 (fun z5 H w => ?_)
  have w : Wd G A s.heap (fl [[(o, .inr (8, [.ref z1, .ref z3, .null, .int 0, .int 0, .int 0, .int 0]))], cLo G.2.1 z1 q2, cTa G.2.1 z3 q4, [(z5, .inr (4, [.null, .int 0]))]]) _ _ := w
  refine lv_dup F.x F.b dX4_init_30 rfl ?_
  refine kCN F w (LC := [[(z5, .inr (4, [.null, .int 0]))]]) (LR := [[(o, .inr (8, [.ref z1, .ref z3, .null, .int 0, .int 0, .int 0, .int 0]))], cLo G.2.1 z1 q2, cTa G.2.1 z3 q4]) (As := []) (rest := [.ref z5, .ref o]) (t_X0_init F.1) m_X0_init v_X0_init rfl q131 4 [3, 0, 1, 2] rfl rfl rfl ⟨Nat.le_of_ble_eq_true rfl, Nat.le_of_ble_eq_true rfl⟩ rfl hl.1 rfl (Nat.le_of_ble_eq_true rfl) dX4_init_31 ⟨Nat.le_of_ble_eq_true rfl, Nat.le_of_ble_eq_true rfl⟩ (fun w1 H locs h9 w => ?_)
  obtain ⟨q6, h9⟩ := h9
  have w := w.jn (L1 := [cQu G.2.1 z5 q6]) (L' := [[(o, .inr (8, [.ref z1, .ref z3, .null, .int 0, .int 0, .int 0, .int 0]))], cLo G.2.1 z1 q2, cTa G.2.1 z3 q4, cQu G.2.1 z5 q6]) h9 4 [1, 2, 3, 0] rfl rfl rfl
  refine rpF F w (ws' := fl [[(o, .inr (8, [.ref z1, .ref z3, .ref z5, .int 0, .int 0, .int 0, .int 0]))], cLo G.2.1 z1 q2, cTa G.2.1 z3 q4, cQu G.2.1 z5 q6]) cl4 0 rfl 2 (by decide) q150 rfl rfl hin rfl rfl rfl (Nat.le_of_ble_eq_true rfl) rfl dX4_init_34 (fun H locs w => ?_)
  refine lv_aload_n F.x F.b dX4_init_37 rfl (lv_at hl 0 rfl) ?_
  refine lv_iconst (v := 0) F.x F.b dX4_init_38 (by decide) ?_
  refine rp F w (ws' := fl [[(o, .inr (8, [.ref z1, .ref z3, .ref z5, .int 0, .int 0, .int 0, .int 0]))], cLo G.2.1 z1 q2, cTa G.2.1 z3 q4, cQu G.2.1 z5 q6]) cl4 0 rfl 3 (by decide) q152 rfl rfl rfl rfl (Nat.le_of_ble_eq_true rfl) rfl dX4_init_39 (fun H locs w => ?_)
  refine lv_aload_n F.x F.b dX4_init_42 rfl (lv_at hl 0 rfl) ?_
  refine lv_iconst (v := 0) F.x F.b dX4_init_43 (by decide) ?_
  refine rp F w (ws' := fl [[(o, .inr (8, [.ref z1, .ref z3, .ref z5, .int 0, .int 0, .int 0, .int 0]))], cLo G.2.1 z1 q2, cTa G.2.1 z3 q4, cQu G.2.1 z5 q6]) cl4 0 rfl 4 (by decide) q154 rfl rfl rfl rfl (Nat.le_of_ble_eq_true rfl) rfl dX4_init_44 (fun H locs w => ?_)
  refine lv_aload_n F.x F.b dX4_init_47 rfl (lv_at hl 0 rfl) ?_
  refine lv_iconst (v := 0) F.x F.b dX4_init_48 (by decide) ?_
  refine rp F w (ws' := fl [[(o, .inr (8, [.ref z1, .ref z3, .ref z5, .int 0, .int 0, .int 0, .int 0]))], cLo G.2.1 z1 q2, cTa G.2.1 z3 q4, cQu G.2.1 z5 q6]) cl4 0 rfl 5 (by decide) q156 rfl rfl rfl rfl (Nat.le_of_ble_eq_true rfl) rfl dX4_init_49 (fun H locs w => ?_)
  refine lv_aload_n F.x F.b dX4_init_52 rfl (lv_at hl 0 rfl) ?_
  refine lv_iconst (v := 0) F.x F.b dX4_init_53 (by decide) ?_
  refine rp F w (ws' := fl [[(o, .inr (8, [.ref z1, .ref z3, .ref z5, .int 0, .int 0, .int 0, .int 0]))], cLo G.2.1 z1 q2, cTa G.2.1 z3 q4, cQu G.2.1 z5 q6]) cl4 0 rfl 6 (by decide) q158 rfl rfl rfl rfl (Nat.le_of_ble_eq_true rfl) rfl dX4_init_54 (fun H locs w => ?_)
  exact evN F w hr hlocks ⟨fun k => [o, z1, q2 0, q2 1, q2 2, q2 3, q2 4, q2 5, q2 6, z3, q4 0, q4 1, z5, q6 0].getD k 0, rfl, rfl⟩ (Nat.le_of_ble_eq_true rfl) (Nat.le_of_ble_eq_true rfl) dX4_init_57
set_option maxRecDepth 100000 in
set_option maxHeartbeats 4000000 in
theorem t_X2_init {G : cG} (g : GOK G) (hAG : AG G) {o : Nat} : CN G yX2_init cX2_init 1 1 12 1 9 [.ref o] [(o, .inr (6, [.null, .int 0, .int 0]))] (fun w1 => ∃ h : Nat → Nat, h 0 = o ∧ w1 = wHo G.2.1 h 0 0 (fun _ => none)) := by
  refine CN.of g (by decide) rfl (Nat.le_of_ble_eq_true rfl) ?_
  intro p l e s m below meth c A ls hin F hr hlocks w hl
  generalize ([.ref o] : List Value).toArray = args
  have hin : meth.name = "<init>" := hin
  have hl : lv_has ls 1 [(0, .ref o)] := hl
  have w : Wd G A s.heap (fl [[(o, .inr (6, [.null, .int 0, .int 0]))]]) _ _ := w
  refine lv_aload_n F.x F.b dX2_init_0 rfl (lv_at hl 0 rfl) ?_
  refine roI F q180 (List.mem_of_getElem? (i := 51) (by decide +kernel)) (List.mem_of_getElem? (i := 52) (by decide +kernel)) (by decide +kernel) hl.1 ⟨Nat.le_of_ble_eq_true rfl, Nat.le_of_ble_eq_true rfl⟩ dX2_init_1 ?_
  refine lv_aload_n F.x F.b dX2_init_4 rfl (lv_at hl 0 rfl) ?_
  refine lv_bipush (v := 9) F.x F.b dX2_init_5 (by decide) ?_
  refine rnQ F w 6 rfl q181 (hAG s s.heap F.2.2.2.2.2.1.2.2) (by decide) (N' := 9) (by decide) (Nat.le_of_ble_eq_true rfl) (Nat.le_of_ble_eq_true rfl) (Nat.le_of_ble_eq_true rfl) dX2_init_7 (fun z1 H w => ?_)
  have w : Wd G A s.heap (fl [[(o, .inr (6, [.null, .int 0, .int 0]))], [(z1, .inl (G.2.1 6, 9, .inr (.inr (.inr (.inr (fun _ => none))))))]]) _ _ := w
  refine rpF F w (ws' := fl [[(o, .inr (6, [.ref z1, .int 0, .int 0]))], [(z1, .inl (G.2.1 6, 9, .inr (.inr (.inr (.inr (fun _ => none))))))]]) cl2 0 rfl 0 (by decide) q183 rfl rfl hin rfl rfl rfl (Nat.le_of_ble_eq_true rfl) rfl dX2_init_10 (fun H locs w => ?_)
  refine lv_aload_n F.x F.b dX2_init_13 rfl (lv_at hl 0 rfl) ?_
  refine lv_iconst (v := 0) F.x F.b dX2_init_14 (by decide) ?_
  refine rp F w (ws' := fl [[(o, .inr (6, [.ref z1, .int 0, .int 0]))], [(z1, .inl (G.2.1 6, 9, .inr (.inr (.inr (.inr (fun _ => none))))))]]) cl2 0 rfl 1 (by decide) q184 rfl rfl rfl rfl (Nat.le_of_ble_eq_true rfl) rfl dX2_init_15 (fun H locs w => ?_)
  refine lv_aload_n F.x F.b dX2_init_18 rfl (lv_at hl 0 rfl) ?_
  refine lv_iconst (v := 0) F.x F.b dX2_init_19 (by decide) ?_
  refine rp F w (ws' := fl [[(o, .inr (6, [.ref z1, .int 0, .int 0]))], [(z1, .inl (G.2.1 6, 9, .inr (.inr (.inr (.inr (fun _ => none))))))]]) cl2 0 rfl 2 (by decide) q185 rfl rfl rfl rfl (Nat.le_of_ble_eq_true rfl) rfl dX2_init_20 (fun H locs w => ?_)
  exact evN F w hr hlocks ⟨fun k => [o, z1].getD k 0, rfl, rfl⟩ (Nat.le_of_ble_eq_true rfl) (Nat.le_of_ble_eq_true rfl) dX2_init_23
set_option maxRecDepth 100000 in
set_option maxHeartbeats 4000000 in
theorem t_X1_init {G : cG} (g : GOK G) {o : Nat} : CN G yX1_init cX1_init 1 1 12 2 63 [.ref o] [(o, .inr (5, [.null, .null, .int 0, .int 0, .int 0, .int 0, .int 0]))] (fun w1 => ∃ b : Nat → Nat, b 0 = o ∧ w1 = wTe G.2.1 b C0) := by
  refine CN.of g (by decide) rfl (Nat.le_of_ble_eq_true rfl) ?_
  intro p l e s m below meth c A ls hin F hr hlocks w hl
  generalize ([.ref o] : List Value).toArray = args
  have hin : meth.name = "<init>" := hin
  have hl : lv_has ls 1 [(0, .ref o)] := hl
  have w : Wd G A s.heap (fl [[(o, .inr (5, [.null, .null, .int 0, .int 0, .int 0, .int 0, .int 0]))]]) _ _ := w
  refine lv_aload_n F.x F.b dX1_init_0 rfl (lv_at hl 0 rfl) ?_
  refine roI F q199 (List.mem_of_getElem? (i := 51) (by decide +kernel)) (List.mem_of_getElem? (i := 52) (by decide +kernel)) (by decide +kernel) hl.1 ⟨Nat.le_of_ble_eq_true rfl, Nat.le_of_ble_eq_true rfl⟩ dX1_init_1 ?_
  refine lv_aload_n F.x F.b dX1_init_4 rfl (lv_at hl 0 rfl) ?_
  refine lv_bipush (v := 60) F.x F.b dX1_init_5 (by decide) ?_
  refine rnA F w (atype := .char) (ty := .char) 1 rfl (List.mem_of_getElem? (i := 108) (by decide +kernel)) (by decide +kernel) rfl (60, .inl (fun _ => 0)) (fun _ => rfl) (by decide) (N' := 60) (by decide) (Nat.le_of_ble_eq_true rfl) (Nat.le_of_ble_eq_true rfl) (Nat.le_of_ble_eq_true rfl) dX1_init_7 (fun z1 H w => ?_)
  have w : Wd G A s.heap (fl [[(o, .inr (5, [.null, .null, .int 0, .int 0, .int 0, .int 0, .int 0]))], [(z1, .inl (G.2.1 1, 60, .inl (fun _ => 0)))]]) _ _ := w
  refine rpF F w (ws' := fl [[(o, .inr (5, [.ref z1, .null, .int 0, .int 0, .int 0, .int 0, .int 0]))], [(z1, .inl (G.2.1 1, 60, .inl (fun _ => 0)))]]) cl1 0 rfl 0 (by decide) q200 rfl rfl hin rfl rfl rfl (Nat.le_of_ble_eq_true rfl) rfl dX1_init_9 (fun H locs w => ?_)
  refine lv_aload_n F.x F.b dX1_init_12 rfl (lv_at hl 0 rfl) ?_
  refine lv_iconst (v := 3) F.x F.b dX1_init_13 (by decide) ?_
  refine rnA F w (atype := .int) (ty := .int) 0 rfl (List.mem_of_getElem? (i := 107) (by decide +kernel)) (by decide +kernel) rfl (3, .inl (fun _ => 0)) (fun _ => rfl) (by decide) (N' := 3) (by decide) (Nat.le_of_ble_eq_true rfl) (Nat.le_of_ble_eq_true rfl) (Nat.le_of_ble_eq_true rfl) dX1_init_14 (fun z2 H w => ?_)
  have w : Wd G A s.heap (fl [[(o, .inr (5, [.ref z1, .null, .int 0, .int 0, .int 0, .int 0, .int 0]))], [(z1, .inl (G.2.1 1, 60, .inl (fun _ => 0)))], [(z2, .inl (G.2.1 0, 3, .inl (fun _ => 0)))]]) _ _ := w
  refine rpF F w (ws' := fl [[(o, .inr (5, [.ref z1, .ref z2, .int 0, .int 0, .int 0, .int 0, .int 0]))], [(z1, .inl (G.2.1 1, 60, .inl (fun _ => 0)))], [(z2, .inl (G.2.1 0, 3, .inl (fun _ => 0)))]]) cl1 0 rfl 1 (by decide) q201 rfl rfl hin rfl rfl rfl (Nat.le_of_ble_eq_true rfl) rfl dX1_init_16 (fun H locs w => ?_)
  refine lv_aload_n F.x F.b dX1_init_19 rfl (lv_at hl 0 rfl) ?_
  refine lv_iconst (v := 0) F.x F.b dX1_init_20 (by decide) ?_
  refine rp F w (ws' := fl [[(o, .inr (5, [.ref z1, .ref z2, .int 0, .int 0, .int 0, .int 0, .int 0]))], [(z1, .inl (G.2.1 1, 60, .inl (fun _ => 0)))], [(z2, .inl (G.2.1 0, 3, .inl (fun _ => 0)))]]) cl1 0 rfl 2 (by decide) q203 rfl rfl rfl rfl (Nat.le_of_ble_eq_true rfl) rfl dX1_init_21 (fun H locs w => ?_)
  refine lv_aload_n F.x F.b dX1_init_24 rfl (lv_at hl 0 rfl) ?_
  refine lv_iconst (v := 0) F.x F.b dX1_init_25 (by decide) ?_
  refine rp F w (ws' := fl [[(o, .inr (5, [.ref z1, .ref z2, .int 0, .int 0, .int 0, .int 0, .int 0]))], [(z1, .inl (G.2.1 1, 60, .inl (fun _ => 0)))], [(z2, .inl (G.2.1 0, 3, .inl (fun _ => 0)))]]) cl1 0 rfl 3 (by decide) q205 rfl rfl rfl rfl (Nat.le_of_ble_eq_true rfl) rfl dX1_init_26 (fun H locs w => ?_)
  refine lv_aload_n F.x F.b dX1_init_29 rfl (lv_at hl 0 rfl) ?_
  refine lv_bipush (v := 10) F.x F.b dX1_init_30 (by decide) ?_
  refine rp F w (ws' := fl [[(o, .inr (5, [.ref z1, .ref z2, .int 0, .int 0, .int 10, .int 0, .int 0]))], [(z1, .inl (G.2.1 1, 60, .inl (fun _ => 0)))], [(z2, .inl (G.2.1 0, 3, .inl (fun _ => 0)))]]) cl1 0 rfl 4 (by decide) q207 rfl rfl rfl rfl (Nat.le_of_ble_eq_true rfl) rfl dX1_init_32 (fun H locs w => ?_)
  refine lv_aload_n F.x F.b dX1_init_35 rfl (lv_at hl 0 rfl) ?_
  refine lv_bipush (v := 97) F.x F.b dX1_init_36 (by decide) ?_
  refine rp F w (ws' := fl [[(o, .inr (5, [.ref z1, .ref z2, .int 0, .int 0, .int 10, .int 97, .int 0]))], [(z1, .inl (G.2.1 1, 60, .inl (fun _ => 0)))], [(z2, .inl (G.2.1 0, 3, .inl (fun _ => 0)))]]) cl1 0 rfl 5 (by decide) q209 rfl rfl rfl rfl (Nat.le_of_ble_eq_true rfl) rfl dX1_init_38 (fun H locs w => ?_)
  refine lv_aload_n F.x F.b dX1_init_41 rfl (lv_at hl 0 rfl) ?_
  refine lv_iconst (v := 0) F.x F.b dX1_init_42 (by decide) ?_
  refine rp F w (ws' := fl [[(o, .inr (5, [.ref z1, .ref z2, .int 0, .int 0, .int 10, .int 97, .int 0]))], [(z1, .inl (G.2.1 1, 60, .inl (fun _ => 0)))], [(z2, .inl (G.2.1 0, 3, .inl (fun _ => 0)))]]) cl1 0 rfl 6 (by decide) q211 rfl rfl rfl rfl (Nat.le_of_ble_eq_true rfl) rfl dX1_init_43 (fun H locs w => ?_)
  exact evN F w hr hlocks ⟨fun k => [o, z1, z2].getD k 0, rfl, rfl⟩ (Nat.le_of_ble_eq_true rfl) (Nat.le_of_ble_eq_true rfl) dX1_init_46

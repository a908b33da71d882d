/-! printed by wip/p61/tools/gen99m.py: cell, pick -/
theorem q356 : Cond.methodLink RL 8 yL_cell ∈ lw_tbl := List.mem_of_getElem? (i := 356) (by decide +kernel)
theorem m_L_cell : YM yL_cell cL_cell 2 (some (.int)) 2 := ⟨⟨List.mem_of_getElem? (i := 358) (by decide +kernel), by decide +kernel⟩, List.mem_of_getElem? (i := 14) (by decide +kernel), ⟨by decide, by decide⟩, by decide +kernel⟩
theorem v_L_cell : YS yL_cell := (List.mem_of_getElem? (i := 357) (by decide +kernel))
theorem i32_nat (x : Int32) : ∃ n : Nat, n < 2 ^ 32 ∧ x = nI n := by
  refine ⟨x.toBitVec.toNat, x.toBitVec.isLt, ?_⟩
  unfold nI
  refine Int32.toBitVec_inj.mp ?_
  simp
theorem pick_val (x : Int32) {n : Nat} (h0 : 0 < n) (hn : n < 2 ^ 31) : ∃ m, m < n ∧ (x.toUInt32 >>> ((1 : Int32).toUInt32 &&& Int32.toUInt32 31)).toInt32 - (x.toUInt32 >>> ((1 : Int32).toUInt32 &&& Int32.toUInt32 31)).toInt32 / nI n * nI n = nI m := by
  obtain ⟨k, hk, rfl⟩ := i32_nat x
  rw [pk_ushrN hk 1 1 (by decide), pk_rem (by omega) h0 hn]
  exact ⟨_, Nat.mod_lt _ h0, rfl⟩
theorem rDc {p : Program} {l : Launch} {e : Env} {R : Room} {s : State} {m : MethodId} {args : Array Value} {below : List Frame} {meth : Method} {c : Code} {H : Heap} {locs : List Loc} {cells slots : Nat} {Q : State → Prop} {cc : ByteArray} {pc : Nat} {ls : Array Slot} {rest : List Value} (hexec : p.tables.exec = Jvm.exec) (hb : c.code = cc) {x y : UInt64} (hxy : x = y) (hn : FP.Core.dIsNaN x = false) {op : CmpOp} (hdg : decode cc pc = .ok (.dcmp op, 1))
    (k : W p l e R s m args below meth c H locs cells slots Q (F0 m (pc + 1) ls (.int 0 :: rest))) : W p l e R s m args below meth c H locs cells slots Q (F0 m pc ls (.double y :: .double x :: rest)) := by
  subst hxy
  refine lv_dcmp hexec hb hdg ?_
  rw [show FP.dcmp x x = some .eq from FP.Core.dcmp_self ((FP.Core.notNaN_iff x).mp hn)]
  exact k
theorem rFc {p : Program} {l : Launch} {e : Env} {R : Room} {s : State} {m : MethodId} {args : Array Value} {below : List Frame} {meth : Method} {c : Code} {H : Heap} {locs : List Loc} {cells slots : Nat} {Q : State → Prop} {cc : ByteArray} {pc : Nat} {ls : Array Slot} {rest : List Value} (hexec : p.tables.exec = Jvm.exec) (hb : c.code = cc) {x y : UInt32} (hxy : x = y) (hn : FP.Core.fIsNaN x = false) {op : CmpOp} (hdg : decode cc pc = .ok (.fcmp op, 1))
    (k : W p l e R s m args below meth c H locs cells slots Q (F0 m (pc + 1) ls (.int 0 :: rest))) : W p l e R s m args below meth c H locs cells slots Q (F0 m pc ls (.float y :: .float x :: rest)) := by
  subst hxy
  refine lv_fcmp hexec hb hdg ?_
  rw [show FP.fcmp x x = some .eq from FP.Core.fcmp_self ((FP.Core.notNaN_iff32 x).mp hn)]
  exact k
set_option maxRecDepth 100000 in
set_option maxHeartbeats 4000000 in
theorem w_cell {G : cG} (g : GOK G) {b L : Nat} {xs : Nat → Int32} {k : Nat} (hXS : XS G b L xs) (hk : k < 2 ^ 30) : CX G yL_cell cL_cell 2 .int 0 0 0 0 [.ref b, .int (nI k)] (fl []) (fun _ w1 => w1 = fl []) NX := by
  refine CX.of g (by decide) rfl (Nat.le_of_ble_eq_true rfl) ?_
  intro p l e s m below meth cm A ls hst htab F hr hlocks w hl
  generalize ([.ref b, .int (nI k)] : List Value).toArray = args
  have hl : lv_has ls 2 [(0, .ref b), (1, .int (nI k))] := hl
  have w : Wd G A s.heap (fl []) _ _ := w
  have hL := (F.xs hXS).2.2.2
  refine lv_iload_n F.x F.b dL_cell_0 rfl (lv_at hl 1 rfl) ?_
  refine lv_aload_n F.x F.b dL_cell_1 rfl (lv_at hl 0 rfl) ?_
  refine rXl F w hXS dL_cell_2 ?_
  by_cases hkL : k < L
  · refine lv_icmp_ge (tgt := 12) F.x F.b dL_cell_3 (by decide) (fun c9 => absurd c9 (nI_ge (a := k) (b := L) hkL (by omega))) (fun _ => ?_)
    refine lv_aload_n F.x F.b dL_cell_6 rfl (lv_at hl 0 rfl) ?_
    refine lv_iload_n F.x F.b dL_cell_7 rfl (lv_at hl 1 rfl) ?_
    refine rX F w hXS hkL dL_cell_8 ?_
    refine lv_goto (tgt := 16) F.x F.b dL_cell_9 (by decide) ?_
    exact eiX F w hr hlocks rfl rfl (Nat.le_of_ble_eq_true rfl) (Nat.le_of_ble_eq_true rfl) dL_cell_16
  · refine lv_icmp_ge (tgt := 12) F.x F.b dL_cell_3 (by decide) (fun _ => ?_) (fun c9 => absurd (nI_le (a := L) (b := k) (by omega) (by omega)) c9)
    refine lv_ldc F.x F.b (v := 40503) F.o (F.t _ (List.mem_of_getElem? (i := 359) (by decide +kernel)) rfl _) dL_cell_12 ?_
    refine lv_iload_n F.x F.b dL_cell_14 rfl (lv_at hl 1 rfl) ?_
    refine lv_imul F.x F.b dL_cell_15 ?_
    exact eiX F w hr hlocks rfl rfl (Nat.le_of_ble_eq_true rfl) (Nat.le_of_ble_eq_true rfl) dL_cell_16
set_option maxRecDepth 100000 in
set_option maxHeartbeats 4000000 in
theorem w_pick {G : cG} (g : GOK G) {b L : Nat} {xs : Nat → Int32} {k n : Nat} (hXS : XS G b L xs) (hk : k < 2 ^ 30) (h0 : 0 < n) (hn : n < 2 ^ 31) : CX G yL_pick cL_pick 3 .int 1 21 0 0 [.ref b, .int (nI k), .int (nI n)] (fl []) (fun r9 w1 => (∃ m, m < n ∧ r9 = nI m) ∧ w1 = fl []) NX := by
  refine CX.of g (by decide) rfl (Nat.le_of_ble_eq_true rfl) ?_
  intro p l e s m below meth cm A ls hst htab F hr hlocks w hl
  generalize ([.ref b, .int (nI k), .int (nI n)] : List Value).toArray = args
  have hl : lv_has ls 3 [(0, .ref b), (1, .int (nI k)), (2, .int (nI n))] := hl
  have w : Wd G A s.heap (fl []) _ _ := w
  refine lv_aload_n F.x F.b dL_pick_0 rfl (lv_at hl 0 rfl) ?_
  refine lv_iload_n F.x F.b dL_pick_1 rfl (lv_at hl 1 rfl) ?_
  refine kBi F w hst (LC := []) (LR := []) (As := [.ref b, .int (nI k)]) (rest := []) (w_cell F.1 hXS hk) m_L_cell v_L_cell q356 0 [] rfl rfl rfl ⟨Nat.le_of_ble_eq_true rfl, Nat.le_of_ble_eq_true rfl⟩ rfl hl.1 rfl (Nat.le_of_ble_eq_true rfl) dL_pick_2 ⟨Nat.le_of_ble_eq_true rfl, Nat.le_of_ble_eq_true rfl⟩ (fun r9 w1 H locs h9 w => ?_)
  obtain rfl := h9
  have w : Wd G A s.heap (fl []) _ _ := w
  refine lv_iconst (v := 1) F.x F.b dL_pick_5 (by decide) ?_
  refine lv_iushr (v := (r9.toUInt32 >>> ((1 : Int32).toUInt32 &&& Int32.toUInt32 31)).toInt32) F.x F.b dL_pick_6 rfl ?_
  refine lv_iload_n F.x F.b dL_pick_7 rfl (lv_at hl 2 rfl) ?_
  refine lv_irem F.x F.b dL_pick_8 (fun z => absurd ((nI_eq (a := n) (b := 0) (by omega) (by omega)).mp z) (by omega)) ?_
  exact eiX F w hr hlocks rfl ⟨pick_val r9 h0 hn, rfl⟩ (Nat.le_of_ble_eq_true rfl) (Nat.le_of_ble_eq_true rfl) dL_pick_9

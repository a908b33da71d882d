/-! printed by wip/p61/tools/gen99l.py: the sum -/
theorem q291 : Cond.methodLink "CustomsShedLaw" 192 yX6_lotCount ∈ lw_tbl := List.mem_of_getElem? (i := 291) (by decide +kernel)
theorem q303 : Cond.methodLink "CustomsShedLaw" 201 yX6_destroyedCount ∈ lw_tbl := List.mem_of_getElem? (i := 303) (by decide +kernel)
theorem q307 : Cond.methodLink "CustomsShedLaw" 209 yX6_queueLength ∈ lw_tbl := List.mem_of_getElem? (i := 307) (by decide +kernel)
theorem q311 : Cond.methodLink "CustomsShedLaw" 204 yX6_bond ∈ lw_tbl := List.mem_of_getElem? (i := 311) (by decide +kernel)
theorem q315 : Cond.methodLink "CustomsShedLaw" 226 yX6_collected ∈ lw_tbl := List.mem_of_getElem? (i := 315) (by decide +kernel)
theorem q1172 : Cond.methodLink "CustomsShedLaw" 293 yX6_day ∈ lw_tbl := List.mem_of_getElem? (i := 1172) (by decide +kernel)
theorem q1268 : Cond.methodLink "CustomsShedLaw" 298 yX6_stepCount ∈ lw_tbl := List.mem_of_getElem? (i := 1268) (by decide +kernel)
theorem m_X6_stepCount : YM yX6_stepCount cX6_stepCount 1 (some (.int)) 0 := ⟨⟨List.mem_of_getElem? (i := 1271) (by decide +kernel), by decide +kernel⟩, List.mem_of_getElem? (i := 15) (by decide +kernel), ⟨by decide, by decide⟩, by decide +kernel⟩
theorem v_X6_stepCount : YV yX6_stepCount := ⟨(List.mem_of_getElem? (i := 1269) (by decide +kernel)), List.mem_of_getElem? (i := 1270) (by decide +kernel)⟩
theorem m_X6_queueLength : YM yX6_queueLength cX6_queueLength 1 (some (.int)) 0 := ⟨⟨List.mem_of_getElem? (i := 310) (by decide +kernel), by decide +kernel⟩, List.mem_of_getElem? (i := 15) (by decide +kernel), ⟨by decide, by decide⟩, by decide +kernel⟩
theorem v_X6_queueLength : YV yX6_queueLength := ⟨(List.mem_of_getElem? (i := 308) (by decide +kernel)), List.mem_of_getElem? (i := 309) (by decide +kernel)⟩
theorem m_X6_lotCount : YM yX6_lotCount cX6_lotCount 1 (some (.int)) 0 := ⟨⟨List.mem_of_getElem? (i := 294) (by decide +kernel), by decide +kernel⟩, List.mem_of_getElem? (i := 15) (by decide +kernel), ⟨by decide, by decide⟩, by decide +kernel⟩
theorem v_X6_lotCount : YV yX6_lotCount := ⟨(List.mem_of_getElem? (i := 292) (by decide +kernel)), List.mem_of_getElem? (i := 293) (by decide +kernel)⟩
theorem m_X6_bond : YM yX6_bond cX6_bond 1 (some (.int)) 0 := ⟨⟨List.mem_of_getElem? (i := 314) (by decide +kernel), by decide +kernel⟩, List.mem_of_getElem? (i := 15) (by decide +kernel), ⟨by decide, by decide⟩, by decide +kernel⟩
theorem v_X6_bond : YV yX6_bond := ⟨(List.mem_of_getElem? (i := 312) (by decide +kernel)), List.mem_of_getElem? (i := 313) (by decide +kernel)⟩
theorem m_X6_collected : YM yX6_collected cX6_collected 1 (some (.int)) 0 := ⟨⟨List.mem_of_getElem? (i := 318) (by decide +kernel), by decide +kernel⟩, List.mem_of_getElem? (i := 15) (by decide +kernel), ⟨by decide, by decide⟩, by decide +kernel⟩
theorem v_X6_collected : YV yX6_collected := ⟨(List.mem_of_getElem? (i := 316) (by decide +kernel)), List.mem_of_getElem? (i := 317) (by decide +kernel)⟩
theorem m_X6_day : YM yX6_day cX6_day 1 (some (.int)) 0 := ⟨⟨List.mem_of_getElem? (i := 1175) (by decide +kernel), by decide +kernel⟩, List.mem_of_getElem? (i := 15) (by decide +kernel), ⟨by decide, by decide⟩, by decide +kernel⟩
theorem v_X6_day : YV yX6_day := ⟨(List.mem_of_getElem? (i := 1173) (by decide +kernel)), List.mem_of_getElem? (i := 1174) (by decide +kernel)⟩
theorem m_X6_destroyedCount : YM yX6_destroyedCount cX6_destroyedCount 1 (some (.int)) 0 := ⟨⟨List.mem_of_getElem? (i := 306) (by decide +kernel), by decide +kernel⟩, List.mem_of_getElem? (i := 15) (by decide +kernel), ⟨by decide, by decide⟩, by decide +kernel⟩
theorem v_X6_destroyedCount : YV yX6_destroyedCount := ⟨(List.mem_of_getElem? (i := 304) (by decide +kernel)), List.mem_of_getElem? (i := 305) (by decide +kernel)⟩
set_option maxRecDepth 100000 in
set_option maxHeartbeats 4000000 in
theorem w_sum {G : cG} (g : GOK G) {ks kv : Nat → Nat} (hSG : SG G ks kv) (pv : PV G) {d1 d2 : Nat} (hD : DGs G d1 d2) {ad : Nat → Nat → Nat} {svx : Value} {K S : Mem} {N c t q : Nat} {ou : oB} {L0 : List Nat} (h : Gd N S c t q) (hT : Tx ou L0) : CXl G yL_sum cL_sum 7 8 193 0 0 [.ref ((ad 0) 0)] (fl [wXo G.2.1 (ad 0) (xF ad) svx K, wSh G.2.1 (ad 1) S, wSb G.2.1 (ad 5) ou]) (fun r9 w1 => r9 = sumF S c t q ∧ ∃ (ou9 : oB) (L9 : List Nat), Tx ou9 L9 ∧ w1 = fl [wXo G.2.1 (ad 0) (xF ad) svx K, wSh G.2.1 (ad 1) S, wSb G.2.1 (ad 5) ou9]) NX := by
  refine CXl.of g (by decide) rfl (Nat.le_of_ble_eq_true rfl) ?_
  intro p l e s m below meth cm A ls hst htab F hr hlocks w hl
  generalize ([.ref ((ad 0) 0)] : List Value).toArray = args
  have hl : lv_has ls 7 [(0, .ref ((ad 0) 0))] := hl
  have w : Wd G A s.heap (fl [wXo G.2.1 (ad 0) (xF ad) svx K, wSh G.2.1 (ad 1) S, wSb G.2.1 (ad 5) ou]) _ _ := w
  have hc16 := h.c16
  have ht6 := h.t6
  have hq16 := h.q16
  have L4 : ∀ (d k : Nat), k + d = t → ∀ (ou : oB) (L : List Nat) (H : Heap) (locs : List Loc) (ls : Array Slot), Tx ou L → Wd G A s.heap (fl [wXo G.2.1 (ad 0) (xF ad) svx K, wSh G.2.1 (ad 1) S, wSb G.2.1 (ad 5) ou]) H locs → lv_has ls 7 [(3, .int (nI k)), (1, .long (stpS S (queS S (lotS S q (numS S) c) q) k)), (0, .ref ((ad 0) 0))] → W p l e { frames := 8, cells := 0, slots := 0, locals := 193 } s m args below meth cm H locs 0 0 (XL G A (fun r9 w1 => r9 = sumF S c t q ∧ ∃ (ou9 : oB) (L9 : List Nat), Tx ou9 L9 ∧ w1 = fl [wXo G.2.1 (ad 0) (xF ad) svx K, wSh G.2.1 (ad 1) S, wSb G.2.1 (ad 5) ou9]) NX 0 0 below args s) (F0 m 140 ls []) := by
    intro d
    induction d with
    | zero =>
      intro k hk ou L H locs ls hT w hl
      refine lv_iload_n F.x F.b dL_sum_140 rfl (lv_at hl 0 rfl) ?_
      refine lv_aload_n F.x F.b dL_sum_141 rfl (lv_at hl 2 rfl) ?_
      refine kXi F w hst (LC := [wXo G.2.1 (ad 0) (xF ad) svx K, wSh G.2.1 (ad 1) S]) (LR := [wSb G.2.1 (ad 5) ou]) (As := []) (rest := [.int (nI k)]) ((t_X6_stepCount F.1 (x := ad 0) (a := ad 1) (rf := xF ad) (sv := svx) rfl (show f_X6_stepCount K S = some (S.1 2) from rfl)).toX : CX G yX6_stepCount cX6_stepCount 1 .int 0 0 0 0 [.ref ((ad 0) 0)] (fl [wXo G.2.1 (ad 0) (xF ad) svx K, wSh G.2.1 (ad 1) S]) _ _) m_X6_stepCount v_X6_stepCount q1268 (ci := 10) (q0 := 0) rfl rfl rfl 3 [0, 1, 2] rfl rfl rfl ⟨Nat.le_of_ble_eq_true rfl, Nat.le_of_ble_eq_true rfl⟩ rfl hl.1 rfl (Nat.le_of_ble_eq_true rfl) dL_sum_142 ⟨Nat.le_of_ble_eq_true rfl, Nat.le_of_ble_eq_true rfl⟩ (fun _ _ _ _ _ _ hx => False.elim hx) (fun r9 w1 H locs h9 w => ?_)
      obtain ⟨rfl, h9⟩ := h9
      have w := w.jn (L1 := [wXo G.2.1 (ad 0) (xF ad) svx K, wSh G.2.1 (ad 1) S]) (L' := [wXo G.2.1 (ad 0) (xF ad) svx K, wSh G.2.1 (ad 1) S, wSb G.2.1 (ad 5) ou]) h9 3 [0, 1, 2] rfl rfl rfl
      rw [show (S.1 2) = (nI t) from h.t1]
      refine lv_icmp_ge (tgt := 178) F.x F.b dL_sum_145 (by decide) (fun _ => ?_) (fun c9 => absurd (nI_le (a := t) (b := k) (by omega) (by omega)) c9)
      refine lv_lload_n F.x F.b dL_sum_178 rfl (lv_at hl 1 rfl) ?_
      exact elX F w hr hlocks ⟨by rw [show k = t by omega]; rfl, ou, L, hT, rfl⟩ (Nat.le_of_ble_eq_true rfl) (Nat.le_of_ble_eq_true rfl) dL_sum_179
    | succ d ih =>
      intro k hk ou L H locs ls hT w hl
      refine lv_iload_n F.x F.b dL_sum_140 rfl (lv_at hl 0 rfl) ?_
      refine lv_aload_n F.x F.b dL_sum_141 rfl (lv_at hl 2 rfl) ?_
      refine kXi F w hst (LC := [wXo G.2.1 (ad 0) (xF ad) svx K, wSh G.2.1 (ad 1) S]) (LR := [wSb G.2.1 (ad 5) ou]) (As := []) (rest := [.int (nI k)]) ((t_X6_stepCount F.1 (x := ad 0) (a := ad 1) (rf := xF ad) (sv := svx) rfl (show f_X6_stepCount K S = some (S.1 2) from rfl)).toX : CX G yX6_stepCount cX6_stepCount 1 .int 0 0 0 0 [.ref ((ad 0) 0)] (fl [wXo G.2.1 (ad 0) (xF ad) svx K, wSh G.2.1 (ad 1) S]) _ _) m_X6_stepCount v_X6_stepCount q1268 (ci := 10) (q0 := 0) rfl rfl rfl 3 [0, 1, 2] rfl rfl rfl ⟨Nat.le_of_ble_eq_true rfl, Nat.le_of_ble_eq_true rfl⟩ rfl hl.1 rfl (Nat.le_of_ble_eq_true rfl) dL_sum_142 ⟨Nat.le_of_ble_eq_true rfl, Nat.le_of_ble_eq_true rfl⟩ (fun _ _ _ _ _ _ hx => False.elim hx) (fun r9 w1 H locs h9 w => ?_)
      obtain ⟨rfl, h9⟩ := h9
      have w := w.jn (L1 := [wXo G.2.1 (ad 0) (xF ad) svx K, wSh G.2.1 (ad 1) S]) (L' := [wXo G.2.1 (ad 0) (xF ad) svx K, wSh G.2.1 (ad 1) S, wSb G.2.1 (ad 5) ou]) h9 3 [0, 1, 2] rfl rfl rfl
      rw [show (S.1 2) = (nI t) from h.t1]
      refine lv_icmp_ge (tgt := 178) F.x F.b dL_sum_145 (by decide) (fun c9 => absurd c9 (nI_ge (a := k) (b := t) (by omega) (by omega))) (fun _ => ?_)
      refine lv_ldc2 F.x F.b (v := 31) F.o (F.t _ (List.mem_of_getElem? (i := 1170) (by decide +kernel)) rfl _) dL_sum_148 ?_
      refine lv_lload_n F.x F.b dL_sum_151 rfl (lv_at hl 1 rfl) ?_
      refine lv_lmul F.x F.b dL_sum_152 ?_
      refine lv_ldc2 F.x F.b (v := 101) F.o (F.t _ (List.mem_of_getElem? (i := 1171) (by decide +kernel)) rfl _) dL_sum_153 ?_
      refine lv_aload_n F.x F.b dL_sum_156 rfl (lv_at hl 2 rfl) ?_
      refine lv_iload_n F.x F.b dL_sum_157 rfl (lv_at hl 0 rfl) ?_
      refine kLi F w hst (LC := [wXo G.2.1 (ad 0) (xF ad) svx K, wSh G.2.1 (ad 1) S]) (LR := [wSb G.2.1 (ad 5) ou]) (As := [.ref ((ad 0) 0), .int (nI k)]) (rest := [.long 101, .long (31 * (stpS S (queS S (lotS S q (numS S) c) q) k))]) (l_threshold_ok F.1 h.t1 (kk := k) (by omega) (by omega)) mh_threshold vh_threshold (List.mem_of_getElem? (i := 1272) (by decide +kernel)) 3 [0, 1, 2] rfl rfl rfl ⟨Nat.le_of_ble_eq_true rfl, Nat.le_of_ble_eq_true rfl⟩ rfl hl.1 rfl (Nat.le_of_ble_eq_true rfl) dL_sum_158 ⟨Nat.le_of_ble_eq_true rfl, Nat.le_of_ble_eq_true rfl⟩ (fun r9 w1 H locs h9 w => ?_)
      obtain ⟨rfl, h9⟩ := h9
      have w := w.jn (L1 := [wXo G.2.1 (ad 0) (xF ad) svx K, wSh G.2.1 (ad 1) S]) (L' := [wXo G.2.1 (ad 0) (xF ad) svx K, wSh G.2.1 (ad 1) S, wSb G.2.1 (ad 5) ou]) h9 3 [0, 1, 2] rfl rfl rfl
      refine lv_i2l (v := (Int32.toInt64 (S.2 7 k))) F.x F.b dL_sum_161 rfl ?_
      refine lv_lmul F.x F.b dL_sum_162 ?_
      refine lv_ladd F.x F.b dL_sum_163 ?_
      refine lv_aload_n F.x F.b dL_sum_164 rfl (lv_at hl 2 rfl) ?_
      refine lv_iload_n F.x F.b dL_sum_165 rfl (lv_at hl 0 rfl) ?_
      refine kLi F w hst (LC := [wXo G.2.1 (ad 0) (xF ad) svx K, wSh G.2.1 (ad 1) S]) (LR := [wSb G.2.1 (ad 5) ou]) (As := [.ref ((ad 0) 0), .int (nI k)]) (rest := [.long ((31 * (stpS S (queS S (lotS S q (numS S) c) q) k)) + (101 * (Int32.toInt64 (S.2 7 k))))]) (l_rate_ok F.1 h.t1 (kk := k) (by omega) (by omega)) mh_rate vh_rate (List.mem_of_getElem? (i := 1279) (by decide +kernel)) 3 [0, 1, 2] rfl rfl rfl ⟨Nat.le_of_ble_eq_true rfl, Nat.le_of_ble_eq_true rfl⟩ rfl hl.1 rfl (Nat.le_of_ble_eq_true rfl) dL_sum_166 ⟨Nat.le_of_ble_eq_true rfl, Nat.le_of_ble_eq_true rfl⟩ (fun r9 w1 H locs h9 w => ?_)
      obtain ⟨rfl, h9⟩ := h9
      have w := w.jn (L1 := [wXo G.2.1 (ad 0) (xF ad) svx K, wSh G.2.1 (ad 1) S]) (L' := [wXo G.2.1 (ad 0) (xF ad) svx K, wSh G.2.1 (ad 1) S, wSb G.2.1 (ad 5) ou]) h9 3 [0, 1, 2] rfl rfl rfl
      refine lv_i2l (v := (Int32.toInt64 (S.2 8 k))) F.x F.b dL_sum_169 rfl ?_
      refine lv_ladd F.x F.b dL_sum_170 ?_
      refine lv_lstore_n (lv' := [(1, .long (((31 * (stpS S (queS S (lotS S q (numS S) c) q) k)) + (101 * (Int32.toInt64 (S.2 7 k)))) + (Int32.toInt64 (S.2 8 k)))), (3, .int (nI k)), (0, .ref ((ad 0) 0))]) F.x F.b dL_sum_171 rfl hl (by decide) rfl (fun ls hl => ?_)
      refine lv_iinc (v := (nI (k + 1))) (lv' := [(3, .int (nI (k + 1))), (1, .long (((31 * (stpS S (queS S (lotS S q (numS S) c) q) k)) + (101 * (Int32.toInt64 (S.2 7 k)))) + (Int32.toInt64 (S.2 8 k)))), (0, .ref ((ad 0) 0))]) F.x F.b dL_sum_172 hl (k := 1) rfl (nI_1 k) (by decide) rfl (fun ls hl => ?_)
      refine lv_goto (tgt := 140) F.x F.b dL_sum_175 (by decide) ?_
      exact ih (k + 1) (by omega) ou L H locs ls hT w (lv_sub hl [0, 1, 2] rfl)
  have L3 : ∀ (d k : Nat), k + d = q → ∀ (ou : oB) (L : List Nat) (H : Heap) (locs : List Loc) (ls : Array Slot), Tx ou L → Wd G A s.heap (fl [wXo G.2.1 (ad 0) (xF ad) svx K, wSh G.2.1 (ad 1) S, wSb G.2.1 (ad 5) ou]) H locs → lv_has ls 7 [(3, .int (nI k)), (1, .long (queS S (lotS S q (numS S) c) k)), (0, .ref ((ad 0) 0))] → W p l e { frames := 8, cells := 0, slots := 0, locals := 193 } s m args below meth cm H locs 0 0 (XL G A (fun r9 w1 => r9 = sumF S c t q ∧ ∃ (ou9 : oB) (L9 : List Nat), Tx ou9 L9 ∧ w1 = fl [wXo G.2.1 (ad 0) (xF ad) svx K, wSh G.2.1 (ad 1) S, wSb G.2.1 (ad 5) ou9]) NX 0 0 below args s) (F0 m 111 ls []) := by
    intro d
    induction d with
    | zero =>
      intro k hk ou L H locs ls hT w hl
      refine lv_iload_n F.x F.b dL_sum_111 rfl (lv_at hl 0 rfl) ?_
      refine lv_aload_n F.x F.b dL_sum_112 rfl (lv_at hl 2 rfl) ?_
      refine kXi F w hst (LC := [wXo G.2.1 (ad 0) (xF ad) svx K, wSh G.2.1 (ad 1) S]) (LR := [wSb G.2.1 (ad 5) ou]) (As := []) (rest := [.int (nI k)]) ((t_X6_queueLength F.1 (x := ad 0) (a := ad 1) (rf := xF ad) (sv := svx) rfl (show f_X6_queueLength K S = some (S.1 7) from rfl)).toX : CX G yX6_queueLength cX6_queueLength 1 .int 0 0 0 0 [.ref ((ad 0) 0)] (fl [wXo G.2.1 (ad 0) (xF ad) svx K, wSh G.2.1 (ad 1) S]) _ _) m_X6_queueLength v_X6_queueLength q307 (ci := 10) (q0 := 0) rfl rfl rfl 3 [0, 1, 2] rfl rfl rfl ⟨Nat.le_of_ble_eq_true rfl, Nat.le_of_ble_eq_true rfl⟩ rfl hl.1 rfl (Nat.le_of_ble_eq_true rfl) dL_sum_113 ⟨Nat.le_of_ble_eq_true rfl, Nat.le_of_ble_eq_true rfl⟩ (fun _ _ _ _ _ _ hx => False.elim hx) (fun r9 w1 H locs h9 w => ?_)
      obtain ⟨rfl, h9⟩ := h9
      have w := w.jn (L1 := [wXo G.2.1 (ad 0) (xF ad) svx K, wSh G.2.1 (ad 1) S]) (L' := [wXo G.2.1 (ad 0) (xF ad) svx K, wSh G.2.1 (ad 1) S, wSb G.2.1 (ad 5) ou]) h9 3 [0, 1, 2] rfl rfl rfl
      rw [show (S.1 7) = (nI q) from h.q1]
      refine lv_icmp_ge (tgt := 138) F.x F.b dL_sum_116 (by decide) (fun _ => ?_) (fun c9 => absurd (nI_le (a := q) (b := k) (by omega) (by omega)) c9)
      refine lv_iconst (v := 0) F.x F.b dL_sum_138 (by decide) ?_
      refine lv_istore_n (lv' := [(3, .int 0), (1, .long (queS S (lotS S q (numS S) c) k)), (0, .ref ((ad 0) 0))]) F.x F.b dL_sum_139 rfl hl (by decide) rfl (fun ls hl => ?_)
      rw [show k = q by omega] at hl
      exact L4 t 0 (by omega) ou L H locs ls hT w (lv_sub hl [0, 1, 2] rfl)
    | succ d ih =>
      intro k hk ou L H locs ls hT w hl
      refine lv_iload_n F.x F.b dL_sum_111 rfl (lv_at hl 0 rfl) ?_
      refine lv_aload_n F.x F.b dL_sum_112 rfl (lv_at hl 2 rfl) ?_
      refine kXi F w hst (LC := [wXo G.2.1 (ad 0) (xF ad) svx K, wSh G.2.1 (ad 1) S]) (LR := [wSb G.2.1 (ad 5) ou]) (As := []) (rest := [.int (nI k)]) ((t_X6_queueLength F.1 (x := ad 0) (a := ad 1) (rf := xF ad) (sv := svx) rfl (show f_X6_queueLength K S = some (S.1 7) from rfl)).toX : CX G yX6_queueLength cX6_queueLength 1 .int 0 0 0 0 [.ref ((ad 0) 0)] (fl [wXo G.2.1 (ad 0) (xF ad) svx K, wSh G.2.1 (ad 1) S]) _ _) m_X6_queueLength v_X6_queueLength q307 (ci := 10) (q0 := 0) rfl rfl rfl 3 [0, 1, 2] rfl rfl rfl ⟨Nat.le_of_ble_eq_true rfl, Nat.le_of_ble_eq_true rfl⟩ rfl hl.1 rfl (Nat.le_of_ble_eq_true rfl) dL_sum_113 ⟨Nat.le_of_ble_eq_true rfl, Nat.le_of_ble_eq_true rfl⟩ (fun _ _ _ _ _ _ hx => False.elim hx) (fun r9 w1 H locs h9 w => ?_)
      obtain ⟨rfl, h9⟩ := h9
      have w := w.jn (L1 := [wXo G.2.1 (ad 0) (xF ad) svx K, wSh G.2.1 (ad 1) S]) (L' := [wXo G.2.1 (ad 0) (xF ad) svx K, wSh G.2.1 (ad 1) S, wSb G.2.1 (ad 5) ou]) h9 3 [0, 1, 2] rfl rfl rfl
      rw [show (S.1 7) = (nI q) from h.q1]
      refine lv_icmp_ge (tgt := 138) F.x F.b dL_sum_116 (by decide) (fun c9 => absurd c9 (nI_ge (a := k) (b := q) (by omega) (by omega))) (fun _ => ?_)
      refine lv_ldc2 F.x F.b (v := 31) F.o (F.t _ (List.mem_of_getElem? (i := 1170) (by decide +kernel)) rfl _) dL_sum_119 ?_
      refine lv_lload_n F.x F.b dL_sum_122 rfl (lv_at hl 1 rfl) ?_
      refine lv_lmul F.x F.b dL_sum_123 ?_
      refine lv_aload_n F.x F.b dL_sum_124 rfl (lv_at hl 2 rfl) ?_
      refine lv_iload_n F.x F.b dL_sum_125 rfl (lv_at hl 0 rfl) ?_
      refine kLi F w hst (LC := [wXo G.2.1 (ad 0) (xF ad) svx K, wSh G.2.1 (ad 1) S]) (LR := [wSb G.2.1 (ad 5) ou]) (As := [.ref ((ad 0) 0), .int (nI k)]) (rest := [.long (31 * (queS S (lotS S q (numS S) c) k))]) (l_queued_ok F.1 h.q1 (kk := k) (by omega) (by omega)) mh_queued vh_queued (List.mem_of_getElem? (i := 597) (by decide +kernel)) 3 [0, 1, 2] rfl rfl rfl ⟨Nat.le_of_ble_eq_true rfl, Nat.le_of_ble_eq_true rfl⟩ rfl hl.1 rfl (Nat.le_of_ble_eq_true rfl) dL_sum_126 ⟨Nat.le_of_ble_eq_true rfl, Nat.le_of_ble_eq_true rfl⟩ (fun r9 w1 H locs h9 w => ?_)
      obtain ⟨rfl, h9⟩ := h9
      have w := w.jn (L1 := [wXo G.2.1 (ad 0) (xF ad) svx K, wSh G.2.1 (ad 1) S]) (L' := [wXo G.2.1 (ad 0) (xF ad) svx K, wSh G.2.1 (ad 1) S, wSb G.2.1 (ad 5) ou]) h9 3 [0, 1, 2] rfl rfl rfl
      refine lv_i2l (v := (Int32.toInt64 (S.2 9 k))) F.x F.b dL_sum_129 rfl ?_
      refine lv_ladd F.x F.b dL_sum_130 ?_
      refine lv_lstore_n (lv' := [(1, .long ((31 * (queS S (lotS S q (numS S) c) k)) + (Int32.toInt64 (S.2 9 k)))), (3, .int (nI k)), (0, .ref ((ad 0) 0))]) F.x F.b dL_sum_131 rfl hl (by decide) rfl (fun ls hl => ?_)
      refine lv_iinc (v := (nI (k + 1))) (lv' := [(3, .int (nI (k + 1))), (1, .long ((31 * (queS S (lotS S q (numS S) c) k)) + (Int32.toInt64 (S.2 9 k)))), (0, .ref ((ad 0) 0))]) F.x F.b dL_sum_132 hl (k := 1) rfl (nI_1 k) (by decide) rfl (fun ls hl => ?_)
      refine lv_goto (tgt := 111) F.x F.b dL_sum_135 (by decide) ?_
      exact ih (k + 1) (by omega) ou L H locs ls hT w (lv_sub hl [0, 1, 2] rfl)
  have L2 : ∀ (i : Nat) (v : Int64) (ou : oB), Tx ou (lotT S q i) → (∀ (H : Heap) (locs : List Loc) (ls : Array Slot), Wd G A s.heap (fl [wXo G.2.1 (ad 0) (xF ad) svx K, wSh G.2.1 (ad 1) S, wSb G.2.1 (ad 5) ou]) H locs → lv_has ls 7 [(3, .int (nI i)), (1, .long (txS v (lotT S q i))), (0, .ref ((ad 0) 0))] → W p l e { frames := 8, cells := 0, slots := 0, locals := 193 } s m args below meth cm H locs 0 0 (XL G A (fun r9 w1 => r9 = sumF S c t q ∧ ∃ (ou9 : oB) (L9 : List Nat), Tx ou9 L9 ∧ w1 = fl [wXo G.2.1 (ad 0) (xF ad) svx K, wSh G.2.1 (ad 1) S, wSb G.2.1 (ad 5) ou9]) NX 0 0 below args s) (F0 m 103 ls [])) → ∀ (d k : Nat), k + d = (lotT S q i).length → ∀ (H : Heap) (locs : List Loc) (ls : Array Slot), Wd G A s.heap (fl [wXo G.2.1 (ad 0) (xF ad) svx K, wSh G.2.1 (ad 1) S, wSb G.2.1 (ad 5) ou]) H locs → lv_has ls 7 [(6, .int (nI k)), (5, .int (nI (lotT S q i).length)), (3, .int (nI i)), (1, .long (txS v ((lotT S q i).take k))), (0, .ref ((ad 0) 0))] → W p l e { frames := 8, cells := 0, slots := 0, locals := 193 } s m args below meth cm H locs 0 0 (XL G A (fun r9 w1 => r9 = sumF S c t q ∧ ∃ (ou9 : oB) (L9 : List Nat), Tx ou9 L9 ∧ w1 = fl [wXo G.2.1 (ad 0) (xF ad) svx K, wSh G.2.1 (ad 1) S, wSb G.2.1 (ad 5) ou9]) NX 0 0 below args s) (F0 m 76 ls []) := by
    intro i v ou hT hk2 d
    have hl12 := lotT_le (S := S) (q := q) i
    induction d with
    | zero =>
      intro k hk H locs ls w hl
      refine lv_iload F.x F.b dL_sum_76 (lv_at hl 0 rfl) ?_
      refine lv_iload F.x F.b dL_sum_78 (lv_at hl 1 rfl) ?_
      refine lv_icmp_ge (tgt := 103) F.x F.b dL_sum_80 (by decide) (fun _ => ?_) (fun c9 => absurd (nI_le (a := (lotT S q i).length) (b := k) (by omega) (by omega)) c9)
      rw [List.take_of_length_le (by omega)] at hl
      exact hk2 H locs ls w (lv_sub hl [2, 3, 4] rfl)
    | succ d ih =>
      intro k hk H locs ls w hl
      refine lv_iload F.x F.b dL_sum_76 (lv_at hl 0 rfl) ?_
      refine lv_iload F.x F.b dL_sum_78 (lv_at hl 1 rfl) ?_
      have hkL : k < (lotT S q i).length := by omega
      have hLi : (lotT S q i)[k]? = some (lotT S q i)[k] := List.getElem?_eq_getElem hkL
      obtain ⟨ch, hch⟩ : ∃ ch, ch = (lotT S q i)[k] := ⟨_, rfl⟩
      rw [← hch] at hLi
      refine lv_icmp_ge (tgt := 103) F.x F.b dL_sum_80 (by decide) (fun c9 => absurd c9 (nI_ge (a := k) (b := (lotT S q i).length) (by omega) (by omega))) (fun _ => ?_)
      refine lv_ldc2 F.x F.b (v := 31) F.o (F.t _ (List.mem_of_getElem? (i := 1170) (by decide +kernel)) rfl _) dL_sum_83 ?_
      refine lv_lload_n F.x F.b dL_sum_86 rfl (lv_at hl 3 rfl) ?_
      refine lv_lmul F.x F.b dL_sum_87 ?_
      refine lv_aload_n F.x F.b dL_sum_88 rfl (lv_at hl 4 rfl) ?_
      refine lv_iload F.x F.b dL_sum_89 (lv_at hl 0 rfl) ?_
      refine kLi F w hst (LC := [wXo G.2.1 (ad 0) (xF ad) svx K, wSb G.2.1 (ad 5) ou]) (LR := [wSh G.2.1 (ad 1) S]) (As := [.ref ((ad 0) 0), .int (nI k)]) (rest := [.long (31 * (txS v ((lotT S q i).take k)))]) (l_outputCharacter_ok F.1 hSG hT hLi) mh_outputCharacter vh_outputCharacter (List.mem_of_getElem? (i := 1251) (by decide +kernel)) 3 [0, 2, 1] rfl rfl rfl ⟨Nat.le_of_ble_eq_true rfl, Nat.le_of_ble_eq_true rfl⟩ rfl hl.1 rfl (Nat.le_of_ble_eq_true rfl) dL_sum_91 ⟨Nat.le_of_ble_eq_true rfl, Nat.le_of_ble_eq_true rfl⟩ (fun r9 w1 H locs h9 w => ?_)
      obtain ⟨rfl, h9⟩ := h9
      have w := w.jn (L1 := [wXo G.2.1 (ad 0) (xF ad) svx K, wSb G.2.1 (ad 5) ou]) (L' := [wXo G.2.1 (ad 0) (xF ad) svx K, wSh G.2.1 (ad 1) S, wSb G.2.1 (ad 5) ou]) h9 3 [0, 2, 1] rfl rfl rfl
      refine lv_i2l (v := (Int32.toInt64 (nI ch))) F.x F.b dL_sum_94 rfl ?_
      refine lv_ladd F.x F.b dL_sum_95 ?_
      refine lv_lstore_n (lv' := [(1, .long ((31 * (txS v ((lotT S q i).take k))) + (Int32.toInt64 (nI ch)))), (6, .int (nI k)), (5, .int (nI (lotT S q i).length)), (3, .int (nI i)), (0, .ref ((ad 0) 0))]) F.x F.b dL_sum_96 rfl hl (by decide) rfl (fun ls hl => ?_)
      rw [← txS_take _ _ hLi] at hl
      refine lv_iinc (v := (nI (k + 1))) (lv' := [(6, .int (nI (k + 1))), (1, .long (txS v ((lotT S q i).take (k + 1)))), (5, .int (nI (lotT S q i).length)), (3, .int (nI i)), (0, .ref ((ad 0) 0))]) F.x F.b dL_sum_97 hl (k := 1) rfl (nI_1 k) (by decide) rfl (fun ls hl => ?_)
      refine lv_goto (tgt := 76) F.x F.b dL_sum_100 (by decide) ?_
      exact ih (k + 1) (by omega) H locs ls w (lv_sub hl [0, 2, 3, 1, 4] rfl)
  have L1 : ∀ (d i : Nat), i + d = c → ∀ (ou : oB) (L : List Nat) (H : Heap) (locs : List Loc) (ls : Array Slot), Tx ou L → Wd G A s.heap (fl [wXo G.2.1 (ad 0) (xF ad) svx K, wSh G.2.1 (ad 1) S, wSb G.2.1 (ad 5) ou]) H locs → lv_has ls 7 [(3, .int (nI i)), (1, .long (lotS S q (numS S) i)), (0, .ref ((ad 0) 0))] → W p l e { frames := 8, cells := 0, slots := 0, locals := 193 } s m args below meth cm H locs 0 0 (XL G A (fun r9 w1 => r9 = sumF S c t q ∧ ∃ (ou9 : oB) (L9 : List Nat), Tx ou9 L9 ∧ w1 = fl [wXo G.2.1 (ad 0) (xF ad) svx K, wSh G.2.1 (ad 1) S, wSb G.2.1 (ad 5) ou9]) NX 0 0 below args s) (F0 m 40 ls []) := by
    intro d
    induction d with
    | zero =>
      intro i hi ou L H locs ls hT w hl
      refine lv_iload_n F.x F.b dL_sum_40 rfl (lv_at hl 0 rfl) ?_
      refine lv_aload_n F.x F.b dL_sum_41 rfl (lv_at hl 2 rfl) ?_
      refine kXi F w hst (LC := [wXo G.2.1 (ad 0) (xF ad) svx K, wSh G.2.1 (ad 1) S]) (LR := [wSb G.2.1 (ad 5) ou]) (As := []) (rest := [.int (nI i)]) ((t_X6_lotCount F.1 (x := ad 0) (a := ad 1) (rf := xF ad) (sv := svx) rfl (show f_X6_lotCount K S = some (S.1 0) from rfl)).toX : CX G yX6_lotCount cX6_lotCount 1 .int 0 0 0 0 [.ref ((ad 0) 0)] (fl [wXo G.2.1 (ad 0) (xF ad) svx K, wSh G.2.1 (ad 1) S]) _ _) m_X6_lotCount v_X6_lotCount q291 (ci := 10) (q0 := 0) rfl rfl rfl 3 [0, 1, 2] rfl rfl rfl ⟨Nat.le_of_ble_eq_true rfl, Nat.le_of_ble_eq_true rfl⟩ rfl hl.1 rfl (Nat.le_of_ble_eq_true rfl) dL_sum_42 ⟨Nat.le_of_ble_eq_true rfl, Nat.le_of_ble_eq_true rfl⟩ (fun _ _ _ _ _ _ hx => False.elim hx) (fun r9 w1 H locs h9 w => ?_)
      obtain ⟨rfl, h9⟩ := h9
      have w := w.jn (L1 := [wXo G.2.1 (ad 0) (xF ad) svx K, wSh G.2.1 (ad 1) S]) (L' := [wXo G.2.1 (ad 0) (xF ad) svx K, wSh G.2.1 (ad 1) S, wSb G.2.1 (ad 5) ou]) h9 3 [0, 1, 2] rfl rfl rfl
      rw [show (S.1 0) = (nI c) from h.c1]
      refine lv_icmp_ge (tgt := 109) F.x F.b dL_sum_45 (by decide) (fun _ => ?_) (fun c9 => absurd (nI_le (a := c) (b := i) (by omega) (by omega)) c9)
      refine lv_iconst (v := 0) F.x F.b dL_sum_109 (by decide) ?_
      refine lv_istore_n (lv' := [(3, .int 0), (1, .long (lotS S q (numS S) i)), (0, .ref ((ad 0) 0))]) F.x F.b dL_sum_110 rfl hl (by decide) rfl (fun ls hl => ?_)
      rw [show i = c by omega] at hl
      exact L3 q 0 (by omega) ou L H locs ls hT w (lv_sub hl [0, 1, 2] rfl)
    | succ d ih =>
      intro i hi ou L H locs ls hT w hl
      refine lv_iload_n F.x F.b dL_sum_40 rfl (lv_at hl 0 rfl) ?_
      refine lv_aload_n F.x F.b dL_sum_41 rfl (lv_at hl 2 rfl) ?_
      refine kXi F w hst (LC := [wXo G.2.1 (ad 0) (xF ad) svx K, wSh G.2.1 (ad 1) S]) (LR := [wSb G.2.1 (ad 5) ou]) (As := []) (rest := [.int (nI i)]) ((t_X6_lotCount F.1 (x := ad 0) (a := ad 1) (rf := xF ad) (sv := svx) rfl (show f_X6_lotCount K S = some (S.1 0) from rfl)).toX : CX G yX6_lotCount cX6_lotCount 1 .int 0 0 0 0 [.ref ((ad 0) 0)] (fl [wXo G.2.1 (ad 0) (xF ad) svx K, wSh G.2.1 (ad 1) S]) _ _) m_X6_lotCount v_X6_lotCount q291 (ci := 10) (q0 := 0) rfl rfl rfl 3 [0, 1, 2] rfl rfl rfl ⟨Nat.le_of_ble_eq_true rfl, Nat.le_of_ble_eq_true rfl⟩ rfl hl.1 rfl (Nat.le_of_ble_eq_true rfl) dL_sum_42 ⟨Nat.le_of_ble_eq_true rfl, Nat.le_of_ble_eq_true rfl⟩ (fun _ _ _ _ _ _ hx => False.elim hx) (fun r9 w1 H locs h9 w => ?_)
      obtain ⟨rfl, h9⟩ := h9
      have w := w.jn (L1 := [wXo G.2.1 (ad 0) (xF ad) svx K, wSh G.2.1 (ad 1) S]) (L' := [wXo G.2.1 (ad 0) (xF ad) svx K, wSh G.2.1 (ad 1) S, wSb G.2.1 (ad 5) ou]) h9 3 [0, 1, 2] rfl rfl rfl
      rw [show (S.1 0) = (nI c) from h.c1]
      refine lv_icmp_ge (tgt := 109) F.x F.b dL_sum_45 (by decide) (fun c9 => absurd c9 (nI_ge (a := i) (b := c) (by omega) (by omega))) (fun _ => ?_)
      refine lv_aload_n F.x F.b dL_sum_48 rfl (lv_at hl 2 rfl) ?_
      refine lv_iload_n F.x F.b dL_sum_49 rfl (lv_at hl 0 rfl) ?_
      refine kLi F w hst (LC := [wXo G.2.1 (ad 0) (xF ad) svx K, wSh G.2.1 (ad 1) S]) (LR := [wSb G.2.1 (ad 5) ou]) (As := [.ref ((ad 0) 0), .int (nI i)]) (rest := []) (l_lot_ok F.1 h.c1 (kk := i) (by omega) (by omega)) mh_lot vh_lot (List.mem_of_getElem? (i := 360) (by decide +kernel)) 3 [0, 1, 2] rfl rfl rfl ⟨Nat.le_of_ble_eq_true rfl, Nat.le_of_ble_eq_true rfl⟩ rfl hl.1 rfl (Nat.le_of_ble_eq_true rfl) dL_sum_50 ⟨Nat.le_of_ble_eq_true rfl, Nat.le_of_ble_eq_true rfl⟩ (fun r9 w1 H locs h9 w => ?_)
      obtain ⟨rfl, h9⟩ := h9
      have w := w.jn (L1 := [wXo G.2.1 (ad 0) (xF ad) svx K, wSh G.2.1 (ad 1) S]) (L' := [wXo G.2.1 (ad 0) (xF ad) svx K, wSh G.2.1 (ad 1) S, wSb G.2.1 (ad 5) ou]) h9 3 [0, 1, 2] rfl rfl rfl
      refine lv_istore (lv' := [(4, .int (S.2 0 i)), (3, .int (nI i)), (1, .long (lotS S q (numS S) i)), (0, .ref ((ad 0) 0))]) F.x F.b dL_sum_53 hl (by decide) rfl (fun ls hl => ?_)
      refine lv_ldc2 F.x F.b (v := 31) F.o (F.t _ (List.mem_of_getElem? (i := 1170) (by decide +kernel)) rfl _) dL_sum_55 ?_
      refine lv_lload_n F.x F.b dL_sum_58 rfl (lv_at hl 2 rfl) ?_
      refine lv_lmul F.x F.b dL_sum_59 ?_
      refine lv_iload F.x F.b dL_sum_60 (lv_at hl 0 rfl) ?_
      refine lv_i2l (v := (Int32.toInt64 (S.2 0 i))) F.x F.b dL_sum_62 rfl ?_
      refine lv_ladd F.x F.b dL_sum_63 ?_
      refine lv_lstore_n (lv' := [(1, .long ((31 * (lotS S q (numS S) i)) + (Int32.toInt64 (S.2 0 i)))), (4, .int (S.2 0 i)), (3, .int (nI i)), (0, .ref ((ad 0) 0))]) F.x F.b dL_sum_64 rfl hl (by decide) rfl (fun ls hl => ?_)
      refine lv_aload_n F.x F.b dL_sum_65 rfl (lv_at hl 3 rfl) ?_
      refine lv_iload F.x F.b dL_sum_66 (lv_at hl 1 rfl) ?_
      refine kLi F w hst (LC := [wXo G.2.1 (ad 0) (xF ad) svx K, wSh G.2.1 (ad 1) S, wSb G.2.1 (ad 5) ou]) (LR := []) (As := [.ref ((ad 0) 0), .int (S.2 0 i)]) (rest := []) (l_writeLot_ok F.1 hSG pv hD (h.lotP (p := i) (by omega)) hT) mh_writeLot vh_writeLot (List.mem_of_getElem? (i := 1176) (by decide +kernel)) 3 [0, 1, 2] rfl rfl rfl ⟨Nat.le_of_ble_eq_true rfl, Nat.le_of_ble_eq_true rfl⟩ rfl hl.1 rfl (Nat.le_of_ble_eq_true rfl) dL_sum_68 ⟨Nat.le_of_ble_eq_true rfl, Nat.le_of_ble_eq_true rfl⟩ (fun r9 w1 H locs h9 w => ?_)
      obtain ⟨ou9, rfl, hT9, h9⟩ := h9
      have w := w.jn (L1 := [wXo G.2.1 (ad 0) (xF ad) svx K, wSh G.2.1 (ad 1) S, wSb G.2.1 (ad 5) ou9]) (L' := [wXo G.2.1 (ad 0) (xF ad) svx K, wSh G.2.1 (ad 1) S, wSb G.2.1 (ad 5) ou9]) h9 3 [0, 1, 2] rfl rfl rfl
      have hT9 : Tx ou9 (lotT S q i) := hT9
      show W p l e _ s m args below meth cm H locs _ _ _ (F0 m 71 ls [.int (nI (lotT S q i).length)])
      refine lv_istore (lv' := [(5, .int (nI (lotT S q i).length)), (1, .long ((31 * (lotS S q (numS S) i)) + (Int32.toInt64 (S.2 0 i)))), (4, .int (S.2 0 i)), (3, .int (nI i)), (0, .ref ((ad 0) 0))]) F.x F.b dL_sum_71 hl (by decide) rfl (fun ls hl => ?_)
      refine lv_iconst (v := 0) F.x F.b dL_sum_73 (by decide) ?_
      refine lv_istore (lv' := [(6, .int 0), (5, .int (nI (lotT S q i).length)), (1, .long ((31 * (lotS S q (numS S) i)) + (Int32.toInt64 (S.2 0 i)))), (4, .int (S.2 0 i)), (3, .int (nI i)), (0, .ref ((ad 0) 0))]) F.x F.b dL_sum_74 hl (by decide) rfl (fun ls hl => ?_)
      refine L2 i _ ou9 hT9 (fun H locs ls w hl => ?_) (lotT S q i).length 0 (by omega) H locs ls w (lv_sub hl [0, 1, 4, 2, 5] rfl)
      refine lv_iinc (v := (nI (i + 1))) (lv' := [(3, .int (nI (i + 1))), (1, .long (lotS S q (numS S) (i + 1))), (0, .ref ((ad 0) 0))]) F.x F.b dL_sum_103 hl (k := 0) rfl (nI_1 i) (by decide) rfl (fun ls hl => ?_)
      refine lv_goto (tgt := 40) F.x F.b dL_sum_106 (by decide) ?_
      exact ih (i + 1) (by omega) ou9 _ H locs ls hT9 w (lv_sub hl [0, 1, 2] rfl)
  refine lv_ldc2 F.x F.b (v := 31) F.o (F.t _ (List.mem_of_getElem? (i := 1170) (by decide +kernel)) rfl _) dL_sum_0 ?_
  refine lv_aload_n F.x F.b dL_sum_3 rfl (lv_at hl 0 rfl) ?_
  refine kXi F w hst (LC := [wXo G.2.1 (ad 0) (xF ad) svx K, wSh G.2.1 (ad 1) S]) (LR := [wSb G.2.1 (ad 5) ou]) (As := []) (rest := [.long 31]) ((t_X6_bond F.1 (x := ad 0) (a := ad 1) (rf := xF ad) (sv := svx) rfl (show f_X6_bond K S = some (S.1 3) from rfl)).toX : CX G yX6_bond cX6_bond 1 .int 0 0 0 0 [.ref ((ad 0) 0)] (fl [wXo G.2.1 (ad 0) (xF ad) svx K, wSh G.2.1 (ad 1) S]) _ _) m_X6_bond v_X6_bond q311 (ci := 10) (q0 := 0) rfl rfl rfl 3 [0, 1, 2] rfl rfl rfl ⟨Nat.le_of_ble_eq_true rfl, Nat.le_of_ble_eq_true rfl⟩ rfl hl.1 rfl (Nat.le_of_ble_eq_true rfl) dL_sum_4 ⟨Nat.le_of_ble_eq_true rfl, Nat.le_of_ble_eq_true rfl⟩ (fun _ _ _ _ _ _ hx => False.elim hx) (fun r9 w1 H locs h9 w => ?_)
  obtain ⟨rfl, h9⟩ := h9
  have w := w.jn (L1 := [wXo G.2.1 (ad 0) (xF ad) svx K, wSh G.2.1 (ad 1) S]) (L' := [wXo G.2.1 (ad 0) (xF ad) svx K, wSh G.2.1 (ad 1) S, wSb G.2.1 (ad 5) ou]) h9 3 [0, 1, 2] rfl rfl rfl
  refine lv_i2l (v := (Int32.toInt64 (S.1 3))) F.x F.b dL_sum_7 rfl ?_
  refine lv_lmul F.x F.b dL_sum_8 ?_
  refine lv_aload_n F.x F.b dL_sum_9 rfl (lv_at hl 0 rfl) ?_
  refine kXi F w hst (LC := [wXo G.2.1 (ad 0) (xF ad) svx K, wSh G.2.1 (ad 1) S]) (LR := [wSb G.2.1 (ad 5) ou]) (As := []) (rest := [.long (31 * (Int32.toInt64 (S.1 3)))]) ((t_X6_collected F.1 (x := ad 0) (a := ad 1) (rf := xF ad) (sv := svx) rfl (show f_X6_collected K S = some (S.1 4) from rfl)).toX : CX G yX6_collected cX6_collected 1 .int 0 0 0 0 [.ref ((ad 0) 0)] (fl [wXo G.2.1 (ad 0) (xF ad) svx K, wSh G.2.1 (ad 1) S]) _ _) m_X6_collected v_X6_collected q315 (ci := 10) (q0 := 0) rfl rfl rfl 3 [0, 1, 2] rfl rfl rfl ⟨Nat.le_of_ble_eq_true rfl, Nat.le_of_ble_eq_true rfl⟩ rfl hl.1 rfl (Nat.le_of_ble_eq_true rfl) dL_sum_10 ⟨Nat.le_of_ble_eq_true rfl, Nat.le_of_ble_eq_true rfl⟩ (fun _ _ _ _ _ _ hx => False.elim hx) (fun r9 w1 H locs h9 w => ?_)
  obtain ⟨rfl, h9⟩ := h9
  have w := w.jn (L1 := [wXo G.2.1 (ad 0) (xF ad) svx K, wSh G.2.1 (ad 1) S]) (L' := [wXo G.2.1 (ad 0) (xF ad) svx K, wSh G.2.1 (ad 1) S, wSb G.2.1 (ad 5) ou]) h9 3 [0, 1, 2] rfl rfl rfl
  refine lv_i2l (v := (Int32.toInt64 (S.1 4))) F.x F.b dL_sum_13 rfl ?_
  refine lv_ladd F.x F.b dL_sum_14 ?_
  refine lv_lstore_n (lv' := [(1, .long ((31 * (Int32.toInt64 (S.1 3))) + (Int32.toInt64 (S.1 4)))), (0, .ref ((ad 0) 0))]) F.x F.b dL_sum_15 rfl hl (by decide) rfl (fun ls hl => ?_)
  refine lv_ldc2 F.x F.b (v := 31) F.o (F.t _ (List.mem_of_getElem? (i := 1170) (by decide +kernel)) rfl _) dL_sum_16 ?_
  refine lv_lload_n F.x F.b dL_sum_19 rfl (lv_at hl 0 rfl) ?_
  refine lv_lmul F.x F.b dL_sum_20 ?_
  refine lv_ldc2 F.x F.b (v := 101) F.o (F.t _ (List.mem_of_getElem? (i := 1171) (by decide +kernel)) rfl _) dL_sum_21 ?_
  refine lv_aload_n F.x F.b dL_sum_24 rfl (lv_at hl 1 rfl) ?_
  refine kXi F w hst (LC := [wXo G.2.1 (ad 0) (xF ad) svx K, wSh G.2.1 (ad 1) S]) (LR := [wSb G.2.1 (ad 5) ou]) (As := []) (rest := [.long 101, .long (31 * ((31 * (Int32.toInt64 (S.1 3))) + (Int32.toInt64 (S.1 4))))]) ((t_X6_day F.1 (x := ad 0) (a := ad 1) (rf := xF ad) (sv := svx) rfl (show f_X6_day K S = some (S.1 5) from rfl)).toX : CX G yX6_day cX6_day 1 .int 0 0 0 0 [.ref ((ad 0) 0)] (fl [wXo G.2.1 (ad 0) (xF ad) svx K, wSh G.2.1 (ad 1) S]) _ _) m_X6_day v_X6_day q1172 (ci := 10) (q0 := 0) rfl rfl rfl 3 [0, 1, 2] rfl rfl rfl ⟨Nat.le_of_ble_eq_true rfl, Nat.le_of_ble_eq_true rfl⟩ rfl hl.1 rfl (Nat.le_of_ble_eq_true rfl) dL_sum_25 ⟨Nat.le_of_ble_eq_true rfl, Nat.le_of_ble_eq_true rfl⟩ (fun _ _ _ _ _ _ hx => False.elim hx) (fun r9 w1 H locs h9 w => ?_)
  obtain ⟨rfl, h9⟩ := h9
  have w := w.jn (L1 := [wXo G.2.1 (ad 0) (xF ad) svx K, wSh G.2.1 (ad 1) S]) (L' := [wXo G.2.1 (ad 0) (xF ad) svx K, wSh G.2.1 (ad 1) S, wSb G.2.1 (ad 5) ou]) h9 3 [0, 1, 2] rfl rfl rfl
  refine lv_i2l (v := (Int32.toInt64 (S.1 5))) F.x F.b dL_sum_28 rfl ?_
  refine lv_lmul F.x F.b dL_sum_29 ?_
  refine lv_ladd F.x F.b dL_sum_30 ?_
  refine lv_aload_n F.x F.b dL_sum_31 rfl (lv_at hl 1 rfl) ?_
  refine kXi F w hst (LC := [wXo G.2.1 (ad 0) (xF ad) svx K, wSh G.2.1 (ad 1) S]) (LR := [wSb G.2.1 (ad 5) ou]) (As := []) (rest := [.long ((31 * ((31 * (Int32.toInt64 (S.1 3))) + (Int32.toInt64 (S.1 4)))) + (101 * (Int32.toInt64 (S.1 5))))]) ((t_X6_destroyedCount F.1 (x := ad 0) (a := ad 1) (rf := xF ad) (sv := svx) rfl (show f_X6_destroyedCount K S = some (S.1 6) from rfl)).toX : CX G yX6_destroyedCount cX6_destroyedCount 1 .int 0 0 0 0 [.ref ((ad 0) 0)] (fl [wXo G.2.1 (ad 0) (xF ad) svx K, wSh G.2.1 (ad 1) S]) _ _) m_X6_destroyedCount v_X6_destroyedCount q303 (ci := 10) (q0 := 0) rfl rfl rfl 3 [0, 1, 2] rfl rfl rfl ⟨Nat.le_of_ble_eq_true rfl, Nat.le_of_ble_eq_true rfl⟩ rfl hl.1 rfl (Nat.le_of_ble_eq_true rfl) dL_sum_32 ⟨Nat.le_of_ble_eq_true rfl, Nat.le_of_ble_eq_true rfl⟩ (fun _ _ _ _ _ _ hx => False.elim hx) (fun r9 w1 H locs h9 w => ?_)
  obtain ⟨rfl, h9⟩ := h9
  have w := w.jn (L1 := [wXo G.2.1 (ad 0) (xF ad) svx K, wSh G.2.1 (ad 1) S]) (L' := [wXo G.2.1 (ad 0) (xF ad) svx K, wSh G.2.1 (ad 1) S, wSb G.2.1 (ad 5) ou]) h9 3 [0, 1, 2] rfl rfl rfl
  refine lv_i2l (v := (Int32.toInt64 (S.1 6))) F.x F.b dL_sum_35 rfl ?_
  refine lv_ladd F.x F.b dL_sum_36 ?_
  refine lv_lstore_n (lv' := [(1, .long (((31 * ((31 * (Int32.toInt64 (S.1 3))) + (Int32.toInt64 (S.1 4)))) + (101 * (Int32.toInt64 (S.1 5)))) + (Int32.toInt64 (S.1 6)))), (0, .ref ((ad 0) 0))]) F.x F.b dL_sum_37 rfl hl (by decide) rfl (fun ls hl => ?_)
  refine lv_iconst (v := 0) F.x F.b dL_sum_38 (by decide) ?_
  refine lv_istore_n (lv' := [(3, .int 0), (1, .long (((31 * ((31 * (Int32.toInt64 (S.1 3))) + (Int32.toInt64 (S.1 4)))) + (101 * (Int32.toInt64 (S.1 5)))) + (Int32.toInt64 (S.1 6)))), (0, .ref ((ad 0) 0))]) F.x F.b dL_sum_39 rfl hl (by decide) rfl (fun ls hl => ?_)
  exact L1 c 0 (by omega) ou L0 H locs ls hT w (lv_sub hl [0, 1, 2] rfl)

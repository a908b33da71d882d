/-! printed by wip/p61/tools/gen88.py: the class' whole world; the small methods -/
abbrev oB : Type := Nat × Nat × Nat × Int32 × (Nat → Int32)
abbrev sV : Type := Option ((Nat → Nat) × Mem)
def svV (sv : sV) : Value := match sv with
  | none => .null
  | some q => .ref (q.1 0)
abbrev xF (ad : Nat → Nat → Nat) : Nat → Nat := fun k => ad (k + 1) 0
def wSb (T : Nat → ClassId) (o : Nat → Nat) (ou : oB) : va_W := [(o 0, .inr (1, [.ref ou.1, .int 0, .int ou.2.2.2.1, .int (nI ou.2.2.1)])), (ou.1, .inl (T 3, ou.2.1, .inl ou.2.2.2.2))]
/-- the class' cells, in blocks -/
def wTop (T : Nat → ClassId) (ad : Nat → Nat → Nat) (K S Fc C D B : Mem) (cu ct : Nat) (hs : hS) (sv : sV) (ou : oB) : List va_W := [wXo T (ad 0) (xF ad) (svV sv) K, wSh T (ad 1) S, wSh T (ad 2) Fc, wTe T (ad 4) C, wSb T (ad 5) ou, wAd T (ad 6) D, wAb T (ad 7) B, wHo T (ad 3) cu ct hs, hsL T hs, blk T sv]
def excL : List String := [eNSE, eIOB, eIAE, eISE, eUOE]
/-- the class' number of a refusal -/
def numE (E : String) : Int32 := if E = eNSE then -1 else if E = eIOB then -2 else if E = eIAE then -3 else if E = eISE then -4 else -5
theorem numE_neg {E : String} (h : E ∈ excL) : numE E < 0 := by
  unfold excL at h
  simp only [List.mem_cons, List.not_mem_nil, or_false] at h
  rcases h with rfl | rfl | rfl | rfl | rfl <;> decide +kernel
def QE (E : String) (w0 : va_W) : String → va_W → Prop := fun E' w1 => E' = E ∧ w1 = w0
theorem clB : CL 1 RJ4 TJ4 4 tyJ4 := ⟨rfl, by unfold FC; decide +kernel, tyJ4_ok, nmJ4⟩
theorem q262 : Cond.fieldLink RX6 22 "CustomsShed" "history" "LCustomsShed$History;" ∈ lw_tbl := List.mem_of_getElem? (i := 262) (by decide +kernel)
theorem q483 : Cond.methodLink RX6 346 yX3_slotWith ∈ lw_tbl := List.mem_of_getElem? (i := 483) (by decide +kernel)
theorem q642 : Cond.methodLink RX6 336 yX6_throwFor ∈ lw_tbl := List.mem_of_getElem? (i := 642) (by decide +kernel)
theorem q683 : Cond.methodLink RX6 318 yX2_keepPrepared ∈ lw_tbl := List.mem_of_getElem? (i := 683) (by decide +kernel)
theorem m_X2_keepPrepared : YM yX2_keepPrepared cX2_keepPrepared 1 (none) 0 := ⟨⟨List.mem_of_getElem? (i := 686) (by decide +kernel), by decide +kernel⟩, List.mem_of_getElem? (i := 20) (by decide +kernel), ⟨by decide, by decide⟩, by decide +kernel⟩
theorem v_X2_keepPrepared : YV yX2_keepPrepared := ⟨(List.mem_of_getElem? (i := 684) (by decide +kernel)), List.mem_of_getElem? (i := 685) (by decide +kernel)⟩
theorem m_X6_throwFor : YM yX6_throwFor cX6_throwFor 1 (none) 1 := ⟨⟨List.mem_of_getElem? (i := 644) (by decide +kernel), by decide +kernel⟩, List.mem_of_getElem? (i := 15) (by decide +kernel), ⟨by decide, by decide⟩, by decide +kernel⟩
theorem v_X6_throwFor : YS yX6_throwFor := (List.mem_of_getElem? (i := 643) (by decide +kernel))
set_option maxRecDepth 100000 in
set_option maxHeartbeats 4000000 in
theorem t_X6_throwFor {G : cG} (g : GOK G) (gM : MG G) {E : String} (hE : E ∈ excL) : CXv G yX6_throwFor cX6_throwFor 1 6 82 1 6 [.int (numE E)] (fl []) (fun _ => False) (QE E (fl [])) := by
  refine CXv.of g (by decide) rfl (Nat.le_of_ble_eq_true rfl) ?_
  intro p l e s m below meth c A ls hst htab F hr hlocks w hl
  generalize ([.int (numE E)] : List Value).toArray = args
  have hl : lv_has ls 1 [(0, .int (numE E))] := hl
  have w : Wd G A s.heap (fl []) _ _ := w
  unfold excL at hE
  simp only [List.mem_cons, List.not_mem_nil, or_false] at hE
  rcases hE with rfl | rfl | rfl | rfl | rfl
  · have hn : numE eNSE = (-1) := by decide +kernel
    rw [hn] at hl
    refine lv_iload_n F.x F.b dX6_throwFor_0 rfl (lv_at hl 0 rfl) ?_
    refine lv_tableIn (tgt := 32) F.x F.b dX6_throwFor_1 (by decide) (by decide) rfl (by decide) ?_
    exact wT0 F w gM hst htab hlocks h0_NSE (show QE eNSE (fl []) eNSE (fl []) from ⟨rfl, rfl⟩) hl.1 dX6_throwFor_32 dX6_throwFor_35 dX6_throwFor_36 dX6_throwFor_39 ⟨Nat.le_of_ble_eq_true rfl, Nat.le_of_ble_eq_true rfl, Nat.le_of_ble_eq_true rfl, Nat.le_of_ble_eq_true rfl⟩ ⟨Nat.le_of_ble_eq_true rfl, Nat.le_of_ble_eq_true rfl⟩
  · have hn : numE eIOB = (-2) := by decide +kernel
    rw [hn] at hl
    refine lv_iload_n F.x F.b dX6_throwFor_0 rfl (lv_at hl 0 rfl) ?_
    refine lv_tableIn (tgt := 40) F.x F.b dX6_throwFor_1 (by decide) (by decide) rfl (by decide) ?_
    exact wT0 F w gM hst htab hlocks h0_IOB (show QE eIOB (fl []) eIOB (fl []) from ⟨rfl, rfl⟩) hl.1 dX6_throwFor_40 dX6_throwFor_43 dX6_throwFor_44 dX6_throwFor_47 ⟨Nat.le_of_ble_eq_true rfl, Nat.le_of_ble_eq_true rfl, Nat.le_of_ble_eq_true rfl, Nat.le_of_ble_eq_true rfl⟩ ⟨Nat.le_of_ble_eq_true rfl, Nat.le_of_ble_eq_true rfl⟩
  · have hn : numE eIAE = (-3) := by decide +kernel
    rw [hn] at hl
    refine lv_iload_n F.x F.b dX6_throwFor_0 rfl (lv_at hl 0 rfl) ?_
    refine lv_tableIn (tgt := 48) F.x F.b dX6_throwFor_1 (by decide) (by decide) rfl (by decide) ?_
    exact wT0 F w gM hst htab hlocks h0_IAE (show QE eIAE (fl []) eIAE (fl []) from ⟨rfl, rfl⟩) hl.1 dX6_throwFor_48 dX6_throwFor_51 dX6_throwFor_52 dX6_throwFor_55 ⟨Nat.le_of_ble_eq_true rfl, Nat.le_of_ble_eq_true rfl, Nat.le_of_ble_eq_true rfl, Nat.le_of_ble_eq_true rfl⟩ ⟨Nat.le_of_ble_eq_true rfl, Nat.le_of_ble_eq_true rfl⟩
  · have hn : numE eISE = (-4) := by decide +kernel
    rw [hn] at hl
    refine lv_iload_n F.x F.b dX6_throwFor_0 rfl (lv_at hl 0 rfl) ?_
    refine lv_tableIn (tgt := 56) F.x F.b dX6_throwFor_1 (by decide) (by decide) rfl (by decide) ?_
    exact wT0 F w gM hst htab hlocks h0_ISE (show QE eISE (fl []) eISE (fl []) from ⟨rfl, rfl⟩) hl.1 dX6_throwFor_56 dX6_throwFor_59 dX6_throwFor_60 dX6_throwFor_63 ⟨Nat.le_of_ble_eq_true rfl, Nat.le_of_ble_eq_true rfl, Nat.le_of_ble_eq_true rfl, Nat.le_of_ble_eq_true rfl⟩ ⟨Nat.le_of_ble_eq_true rfl, Nat.le_of_ble_eq_true rfl⟩
  · have hn : numE eUOE = (-5) := by decide +kernel
    rw [hn] at hl
    refine lv_iload_n F.x F.b dX6_throwFor_0 rfl (lv_at hl 0 rfl) ?_
    refine lv_tableOut (tgt := 64) F.x F.b dX6_throwFor_1 (by decide) (by decide) ?_
    exact wT0 F w gM hst htab hlocks h0_UOE (show QE eUOE (fl []) eUOE (fl []) from ⟨rfl, rfl⟩) hl.1 dX6_throwFor_64 dX6_throwFor_67 dX6_throwFor_68 dX6_throwFor_71 ⟨Nat.le_of_ble_eq_true rfl, Nat.le_of_ble_eq_true rfl, Nat.le_of_ble_eq_true rfl, Nat.le_of_ble_eq_true rfl⟩ ⟨Nat.le_of_ble_eq_true rfl, Nat.le_of_ble_eq_true rfl⟩
set_option maxRecDepth 100000 in
set_option maxHeartbeats 4000000 in
theorem t_X6_checkIndex_ok {G : cG} (g : GOK G) {i n : Int32} (hi : ¬ (i < 0 ∨ n ≤ i)) : CXv G yX6_checkIndex cX6_checkIndex 2 0 0 0 0 [.int i, .int n] (fl []) (fun w1 => w1 = fl []) (fun _ _ => False) := by
  refine CXv.of g (by decide) rfl (Nat.le_of_ble_eq_true rfl) ?_
  intro p l e s m below meth c A ls hst htab F hr hlocks w hl
  generalize ([.int i, .int n] : List Value).toArray = args
  have hl : lv_has ls 2 [(0, .int i), (1, .int n)] := hl
  have w : Wd G A s.heap (fl []) _ _ := w
  refine lv_iload_n F.x F.b dX6_checkIndex_0 rfl (lv_at hl 0 rfl) ?_
  refine lv_if_lt (tgt := 9) F.x F.b dX6_checkIndex_1 (by decide) (fun c9 => absurd c9 (fun q => hi (Or.inl q))) (fun _ => ?_)
  refine lv_iload_n F.x F.b dX6_checkIndex_4 rfl (lv_at hl 0 rfl) ?_
  refine lv_iload_n F.x F.b dX6_checkIndex_5 rfl (lv_at hl 1 rfl) ?_
  refine lv_icmp_lt (tgt := 17) F.x F.b dX6_checkIndex_6 (by decide) (fun _ => ?_) (fun c9 => absurd (Int32.not_le.mp (fun q => hi (Or.inr q))) c9)
  exact evX F w hr hlocks rfl (Nat.le_of_ble_eq_true rfl) (Nat.le_of_ble_eq_true rfl) dX6_checkIndex_17
set_option maxRecDepth 100000 in
set_option maxHeartbeats 4000000 in
theorem t_X6_checkIndex_no {G : cG} (g : GOK G) {i n : Int32} (gM : MG G) (hi : i < 0 ∨ n ≤ i) : CXv G yX6_checkIndex cX6_checkIndex 2 6 83 1 6 [.int i, .int n] (fl []) (fun _ => False) (QE eIOB (fl [])) := by
  refine CXv.of g (by decide) rfl (Nat.le_of_ble_eq_true rfl) ?_
  intro p l e s m below meth c A ls hst htab F hr hlocks w hl
  generalize ([.int i, .int n] : List Value).toArray = args
  have hl : lv_has ls 2 [(0, .int i), (1, .int n)] := hl
  have w : Wd G A s.heap (fl []) _ _ := w
  by_cases h0 : i < 0
  · refine lv_iload_n F.x F.b dX6_checkIndex_0 rfl (lv_at hl 0 rfl) ?_
    refine lv_if_lt (tgt := 9) F.x F.b dX6_checkIndex_1 (by decide) (fun _ => ?_) (fun c9 => absurd h0 c9)
    exact wT0 F w gM hst htab hlocks h0_IOB (show QE eIOB (fl []) eIOB (fl []) from ⟨rfl, rfl⟩) hl.1 dX6_checkIndex_9 dX6_checkIndex_12 dX6_checkIndex_13 dX6_checkIndex_16 ⟨Nat.le_of_ble_eq_true rfl, Nat.le_of_ble_eq_true rfl, Nat.le_of_ble_eq_true rfl, Nat.le_of_ble_eq_true rfl⟩ ⟨Nat.le_of_ble_eq_true rfl, Nat.le_of_ble_eq_true rfl⟩
  · refine lv_iload_n F.x F.b dX6_checkIndex_0 rfl (lv_at hl 0 rfl) ?_
    refine lv_if_lt (tgt := 9) F.x F.b dX6_checkIndex_1 (by decide) (fun c9 => absurd c9 h0) (fun _ => ?_)
    refine lv_iload_n F.x F.b dX6_checkIndex_4 rfl (lv_at hl 0 rfl) ?_
    refine lv_iload_n F.x F.b dX6_checkIndex_5 rfl (lv_at hl 1 rfl) ?_
    refine lv_icmp_lt (tgt := 17) F.x F.b dX6_checkIndex_6 (by decide) (fun c9 => absurd c9 (Int32.not_lt.mpr (hi.resolve_left h0))) (fun _ => ?_)
    exact wT0 F w gM hst htab hlocks h0_IOB (show QE eIOB (fl []) eIOB (fl []) from ⟨rfl, rfl⟩) hl.1 dX6_checkIndex_9 dX6_checkIndex_12 dX6_checkIndex_13 dX6_checkIndex_16 ⟨Nat.le_of_ble_eq_true rfl, Nat.le_of_ble_eq_true rfl, Nat.le_of_ble_eq_true rfl, Nat.le_of_ble_eq_true rfl⟩ ⟨Nat.le_of_ble_eq_true rfl, Nat.le_of_ble_eq_true rfl⟩
set_option maxRecDepth 100000 in
set_option maxHeartbeats 4000000 in
theorem t_X6_checkValue_ok {G : cG} (g : GOK G) {i : Int32} (hi : ¬ (i < 0 ∨ nI 9999 < i)) : CXv G yX6_checkValue cX6_checkValue 1 0 0 0 0 [.int i] (fl []) (fun w1 => w1 = fl []) (fun _ _ => False) := by
  refine CXv.of g (by decide) rfl (Nat.le_of_ble_eq_true rfl) ?_
  intro p l e s m below meth c A ls hst htab F hr hlocks w hl
  generalize ([.int i] : List Value).toArray = args
  have hl : lv_has ls 1 [(0, .int i)] := hl
  have w : Wd G A s.heap (fl []) _ _ := w
  refine lv_iload_n F.x F.b dX6_checkValue_0 rfl (lv_at hl 0 rfl) ?_
  refine lv_if_lt (tgt := 11) F.x F.b dX6_checkValue_1 (by decide) (fun c9 => absurd c9 (fun q => hi (Or.inl q))) (fun _ => ?_)
  refine lv_iload_n F.x F.b dX6_checkValue_4 rfl (lv_at hl 0 rfl) ?_
  refine lv_sipush (v := 9999) F.x F.b dX6_checkValue_5 (by decide) ?_
  refine lv_icmp_le (tgt := 22) F.x F.b dX6_checkValue_8 (by decide) (fun _ => ?_) (fun c9 => absurd (Int32.not_lt.mp (fun q => hi (Or.inr q))) c9)
  exact evX F w hr hlocks rfl (Nat.le_of_ble_eq_true rfl) (Nat.le_of_ble_eq_true rfl) dX6_checkValue_22
set_option maxRecDepth 100000 in
set_option maxHeartbeats 4000000 in
theorem t_X6_checkValue_no {G : cG} (g : GOK G) {i : Int32} (gM : MG G) (hi : i < 0 ∨ nI 9999 < i) : CXv G yX6_checkValue cX6_checkValue 1 6 83 1 6 [.int i] (fl []) (fun _ => False) (QE eIAE (fl [])) := by
  refine CXv.of g (by decide) rfl (Nat.le_of_ble_eq_true rfl) ?_
  intro p l e s m below meth c A ls hst htab F hr hlocks w hl
  generalize ([.int i] : List Value).toArray = args
  have hl : lv_has ls 1 [(0, .int i)] := hl
  have w : Wd G A s.heap (fl []) _ _ := w
  by_cases h0 : i < 0
  · refine lv_iload_n F.x F.b dX6_checkValue_0 rfl (lv_at hl 0 rfl) ?_
    refine lv_if_lt (tgt := 11) F.x F.b dX6_checkValue_1 (by decide) (fun _ => ?_) (fun c9 => absurd h0 c9)
    exact wTSW F w gM hst htab hlocks hS_IAE (is := 344) (by decide +kernel : (344, "a value is from 0 to 9999") ∈ msgs) (show QE eIAE (fl []) eIAE (fl []) from ⟨rfl, rfl⟩) hl.1 dX6_checkValue_11 dX6_checkValue_14 dX6_checkValue_15 dX6_checkValue_18 dX6_checkValue_21 ⟨Nat.le_of_ble_eq_true rfl, Nat.le_of_ble_eq_true rfl, Nat.le_of_ble_eq_true rfl, Nat.le_of_ble_eq_true rfl⟩ ⟨Nat.le_of_ble_eq_true rfl, Nat.le_of_ble_eq_true rfl⟩
  · refine lv_iload_n F.x F.b dX6_checkValue_0 rfl (lv_at hl 0 rfl) ?_
    refine lv_if_lt (tgt := 11) F.x F.b dX6_checkValue_1 (by decide) (fun c9 => absurd c9 h0) (fun _ => ?_)
    refine lv_iload_n F.x F.b dX6_checkValue_4 rfl (lv_at hl 0 rfl) ?_
    refine lv_sipush (v := 9999) F.x F.b dX6_checkValue_5 (by decide) ?_
    refine lv_icmp_le (tgt := 22) F.x F.b dX6_checkValue_8 (by decide) (fun c9 => absurd c9 (Int32.not_le.mpr (hi.resolve_left h0))) (fun _ => ?_)
    exact wTSW F w gM hst htab hlocks hS_IAE (is := 344) (by decide +kernel : (344, "a value is from 0 to 9999") ∈ msgs) (show QE eIAE (fl []) eIAE (fl []) from ⟨rfl, rfl⟩) hl.1 dX6_checkValue_11 dX6_checkValue_14 dX6_checkValue_15 dX6_checkValue_18 dX6_checkValue_21 ⟨Nat.le_of_ble_eq_true rfl, Nat.le_of_ble_eq_true rfl, Nat.le_of_ble_eq_true rfl, Nat.le_of_ble_eq_true rfl⟩ ⟨Nat.le_of_ble_eq_true rfl, Nat.le_of_ble_eq_true rfl⟩
set_option maxRecDepth 100000 in
set_option maxHeartbeats 4000000 in
theorem t_X6_slotOf_ok {G : cG} (g : GOK G) {ad : Nat → Nat → Nat} {svx : Value} {K S : Mem} {x1 : Int32} {pp : Nat} (hs : f_X3_slotWith S x1 = some (nI pp)) (hp : pp < 16) : CX G yX6_slotOf cX6_slotOf 3 .int 1 22 0 0 [.ref ((ad 0) 0), .int x1] (fl [wXo G.2.1 (ad 0) (xF ad) svx K, wSh G.2.1 (ad 1) S]) (fun r w1 => r = nI pp ∧ w1 = fl [wXo G.2.1 (ad 0) (xF ad) svx K, wSh G.2.1 (ad 1) S]) (fun _ _ => False) := by
  refine CX.of g (by decide) rfl (Nat.le_of_ble_eq_true rfl) ?_
  intro p l e s m below meth c A ls hst htab F hr hlocks w hl
  generalize ([.ref ((ad 0) 0), .int x1] : List Value).toArray = args
  have hl : lv_has ls 3 [(0, .ref ((ad 0) 0)), (1, .int x1)] := hl
  have w : Wd G A s.heap (fl [wXo G.2.1 (ad 0) (xF ad) svx K, wSh G.2.1 (ad 1) S]) _ _ := w
  refine lv_aload_n F.x F.b dX6_slotOf_0 rfl (lv_at hl 0 rfl) ?_
  refine rg F w cl6 0 rfl 0 (by decide) q260 rfl (v := .ref ((ad 1) 0)) rfl dX6_slotOf_1 ?_
  refine rgN F w cl4 1 rfl 0 (by decide) q147 rfl (v := .ref ((ad 1) 1)) rfl dX6_slotOf_4 ?_
  refine lv_iload_n F.x F.b dX6_slotOf_7 rfl (lv_at hl 1 rfl) ?_
  refine kXi F w hst (LC := [wSh G.2.1 (ad 1) S]) (LR := [wXo G.2.1 (ad 0) (xF ad) svx K]) (As := [.int x1]) (rest := []) (t_X3_slotWith F.1 hs).toX m_X3_slotWith v_X3_slotWith q483 (ci := 7) (q0 := 2) rfl rfl rfl 2 [1, 0] rfl rfl rfl ⟨Nat.le_of_ble_eq_true rfl, Nat.le_of_ble_eq_true rfl⟩ rfl hl.1 rfl (Nat.le_of_ble_eq_true rfl) dX6_slotOf_8 ⟨Nat.le_of_ble_eq_true rfl, Nat.le_of_ble_eq_true rfl⟩ (fun _ _ _ _ _ _ hx => False.elim hx) (fun r9 w1 H locs h9 w => ?_)
  obtain ⟨rfl, h9⟩ := h9
  have w := w.jn (L1 := [wSh G.2.1 (ad 1) S]) (L' := [wXo G.2.1 (ad 0) (xF ad) svx K, wSh G.2.1 (ad 1) S]) h9 2 [1, 0] rfl rfl rfl
  refine lv_istore_n (lv' := [(2, .int (nI pp)), (0, .ref ((ad 0) 0)), (1, .int x1)]) F.x F.b dX6_slotOf_11 rfl hl (by decide) rfl (fun ls hl => ?_)
  refine lv_iload_n F.x F.b dX6_slotOf_12 rfl (lv_at hl 0 rfl) ?_
  refine lv_if_ge (tgt := 27) F.x F.b dX6_slotOf_13 (by decide) (fun _ => ?_) (fun c9 => absurd (nI_pos' (n := pp) (by omega)) c9)
  refine lv_iload_n F.x F.b dX6_slotOf_27 rfl (lv_at hl 0 rfl) ?_
  exact eiX F w hr hlocks rfl ⟨rfl, rfl⟩ (Nat.le_of_ble_eq_true rfl) (Nat.le_of_ble_eq_true rfl) dX6_slotOf_28
set_option maxRecDepth 100000 in
set_option maxHeartbeats 4000000 in
theorem t_X6_slotOf_no {G : cG} (g : GOK G) {ad : Nat → Nat → Nat} {svx : Value} {K S : Mem} {x1 : Int32} (hs : f_X3_slotWith S x1 = some (-1)) (gM : MG G) : CX G yX6_slotOf cX6_slotOf 3 .int 6 82 1 6 [.ref ((ad 0) 0), .int x1] (fl [wXo G.2.1 (ad 0) (xF ad) svx K, wSh G.2.1 (ad 1) S]) (fun _ _ => False) (QE eNSE (fl [wXo G.2.1 (ad 0) (xF ad) svx K, wSh G.2.1 (ad 1) S])) := by
  refine CX.of g (by decide) rfl (Nat.le_of_ble_eq_true rfl) ?_
  intro p l e s m below meth c A ls hst htab F hr hlocks w hl
  generalize ([.ref ((ad 0) 0), .int x1] : List Value).toArray = args
  have hl : lv_has ls 3 [(0, .ref ((ad 0) 0)), (1, .int x1)] := hl
  have w : Wd G A s.heap (fl [wXo G.2.1 (ad 0) (xF ad) svx K, wSh G.2.1 (ad 1) S]) _ _ := w
  refine lv_aload_n F.x F.b dX6_slotOf_0 rfl (lv_at hl 0 rfl) ?_
  refine rg F w cl6 0 rfl 0 (by decide) q260 rfl (v := .ref ((ad 1) 0)) rfl dX6_slotOf_1 ?_
  refine rgN F w cl4 1 rfl 0 (by decide) q147 rfl (v := .ref ((ad 1) 1)) rfl dX6_slotOf_4 ?_
  refine lv_iload_n F.x F.b dX6_slotOf_7 rfl (lv_at hl 1 rfl) ?_
  refine kXi F w hst (LC := [wSh G.2.1 (ad 1) S]) (LR := [wXo G.2.1 (ad 0) (xF ad) svx K]) (As := [.int x1]) (rest := []) (t_X3_slotWith F.1 hs).toX m_X3_slotWith v_X3_slotWith q483 (ci := 7) (q0 := 2) rfl rfl rfl 2 [1, 0] rfl rfl rfl ⟨Nat.le_of_ble_eq_true rfl, Nat.le_of_ble_eq_true rfl⟩ rfl hl.1 rfl (Nat.le_of_ble_eq_true rfl) dX6_slotOf_8 ⟨Nat.le_of_ble_eq_true rfl, Nat.le_of_ble_eq_true rfl⟩ (fun _ _ _ _ _ _ hx => False.elim hx) (fun r9 w1 H locs h9 w => ?_)
  obtain ⟨rfl, h9⟩ := h9
  have w := w.jn (L1 := [wSh G.2.1 (ad 1) S]) (L' := [wXo G.2.1 (ad 0) (xF ad) svx K, wSh G.2.1 (ad 1) S]) h9 2 [1, 0] rfl rfl rfl
  refine lv_istore_n (lv' := [(2, .int (-1)), (0, .ref ((ad 0) 0)), (1, .int x1)]) F.x F.b dX6_slotOf_11 rfl hl (by decide) rfl (fun ls hl => ?_)
  refine lv_iload_n F.x F.b dX6_slotOf_12 rfl (lv_at hl 0 rfl) ?_
  refine lv_if_ge (tgt := 27) F.x F.b dX6_slotOf_13 (by decide) (fun c9 => absurd c9 (by decide)) (fun _ => ?_)
  exact wTNW F w gM hst htab hlocks (is := 349) (by decide +kernel : (349, "no such lot") ∈ msgs) (show QE eNSE (fl [wXo G.2.1 (ad 0) (xF ad) svx K, wSh G.2.1 (ad 1) S]) eNSE _ from ⟨rfl, rfl⟩) hl.1 dX6_slotOf_16 dX6_slotOf_19 dX6_slotOf_20 dX6_slotOf_23 dX6_slotOf_26 ⟨Nat.le_of_ble_eq_true rfl, Nat.le_of_ble_eq_true rfl, Nat.le_of_ble_eq_true rfl, Nat.le_of_ble_eq_true rfl⟩ ⟨Nat.le_of_ble_eq_true rfl, Nat.le_of_ble_eq_true rfl⟩
set_option maxRecDepth 100000 in
set_option maxHeartbeats 4000000 in
theorem t_X6_settle_ok {G : cG} (g : GOK G) {ad : Nat → Nat → Nat} {svx : Value} {K : Mem} {cu ct : Nat} {hs : hS} {r : Nat} (hr9 : r < 2 ^ 31) (k1 : cu < 9) (k2 : ct ≤ 8) : CX G yX6_settle cX6_settle 2 .int 1 20 0 0 [.ref ((ad 0) 0), .int (nI r)] (fl [wXo G.2.1 (ad 0) (xF ad) svx K, wHo G.2.1 (ad 3) cu ct hs]) (fun r9 w1 => r9 = nI r ∧ w1 = fl [wXo G.2.1 (ad 0) (xF ad) svx K, wHo G.2.1 (ad 3) (nxt cu) (cap ct) hs]) (fun _ _ => False) := by
  refine CX.of g (by decide) rfl (Nat.le_of_ble_eq_true rfl) ?_
  intro p l e s m below meth c A ls hst htab F hr hlocks w hl
  generalize ([.ref ((ad 0) 0), .int (nI r)] : List Value).toArray = args
  have hl : lv_has ls 2 [(0, .ref ((ad 0) 0)), (1, .int (nI r))] := hl
  have w : Wd G A s.heap (fl [wXo G.2.1 (ad 0) (xF ad) svx K, wHo G.2.1 (ad 3) cu ct hs]) _ _ := w
  refine lv_iload_n F.x F.b dX6_settle_0 rfl (lv_at hl 1 rfl) ?_
  refine lv_if_ge (tgt := 8) F.x F.b dX6_settle_1 (by decide) (fun _ => ?_) (fun c9 => absurd (nI_pos' (n := r) hr9) c9)
  refine lv_aload_n F.x F.b dX6_settle_8 rfl (lv_at hl 0 rfl) ?_
  refine rg F w cl6 0 rfl 2 (by decide) q262 rfl (v := .ref ((ad 3) 0)) rfl dX6_settle_9 ?_
  refine kXv F w hst (LC := [wHo G.2.1 (ad 3) cu ct hs]) (LR := [wXo G.2.1 (ad 0) (xF ad) svx K]) (As := []) (rest := []) (t_X2_keepPrepared F.1 k1 k2) m_X2_keepPrepared v_X2_keepPrepared q683 (ci := 6) (q0 := 1) rfl rfl rfl 2 [1, 0] rfl rfl rfl ⟨Nat.le_of_ble_eq_true rfl, Nat.le_of_ble_eq_true rfl⟩ rfl hl.1 rfl (Nat.le_of_ble_eq_true rfl) dX6_settle_12 ⟨Nat.le_of_ble_eq_true rfl, Nat.le_of_ble_eq_true rfl⟩ (fun _ _ _ _ _ _ hx => False.elim hx) (fun w1 H locs h9 w => ?_)
  have w := w.jn (L1 := [wHo G.2.1 (ad 3) (nxt cu) (cap ct) hs]) (L' := [wXo G.2.1 (ad 0) (xF ad) svx K, wHo G.2.1 (ad 3) (nxt cu) (cap ct) hs]) h9 2 [1, 0] rfl rfl rfl
  refine lv_iload_n F.x F.b dX6_settle_15 rfl (lv_at hl 1 rfl) ?_
  exact eiX F w hr hlocks rfl ⟨rfl, rfl⟩ (Nat.le_of_ble_eq_true rfl) (Nat.le_of_ble_eq_true rfl) dX6_settle_16
set_option maxRecDepth 100000 in
set_option maxHeartbeats 4000000 in
theorem t_X6_settle_no {G : cG} (g : GOK G) {ad : Nat → Nat → Nat} {svx : Value} {K : Mem} {cu ct : Nat} {hs : hS} {E : String} (gM : MG G) (hE : E ∈ excL) : CX G yX6_settle cX6_settle 2 .int 7 102 1 6 [.ref ((ad 0) 0), .int (numE E)] (fl [wXo G.2.1 (ad 0) (xF ad) svx K, wHo G.2.1 (ad 3) cu ct hs]) (fun _ _ => False) (QE E (fl [wXo G.2.1 (ad 0) (xF ad) svx K, wHo G.2.1 (ad 3) cu ct hs])) := by
  refine CX.of g (by decide) rfl (Nat.le_of_ble_eq_true rfl) ?_
  intro p l e s m below meth c A ls hst htab F hr hlocks w hl
  generalize ([.ref ((ad 0) 0), .int (numE E)] : List Value).toArray = args
  have hl : lv_has ls 2 [(0, .ref ((ad 0) 0)), (1, .int (numE E))] := hl
  have w : Wd G A s.heap (fl [wXo G.2.1 (ad 0) (xF ad) svx K, wHo G.2.1 (ad 3) cu ct hs]) _ _ := w
  refine lv_iload_n F.x F.b dX6_settle_0 rfl (lv_at hl 1 rfl) ?_
  refine lv_if_ge (tgt := 8) F.x F.b dX6_settle_1 (by decide) (fun c9 => absurd c9 (Int32.not_le.mpr (numE_neg hE))) (fun _ => ?_)
  refine lv_iload_n F.x F.b dX6_settle_4 rfl (lv_at hl 1 rfl) ?_
  refine kXSv F w hst (As := [.int (numE E)]) (rest := []) (t_X6_throwFor F.1 gM hE) m_X6_throwFor v_X6_throwFor q642 ⟨Nat.le_of_ble_eq_true rfl, Nat.le_of_ble_eq_true rfl⟩ rfl hl.1 rfl (Nat.le_of_ble_eq_true rfl) dX6_settle_5 ⟨Nat.le_of_ble_eq_true rfl, Nat.le_of_ble_eq_true rfl⟩ (fun E w1 ce q H locs hx w hce hcv hcl => by obtain ⟨rfl, rfl⟩ := hx; exact exX w htab hlocks hce hcv hcl ⟨rfl, rfl⟩ (Nat.le_of_ble_eq_true rfl) (Nat.le_of_ble_eq_true rfl)) (fun w1 H locs h9 w => ?_)
  exact False.elim h9

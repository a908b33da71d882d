/-! printed by wip/p61/tools/gen99v.py: isKept -/
theorem q349 : Cond.methodLink RL 185 yX6_undoCount ∈ lw_tbl := List.mem_of_getElem? (i := 349) (by decide +kernel)
theorem q1167 : Cond.methodLink RL 181 yL_sum ∈ lw_tbl := List.mem_of_getElem? (i := 1167) (by decide +kernel)
theorem q1481 : Cond.methodLink RL 356 yX6_save ∈ lw_tbl := List.mem_of_getElem? (i := 1481) (by decide +kernel)
theorem m_L_sum : YM yL_sum cL_sum 7 (some (.long)) 1 := ⟨⟨List.mem_of_getElem? (i := 1169) (by decide +kernel), by decide +kernel⟩, List.mem_of_getElem? (i := 14) (by decide +kernel), ⟨by decide, by decide⟩, by decide +kernel⟩
theorem v_L_sum : YS yL_sum := (List.mem_of_getElem? (i := 1168) (by decide +kernel))
theorem m_X6_save : YM yX6_save cX6_save 2 (some (.int)) 0 := ⟨⟨List.mem_of_getElem? (i := 1484) (by decide +kernel), by decide +kernel⟩, List.mem_of_getElem? (i := 15) (by decide +kernel), ⟨by decide, by decide⟩, by decide +kernel⟩
theorem v_X6_save : YV yX6_save := ⟨(List.mem_of_getElem? (i := 1482) (by decide +kernel)), List.mem_of_getElem? (i := 1483) (by decide +kernel)⟩
theorem m_X6_undoCount : YM yX6_undoCount cX6_undoCount 1 (some (.int)) 0 := ⟨⟨List.mem_of_getElem? (i := 352) (by decide +kernel), by decide +kernel⟩, List.mem_of_getElem? (i := 15) (by decide +kernel), ⟨by decide, by decide⟩, by decide +kernel⟩
theorem v_X6_undoCount : YV yX6_undoCount := ⟨(List.mem_of_getElem? (i := 350) (by decide +kernel)), List.mem_of_getElem? (i := 351) (by decide +kernel)⟩
/-- the states that undo gives back: of the change i before the last, behind m changes, with the sums told -/
def HI (N cu ct : Nat) (hs : hS) (m : Nat) (sm : Nat → Int64) : Prop := cu < 9 ∧ ct ≤ 8 ∧ ct ≤ m ∧ ∀ i, i < ct → ∃ (b : Nat → Nat) (P : Mem) (c t q : Nat), hs ((cu + 8 - i) % 9) = some (b, P) ∧ Gd N P c t q ∧ sumF P c t q = sm (m - 1 - i)
section HIS
variable {N cu ct d m : Nat} {hs hs' : hS} {sm : Nat → Int64}
theorem prv_mod (h : cu < 9) : prv cu = (cu + 8) % 9 := by
  unfold prv
  split <;> omega
theorem HI.top (h : HI N cu (d + 1) hs m sm) : ∃ (b : Nat → Nat) (P : Mem) (c t q : Nat), hs (prv cu) = some (b, P) ∧ Gd N P c t q ∧ sumF P c t q = sm (m - 1) := by
  obtain ⟨b, P, c, t, q, h1, h2, h3⟩ := h.2.2.2 0 (Nat.succ_pos d)
  exact ⟨b, P, c, t, q, by rw [prv_mod h.1]; exact h1, h2, h3⟩
theorem HI.pos (h : HI N cu (d + 1) hs m sm) : 0 < m := Nat.lt_of_lt_of_le (Nat.succ_pos d) h.2.2.1
theorem HI.pop (h : HI N cu (d + 1) hs m sm) : HI N (prv cu) d hs (m - 1) sm := by
  obtain ⟨h1, h2, h3, h4⟩ := h
  have e := prv_mod h1
  refine ⟨by omega, by omega, by omega, fun i hi => ?_⟩
  obtain ⟨b, P, c, t, q, a1, a2, a3⟩ := h4 (i + 1) (by omega)
  refine ⟨b, P, c, t, q, ?_, a2, ?_⟩
  · rw [show (prv cu + 8 - i) % 9 = (cu + 8 - (i + 1)) % 9 by omega]
    exact a1
  · rw [a3]
    congr 1
    omega
theorem HI.free (h : HI N cu ct hs m sm) (f : HF cu hs hs') : HI N cu ct hs' m sm := by
  obtain ⟨h1, h2, h3, h4⟩ := h
  refine ⟨h1, h2, h3, fun i hi => ?_⟩
  obtain ⟨b, P, c, t, q, a1, a2, a3⟩ := h4 i hi
  exact ⟨b, P, c, t, q, by rw [f _ (by omega)]; exact a1, a2, a3⟩
theorem HI.up {N' : Nat} (h : HI N cu ct hs m sm) (hN : N ≤ N') : HI N' cu ct hs m sm := by
  obtain ⟨h1, h2, h3, h4⟩ := h
  refine ⟨h1, h2, h3, fun i hi => ?_⟩
  obtain ⟨b, P, c, t, q, a1, a2, a3⟩ := h4 i hi
  exact ⟨b, P, c, t, q, a1, a2.mono hN, a3⟩
theorem HI.push (h : HI N cu ct hs m sm) {b : Nat → Nat} {P : Mem} {c t q : Nat} (g : Gd N P c t q) {sm' : Nat → Int64} (e : sumF P c t q = sm' m) (hk : ∀ i, i < m → sm' i = sm i) : HI N (nxt cu) (cap ct) (hput hs cu (b, P)) (m + 1) sm' := by
  obtain ⟨h1, h2, h3, h4⟩ := h
  have en : nxt cu = (cu + 1) % 9 := by
    unfold nxt
    split <;> omega
  have ec : cap ct ≤ 8 ∧ cap ct ≤ ct + 1 := by
    unfold cap
    split <;> omega
  refine ⟨by omega, ec.1, by omega, fun i hi => ?_⟩
  by_cases i0 : i = 0
  · subst i0
    refine ⟨b, P, c, t, q, ?_, g, e⟩
    rw [show (nxt cu + 8 - 0) % 9 = cu by omega]
    exact if_pos rfl
  · obtain ⟨b, P, c, t, q, a1, a2, a3⟩ := h4 (i - 1) (by omega)
    refine ⟨b, P, c, t, q, ?_, a2, ?_⟩
    · rw [show (nxt cu + 8 - i) % 9 = (cu + 8 - (i - 1)) % 9 by omega]
      exact (if_neg (by omega)).trans a1
    · rw [a3, hk _ (by omega)]
      congr 1
      omega
end HIS
theorem m_one {m : Nat} (h : 0 < m) : nI m - 1 = nI (m - 1) := by
  obtain ⟨k, rfl⟩ : ∃ k, m = k + 1 := ⟨m - 1, by omega⟩
  rw [Int32.sub_eq_add_neg]
  exact sb_m1 h
theorem m_dec {m : Nat} (h : 0 < m) : nI m - 1 + Int32.ofInt (-1) = nI (m - 1) - 1 := by
  rw [m_one h, Int32.sub_eq_add_neg]
  rfl
theorem min8 {a g : Nat} (h : g = if a < 8 then a else 8) (ha : a < 2 ^ 30) : (if (nI a : Int32) < 8 then nI a else 8) = nI g := by
  rw [h]
  by_cases e : a < 8
  · rw [if_pos e, if_pos (show nI a < 8 from nI_lt (b := 8) e (by omega))]
  · rw [if_neg e, if_neg (show ¬ nI a < 8 from nI_nlt (a := a) (b := 8) (by omega) (by omega))]
    rfl
set_option maxRecDepth 100000 in
set_option maxHeartbeats 4000000 in
theorem w_isKept {G : cG} (g : GOK G) (gM : MG G) (hNC : NcG G) {ks kv : Nat → Nat} (hSG : SG G ks kv) (pv : PV G) {d1 d2 : Nat} (hD : DGs G d1 d2) {ad : Nat → Nat → Nat} {K S : Mem} {cu ct : Nat} {hs : hS} {N c t q z made : Nat} {sm : Nat → Int64} {ou : oB} {L0 : List Nat} (h : Gd N S c t q) (hT : Tx ou L0) (hI : HI N cu ct hs made sm) (hct : ct = if made < 8 then made else 8) (hmade : made < 80) (hsum : sumF S c t q = sm made) : CX G yL_isKept cL_isKept 6 .boolean 9 219 20 200 [.ref ((ad 0) 0), .ref z, .int (nI made)] (fl [[(z, .inl (G.2.1 4, 80, .inr (.inl sm)))], wXo G.2.1 (ad 0) (xF ad) .null K, wSh G.2.1 (ad 1) S, wSb G.2.1 (ad 5) ou, wHo G.2.1 (ad 3) cu ct hs, hsL G.2.1 hs]) (fun r9 _ => r9 = 1) NX := by
  refine CX.of g (by decide) rfl (Nat.le_of_ble_eq_true rfl) ?_
  intro p l e s m0 below meth cm A ls hst htab F hr hlocks w hl
  generalize ([.ref ((ad 0) 0), .ref z, .int (nI made)] : List Value).toArray = args
  have hl : lv_has ls 6 [(2, .int (nI made)), (1, .ref z), (0, .ref ((ad 0) 0))] := lv_sub hl [2, 1, 0] rfl
  have w : Wd G A s.heap (fl [[(z, .inl (G.2.1 4, 80, .inr (.inl sm)))], wXo G.2.1 (ad 0) (xF ad) .null K, wSh G.2.1 (ad 1) S, wSb G.2.1 (ad 5) ou, wHo G.2.1 (ad 3) cu ct hs, hsL G.2.1 hs]) _ _ := w
  refine lv_aload_n F.x F.b dL_isKept_0 rfl (lv_at hl 2 rfl) ?_
  refine kXi F w hst (LC := [wXo G.2.1 (ad 0) (xF ad) .null K, wSh G.2.1 (ad 1) S]) (LR := [[(z, .inl (G.2.1 4, 80, .inr (.inl sm)))], wSb G.2.1 (ad 5) ou, wHo G.2.1 (ad 3) cu ct hs, hsL G.2.1 hs]) (As := []) (rest := []) (k_save F.1 h.copies) m_X6_save v_X6_save q1481 (ci := 10) (q0 := 1) rfl rfl rfl 6 [1, 2, 0, 3, 4, 5] rfl rfl rfl ⟨Nat.le_of_ble_eq_true rfl, Nat.le_of_ble_eq_true rfl⟩ rfl hl.1 rfl (Nat.le_of_ble_eq_true rfl) dL_isKept_1 ⟨Nat.le_of_ble_eq_true rfl, Nat.le_of_ble_eq_true rfl⟩ (fun _ _ _ _ _ _ hx => False.elim hx) (fun r9 w1 H locs h9 w => ?_)
  obtain ⟨rfl, bs, P0, ⟨PP0, hP0⟩, h9⟩ := h9
  have w := w.jn (L1 := [wXo G.2.1 (ad 0) (xF ad) (.ref (bs 0)) K, wSh G.2.1 (ad 1) S, wSh G.2.1 bs P0]) (L' := [[(z, .inl (G.2.1 4, 80, .inr (.inl sm)))], wXo G.2.1 (ad 0) (xF ad) (.ref (bs 0)) K, wSh G.2.1 (ad 1) S, wSb G.2.1 (ad 5) ou, wHo G.2.1 (ad 3) cu ct hs, hsL G.2.1 hs, wSh G.2.1 bs P0]) h9 7 [3, 0, 1, 4, 5, 6, 2] rfl rfl rfl
  rw [show ((S.1 0) : Int32) = (nI c) from h.c1]
  obtain ⟨smP, gP⟩ := h.copy hP0
  refine lv_istore_n (lv' := [(3, .int (nI c)), (2, .int (nI made)), (1, .ref z), (0, .ref ((ad 0) 0))]) F.x F.b dL_isKept_4 rfl hl (by decide) rfl (fun ls hl => ?_)
  refine lv_bipush (v := 8) F.x F.b dL_isKept_5 (by decide) ?_
  refine lv_iload_n F.x F.b dL_isKept_7 rfl (lv_at hl 1 rfl) ?_
  refine va_mmin F.x F.b (F.ml.trans hl.1.symm) F.o (F.t _ (List.mem_of_getElem? (i := 1311) (by decide +kernel)) rfl _) (F.t _ (List.mem_of_getElem? (i := 344) (by decide +kernel)) rfl _) (F.t _ (List.mem_of_getElem? (i := 34) (by decide +kernel)) rfl _) (F.t _ (List.mem_of_getElem? (i := 345) (by decide +kernel)) rfl _) (by decide) (Nat.le_of_ble_eq_true rfl) (Nat.le_of_ble_eq_true rfl) (Nat.le_of_ble_eq_true rfl) dL_isKept_8 ?_
  rw [show (if ((nI made) : Int32) < 8 then (nI made) else 8) = nI ct from min8 hct (by omega)]
  refine lv_istore (lv' := [(4, .int (nI ct)), (3, .int (nI c)), (2, .int (nI made)), (1, .ref z), (0, .ref ((ad 0) 0))]) F.x F.b dL_isKept_11 hl (by decide) rfl (fun ls hl => ?_)
  refine lv_aload_n F.x F.b dL_isKept_13 rfl (lv_at hl 4 rfl) ?_
  refine kXi F w hst (LC := [wXo G.2.1 (ad 0) (xF ad) (.ref (bs 0)) K, wHo G.2.1 (ad 3) cu ct hs]) (LR := [[(z, .inl (G.2.1 4, 80, .inr (.inl sm)))], wSh G.2.1 (ad 1) S, wSb G.2.1 (ad 5) ou, hsL G.2.1 hs, wSh G.2.1 bs P0]) (As := []) (rest := []) (k_undoCount F.1) m_X6_undoCount v_X6_undoCount q349 (ci := 10) (q0 := 1) rfl rfl rfl 7 [1, 4, 0, 2, 3, 5, 6] rfl rfl rfl ⟨Nat.le_of_ble_eq_true rfl, Nat.le_of_ble_eq_true rfl⟩ rfl hl.1 rfl (Nat.le_of_ble_eq_true rfl) dL_isKept_14 ⟨Nat.le_of_ble_eq_true rfl, Nat.le_of_ble_eq_true rfl⟩ (fun _ _ _ _ _ _ hx => False.elim hx) (fun r9 w1 H locs h9 w => ?_)
  obtain ⟨rfl, h9⟩ := h9
  have w := w.jn (L1 := [wXo G.2.1 (ad 0) (xF ad) (.ref (bs 0)) K, wHo G.2.1 (ad 3) cu ct hs]) (L' := [[(z, .inl (G.2.1 4, 80, .inr (.inl sm)))], wXo G.2.1 (ad 0) (xF ad) (.ref (bs 0)) K, wSh G.2.1 (ad 1) S, wSb G.2.1 (ad 5) ou, wHo G.2.1 (ad 3) cu ct hs, hsL G.2.1 hs, wSh G.2.1 bs P0]) h9 7 [2, 0, 3, 4, 1, 5, 6] rfl rfl rfl
  refine lv_iload F.x F.b dL_isKept_17 (lv_at hl 0 rfl) ?_
  refine lv_icmp_eq (tgt := 24) F.x F.b dL_isKept_19 (by decide) (fun _ => ?_) (fun c9 => absurd rfl c9)
  refine lv_iload_n F.x F.b dL_isKept_24 rfl (lv_at hl 2 rfl) ?_
  refine lv_iconst (v := 1) F.x F.b dL_isKept_25 (by decide) ?_
  refine lv_isub F.x F.b dL_isKept_26 ?_
  refine lv_istore (lv' := [(5, .int ((nI made) - 1)), (4, .int (nI ct)), (3, .int (nI c)), (2, .int (nI made)), (1, .ref z), (0, .ref ((ad 0) 0))]) F.x F.b dL_isKept_27 hl (by decide) rfl (fun ls hl => ?_)
  have L29 : ∀ (ct cu m : Nat) (S1 : Mem) (c1 t1 q1 : Nat) (ou : oB) (Lx : List Nat) (H : Heap) (locs : List Loc) (ls : Array Slot), HI N cu ct hs m sm → m ≤ made → Gd N S1 c1 t1 q1 → Tx ou Lx → Wd G A s.heap (fl [[(z, .inl (G.2.1 4, 80, .inr (.inl sm)))], wXo G.2.1 (ad 0) (xF ad) (.ref (bs 0)) K, wSh G.2.1 (ad 1) S1, wSb G.2.1 (ad 5) ou, wHo G.2.1 (ad 3) cu ct hs, hsL G.2.1 hs, wSh G.2.1 bs P0]) H locs → lv_has ls 6 [(5, .int (nI m - 1)), (4, .int (nI ct)), (3, .int (nI c)), (2, .int (nI made)), (1, .ref z), (0, .ref ((ad 0) 0))] → W p l e { frames := 9, cells := 20, slots := 200, locals := 219 } s m0 args below meth cm H locs 14 161 (XI G A (fun r9 _ => r9 = 1) NX 20 200 below args s) (F0 m0 29 ls []) := by
    intro ct
    induction ct with
    | zero =>
      intro cu m S1 c1 t1 q1 ou Lx H locs ls hI hmm g1 hT w hl
      refine lv_iload F.x F.b dL_isKept_29 (lv_at hl 1 rfl) ?_
      refine lv_if_le (tgt := 66) F.x F.b dL_isKept_31 (by decide) (fun _ => ?_) (fun c9 => absurd (by decide) c9)
      refine lv_aload_n F.x F.b dL_isKept_66 rfl (lv_at hl 5 rfl) ?_
      refine kLi F w hst (LC := [wXo G.2.1 (ad 0) (xF ad) (.ref (bs 0)) K, wSh G.2.1 (ad 1) S1, wHo G.2.1 (ad 3) cu 0 hs, hsL G.2.1 hs]) (LR := [[(z, .inl (G.2.1 4, 80, .inr (.inl sm)))], wSb G.2.1 (ad 5) ou, wSh G.2.1 bs P0]) (As := [.ref ((ad 0) 0)]) (rest := []) (l_undo_no F.1 gM hNC rfl) mh_undo vh_undo (List.mem_of_getElem? (i := 1485) (by decide +kernel)) 7 [1, 2, 4, 5, 0, 3, 6] rfl rfl rfl ⟨Nat.le_of_ble_eq_true rfl, Nat.le_of_ble_eq_true rfl⟩ rfl hl.1 rfl (Nat.le_of_ble_eq_true rfl) dL_isKept_67 ⟨Nat.le_of_ble_eq_true rfl, Nat.le_of_ble_eq_true rfl⟩ (fun r9 w1 H locs h9 w => ?_)
      obtain ⟨rfl, h9⟩ := h9
      have w := w.jn (L1 := [wXo G.2.1 (ad 0) (xF ad) (.ref (bs 0)) K, wSh G.2.1 (ad 1) S1, wHo G.2.1 (ad 3) cu 0 hs, hsL G.2.1 hs]) (L' := [[(z, .inl (G.2.1 4, 80, .inr (.inl sm)))], wXo G.2.1 (ad 0) (xF ad) (.ref (bs 0)) K, wSh G.2.1 (ad 1) S1, wSb G.2.1 (ad 5) ou, wHo G.2.1 (ad 3) cu 0 hs, hsL G.2.1 hs, wSh G.2.1 bs P0]) h9 7 [4, 0, 1, 5, 2, 3, 6] rfl rfl rfl
      refine lv_bipush (v := (-79)) F.x F.b dL_isKept_70 (by decide) ?_
      refine lv_icmp_ne (tgt := 107) F.x F.b dL_isKept_72 (by decide) (fun c9 => absurd rfl c9) (fun _ => ?_)
      refine lv_aload_n F.x F.b dL_isKept_75 rfl (lv_at hl 5 rfl) ?_
      obtain ⟨S9, hS9⟩ := gP.copies S1
      obtain ⟨sm9, g9⟩ := gP.copy hS9
      refine kLi F w hst (LC := [wXo G.2.1 (ad 0) (xF ad) (.ref (bs 0)) K, wSh G.2.1 (ad 1) S1, wHo G.2.1 (ad 3) cu 0 hs, wSh G.2.1 bs P0]) (LR := [[(z, .inl (G.2.1 4, 80, .inr (.inl sm)))], wSb G.2.1 (ad 5) ou, hsL G.2.1 hs]) (As := [.ref ((ad 0) 0)]) (rest := []) (l_restore_ok F.1 hS9) mh_restore vh_restore (List.mem_of_getElem? (i := 1498) (by decide +kernel)) 7 [1, 2, 4, 6, 0, 3, 5] rfl rfl rfl ⟨Nat.le_of_ble_eq_true rfl, Nat.le_of_ble_eq_true rfl⟩ rfl hl.1 rfl (Nat.le_of_ble_eq_true rfl) dL_isKept_76 ⟨Nat.le_of_ble_eq_true rfl, Nat.le_of_ble_eq_true rfl⟩ (fun r9 w1 H locs h9 w => ?_)
      obtain ⟨rfl, h9⟩ := h9
      have w := w.jn (L1 := [wXo G.2.1 (ad 0) (xF ad) (.ref (bs 0)) K, wSh G.2.1 (ad 1) S9, wHo G.2.1 (ad 3) cu 0 hs, wSh G.2.1 bs P0]) (L' := [[(z, .inl (G.2.1 4, 80, .inr (.inl sm)))], wXo G.2.1 (ad 0) (xF ad) (.ref (bs 0)) K, wSh G.2.1 (ad 1) S9, wSb G.2.1 (ad 5) ou, wHo G.2.1 (ad 3) cu 0 hs, hsL G.2.1 hs, wSh G.2.1 bs P0]) h9 7 [4, 0, 1, 5, 2, 6, 3] rfl rfl rfl
      refine lv_iload_n F.x F.b dL_isKept_79 rfl (lv_at hl 2 rfl) ?_
      have e9 : S9.1 0 = nI c := (sm9.1 0 (by omega)).trans ((smP.1 0 (by omega)).trans h.c1)
      refine lv_icmp_ne (tgt := 107) F.x F.b dL_isKept_80 (by decide) (fun c9 => absurd e9 c9) (fun _ => ?_)
      refine lv_aload_n F.x F.b dL_isKept_83 rfl (lv_at hl 5 rfl) ?_
      refine kBl F w hst (LC := [wXo G.2.1 (ad 0) (xF ad) (.ref (bs 0)) K, wSh G.2.1 (ad 1) S9, wSb G.2.1 (ad 5) ou]) (LR := [[(z, .inl (G.2.1 4, 80, .inr (.inl sm)))], wHo G.2.1 (ad 3) cu 0 hs, hsL G.2.1 hs, wSh G.2.1 bs P0]) (As := [.ref ((ad 0) 0)]) (rest := []) (w_sum F.1 hSG pv hD g9 hT) m_L_sum v_L_sum q1167 7 [1, 2, 3, 0, 4, 5, 6] rfl rfl rfl ⟨Nat.le_of_ble_eq_true rfl, Nat.le_of_ble_eq_true rfl⟩ rfl hl.1 rfl (Nat.le_of_ble_eq_true rfl) dL_isKept_84 ⟨Nat.le_of_ble_eq_true rfl, Nat.le_of_ble_eq_true rfl⟩ (fun r9 w1 H locs h9 w => ?_)
      obtain ⟨rfl, ou9, L9, hT, h9⟩ := h9
      have w := w.jn (L1 := [wXo G.2.1 (ad 0) (xF ad) (.ref (bs 0)) K, wSh G.2.1 (ad 1) S9, wSb G.2.1 (ad 5) ou9]) (L' := [[(z, .inl (G.2.1 4, 80, .inr (.inl sm)))], wXo G.2.1 (ad 0) (xF ad) (.ref (bs 0)) K, wSh G.2.1 (ad 1) S9, wSb G.2.1 (ad 5) ou9, wHo G.2.1 (ad 3) cu 0 hs, hsL G.2.1 hs, wSh G.2.1 bs P0]) h9 7 [3, 0, 1, 2, 4, 5, 6] rfl rfl rfl
      refine lv_aload_n F.x F.b dL_isKept_87 rfl (lv_at hl 4 rfl) ?_
      refine lv_iload_n F.x F.b dL_isKept_88 rfl (lv_at hl 3 rfl) ?_
      refine rLl F w 0 rfl (ib_nI (by omega) (by omega)) (v := (sm made)) (by rw [nI_clamp (by omega)]) dL_isKept_89 ?_
      refine rLc F.x F.b ((sumF_same sm9).trans ((sumF_same smP).trans hsum)) dL_isKept_90 ?_
      refine lv_if_ne (tgt := 107) F.x F.b dL_isKept_91 (by decide) (fun c9 => absurd rfl c9) (fun _ => ?_)
      refine lv_aload_n F.x F.b dL_isKept_94 rfl (lv_at hl 5 rfl) ?_
      refine kLi F w hst (LC := [wXo G.2.1 (ad 0) (xF ad) (.ref (bs 0)) K, wSh G.2.1 (ad 1) S9, wHo G.2.1 (ad 3) cu 0 hs, hsL G.2.1 hs]) (LR := [[(z, .inl (G.2.1 4, 80, .inr (.inl sm)))], wSb G.2.1 (ad 5) ou9, wSh G.2.1 bs P0]) (As := [.ref ((ad 0) 0)]) (rest := []) (l_undo_no F.1 gM hNC rfl) mh_undo vh_undo (List.mem_of_getElem? (i := 1485) (by decide +kernel)) 7 [1, 2, 4, 5, 0, 3, 6] rfl rfl rfl ⟨Nat.le_of_ble_eq_true rfl, Nat.le_of_ble_eq_true rfl⟩ rfl hl.1 rfl (Nat.le_of_ble_eq_true rfl) dL_isKept_95 ⟨Nat.le_of_ble_eq_true rfl, Nat.le_of_ble_eq_true rfl⟩ (fun r9 w1 H locs h9 w => ?_)
      obtain ⟨rfl, h9⟩ := h9
      have w := w.jn (L1 := [wXo G.2.1 (ad 0) (xF ad) (.ref (bs 0)) K, wSh G.2.1 (ad 1) S9, wHo G.2.1 (ad 3) cu 0 hs, hsL G.2.1 hs]) (L' := [[(z, .inl (G.2.1 4, 80, .inr (.inl sm)))], wXo G.2.1 (ad 0) (xF ad) (.ref (bs 0)) K, wSh G.2.1 (ad 1) S9, wSb G.2.1 (ad 5) ou9, wHo G.2.1 (ad 3) cu 0 hs, hsL G.2.1 hs, wSh G.2.1 bs P0]) h9 7 [4, 0, 1, 5, 2, 3, 6] rfl rfl rfl
      refine lv_bipush (v := (-79)) F.x F.b dL_isKept_98 (by decide) ?_
      refine lv_icmp_ne (tgt := 107) F.x F.b dL_isKept_100 (by decide) (fun c9 => absurd rfl c9) (fun _ => ?_)
      refine lv_iconst (v := 1) F.x F.b dL_isKept_103 (by decide) ?_
      refine lv_goto (tgt := 108) F.x F.b dL_isKept_104 (by decide) ?_
      exact eiX F w hr hlocks rfl rfl (Nat.le_of_ble_eq_true rfl) (Nat.le_of_ble_eq_true rfl) dL_isKept_108
    | succ d ih =>
      intro cu m S1 c1 t1 q1 ou Lx H locs ls hI hmm g1 hT w hl
      obtain ⟨b1, P1, ca, ta, qa, hb1, gP1, es1⟩ := hI.top
      have hm0 : 0 < m := hI.pos
      have hk9 := hI.1
      have hk8 := hI.2.1
      obtain ⟨S2, hS2⟩ := gP1.copies S1
      obtain ⟨sm2, g2⟩ := gP1.copy hS2
      refine lv_iload F.x F.b dL_isKept_29 (lv_at hl 1 rfl) ?_
      refine lv_if_le (tgt := 66) F.x F.b dL_isKept_31 (by decide) (fun c9 => absurd c9 (nI_nle (n := d + 1) (by omega) (by omega))) (fun _ => ?_)
      refine lv_iinc (v := (nI d)) (lv' := [(4, .int (nI d)), (5, .int (nI m - 1)), (3, .int (nI c)), (2, .int (nI made)), (1, .ref z), (0, .ref ((ad 0) 0))]) F.x F.b dL_isKept_34 hl (k := 1) rfl (nI_dn d) (by decide) rfl (fun ls hl => ?_)
      refine lv_aload_n F.x F.b dL_isKept_37 rfl (lv_at hl 5 rfl) ?_
      refine kLi F w hst (LC := [wXo G.2.1 (ad 0) (xF ad) (.ref (bs 0)) K, wSh G.2.1 (ad 1) S1, wHo G.2.1 (ad 3) cu (d + 1) hs, hsL G.2.1 hs]) (LR := [[(z, .inl (G.2.1 4, 80, .inr (.inl sm)))], wSb G.2.1 (ad 5) ou, wSh G.2.1 bs P0]) (As := [.ref ((ad 0) 0)]) (rest := []) (l_undo_ok F.1 hk9 hk8 (Nat.succ_ne_zero d) hb1 hS2) mh_undo vh_undo (List.mem_of_getElem? (i := 1485) (by decide +kernel)) 7 [1, 2, 4, 5, 0, 3, 6] rfl rfl rfl ⟨Nat.le_of_ble_eq_true rfl, Nat.le_of_ble_eq_true rfl⟩ rfl hl.1 rfl (Nat.le_of_ble_eq_true rfl) dL_isKept_38 ⟨Nat.le_of_ble_eq_true rfl, Nat.le_of_ble_eq_true rfl⟩ (fun r9 w1 H locs h9 w => ?_)
      obtain ⟨rfl, h9⟩ := h9
      have w := w.jn (L1 := [wXo G.2.1 (ad 0) (xF ad) (.ref (bs 0)) K, wSh G.2.1 (ad 1) S2, wHo G.2.1 (ad 3) (prv cu) d hs, hsL G.2.1 hs]) (L' := [[(z, .inl (G.2.1 4, 80, .inr (.inl sm)))], wXo G.2.1 (ad 0) (xF ad) (.ref (bs 0)) K, wSh G.2.1 (ad 1) S2, wSb G.2.1 (ad 5) ou, wHo G.2.1 (ad 3) (prv cu) d hs, hsL G.2.1 hs, wSh G.2.1 bs P0]) h9 7 [4, 0, 1, 5, 2, 3, 6] rfl rfl rfl
      refine lv_iload F.x F.b dL_isKept_41 (lv_at hl 0 rfl) ?_
      refine lv_icmp_ne (tgt := 58) F.x F.b dL_isKept_43 (by decide) (fun c9 => absurd rfl c9) (fun _ => ?_)
      refine lv_aload_n F.x F.b dL_isKept_46 rfl (lv_at hl 5 rfl) ?_
      refine kBl F w hst (LC := [wXo G.2.1 (ad 0) (xF ad) (.ref (bs 0)) K, wSh G.2.1 (ad 1) S2, wSb G.2.1 (ad 5) ou]) (LR := [[(z, .inl (G.2.1 4, 80, .inr (.inl sm)))], wHo G.2.1 (ad 3) (prv cu) d hs, hsL G.2.1 hs, wSh G.2.1 bs P0]) (As := [.ref ((ad 0) 0)]) (rest := []) (w_sum F.1 hSG pv hD g2 hT) m_L_sum v_L_sum q1167 7 [1, 2, 3, 0, 4, 5, 6] rfl rfl rfl ⟨Nat.le_of_ble_eq_true rfl, Nat.le_of_ble_eq_true rfl⟩ rfl hl.1 rfl (Nat.le_of_ble_eq_true rfl) dL_isKept_47 ⟨Nat.le_of_ble_eq_true rfl, Nat.le_of_ble_eq_true rfl⟩ (fun r9 w1 H locs h9 w => ?_)
      obtain ⟨rfl, ou9, L9, hT, h9⟩ := h9
      have w := w.jn (L1 := [wXo G.2.1 (ad 0) (xF ad) (.ref (bs 0)) K, wSh G.2.1 (ad 1) S2, wSb G.2.1 (ad 5) ou9]) (L' := [[(z, .inl (G.2.1 4, 80, .inr (.inl sm)))], wXo G.2.1 (ad 0) (xF ad) (.ref (bs 0)) K, wSh G.2.1 (ad 1) S2, wSb G.2.1 (ad 5) ou9, wHo G.2.1 (ad 3) (prv cu) d hs, hsL G.2.1 hs, wSh G.2.1 bs P0]) h9 7 [3, 0, 1, 2, 4, 5, 6] rfl rfl rfl
      refine lv_aload_n F.x F.b dL_isKept_50 rfl (lv_at hl 4 rfl) ?_
      refine lv_iload F.x F.b dL_isKept_51 (lv_at hl 1 rfl) ?_
      rw [show ((nI m - 1) : Int32) = (nI (m - 1)) from (m_one hm0)]
      refine rLl F w 0 rfl (ib_nI (by omega) (by omega)) (v := (sm (m - 1))) (by rw [nI_clamp (by omega)]) dL_isKept_53 ?_
      refine rLc F.x F.b ((sumF_same sm2).trans es1) dL_isKept_54 ?_
      refine lv_if_eq (tgt := 60) F.x F.b dL_isKept_55 (by decide) (fun _ => ?_) (fun c9 => absurd rfl c9)
      refine lv_iinc (v := (nI (m - 1) - 1)) (lv' := [(5, .int (nI (m - 1) - 1)), (4, .int (nI d)), (3, .int (nI c)), (2, .int (nI made)), (1, .ref z), (0, .ref ((ad 0) 0))]) F.x F.b dL_isKept_60 hl (k := 1) rfl (m_dec hm0) (by decide) rfl (fun ls hl => ?_)
      refine lv_goto (tgt := 29) F.x F.b dL_isKept_63 (by decide) ?_
      exact ih (prv cu) (m - 1) S2 ca ta qa ou9 L9 H locs ls hI.pop (by omega) g2 hT w (lv_sub hl [0, 1, 2, 3, 4, 5] rfl)
  exact L29 ct cu made S c t q ou L0 H locs ls hI (Nat.le_refl made) h hT w (lv_sub hl [0, 1, 2, 3, 4, 5] rfl)

/-! printed by wip/p61/tools/gen99o.py: isWhole -/
theorem q319 : Cond.methodLink RL 212 yX6_mostReleases ∈ lw_tbl := List.mem_of_getElem? (i := 319) (by decide +kernel)
theorem q353 : Cond.methodLink RL 188 yL_pick ∈ lw_tbl := List.mem_of_getElem? (i := 353) (by decide +kernel)
theorem q1289 : Cond.methodLink RL 335 yX6_dampReach ∈ lw_tbl := List.mem_of_getElem? (i := 1289) (by decide +kernel)
theorem q1302 : Cond.methodLink RL 338 yX6_dampReachByStretches ∈ lw_tbl := List.mem_of_getElem? (i := 1302) (by decide +kernel)
theorem q1349 : Cond.methodLink RL 348 yL_areLots ∈ lw_tbl := List.mem_of_getElem? (i := 1349) (by decide +kernel)
theorem q1469 : Cond.methodLink RL 352 yX6_isConsistent ∈ lw_tbl := List.mem_of_getElem? (i := 1469) (by decide +kernel)
theorem m_L_areLots : YM yL_areLots cL_areLots 14 (some (.boolean)) 1 := ⟨⟨List.mem_of_getElem? (i := 1351) (by decide +kernel), by decide +kernel⟩, List.mem_of_getElem? (i := 14) (by decide +kernel), ⟨by decide, by decide⟩, by decide +kernel⟩
theorem v_L_areLots : YS yL_areLots := (List.mem_of_getElem? (i := 1350) (by decide +kernel))
theorem m_X6_isConsistent : YM yX6_isConsistent cX6_isConsistent 1 (some (.boolean)) 0 := ⟨⟨List.mem_of_getElem? (i := 1472) (by decide +kernel), by decide +kernel⟩, List.mem_of_getElem? (i := 15) (by decide +kernel), ⟨by decide, by decide⟩, by decide +kernel⟩
theorem v_X6_isConsistent : YV yX6_isConsistent := ⟨(List.mem_of_getElem? (i := 1470) (by decide +kernel)), List.mem_of_getElem? (i := 1471) (by decide +kernel)⟩
theorem m_L_pick : YM yL_pick cL_pick 3 (some (.int)) 3 := ⟨⟨List.mem_of_getElem? (i := 355) (by decide +kernel), by decide +kernel⟩, List.mem_of_getElem? (i := 14) (by decide +kernel), ⟨by decide, by decide⟩, by decide +kernel⟩
theorem v_L_pick : YS yL_pick := (List.mem_of_getElem? (i := 354) (by decide +kernel))
theorem m_X6_mostReleases : YM yX6_mostReleases cX6_mostReleases 1 (some (.int)) 0 := ⟨⟨List.mem_of_getElem? (i := 322) (by decide +kernel), by decide +kernel⟩, List.mem_of_getElem? (i := 15) (by decide +kernel), ⟨by decide, by decide⟩, by decide +kernel⟩
theorem v_X6_mostReleases : YV yX6_mostReleases := ⟨(List.mem_of_getElem? (i := 320) (by decide +kernel)), List.mem_of_getElem? (i := 321) (by decide +kernel)⟩
theorem m_X6_dampReach : YM yX6_dampReach cX6_dampReach 1 (some (.int)) 0 := ⟨⟨List.mem_of_getElem? (i := 1292) (by decide +kernel), by decide +kernel⟩, List.mem_of_getElem? (i := 15) (by decide +kernel), ⟨by decide, by decide⟩, by decide +kernel⟩
theorem v_X6_dampReach : YV yX6_dampReach := ⟨(List.mem_of_getElem? (i := 1290) (by decide +kernel)), List.mem_of_getElem? (i := 1291) (by decide +kernel)⟩
theorem m_X6_dampReachByStretches : YM yX6_dampReachByStretches cX6_dampReachByStretches 1 (some (.int)) 0 := ⟨⟨List.mem_of_getElem? (i := 1305) (by decide +kernel), by decide +kernel⟩, List.mem_of_getElem? (i := 15) (by decide +kernel), ⟨by decide, by decide⟩, by decide +kernel⟩
theorem v_X6_dampReachByStretches : YV yX6_dampReachByStretches := ⟨(List.mem_of_getElem? (i := 1303) (by decide +kernel)), List.mem_of_getElem? (i := 1304) (by decide +kernel)⟩
/-- only the history's free place may differ -/
def HF (cu : Nat) (hs hs' : hS) : Prop := ∀ j, j ≠ cu → hs' j = hs j
theorem HF.rf (cu : Nat) (hs : hS) : HF cu hs hs := fun _ _ => rfl
theorem HF.put {cu : Nat} {hs hs' : hS} (h : HF cu hs hs') (q : (Nat → Nat) × Mem) : HF cu hs (hput hs' cu q) := fun j hj => by
  rw [hput, if_neg hj]
  exact h j hj
theorem HF.tr {cu : Nat} {hs hs1 hs2 : hS} (h : HF cu hs hs1) (g : HF cu hs1 hs2) : HF cu hs hs2 := fun j hj => (g j hj).trans (h j hj)
theorem ne75 {y : Nat} (h : y < 2 ^ 31) : ¬ nI y = -75 := by
  intro e
  have h1 := congrArg Int32.toInt e
  rw [nI_toInt h, show ((-75 : Int32)).toInt = -75 from by decide] at h1
  omega
theorem min99 {a g : Nat} (h : g = if a < 9999 then a else 9999) (ha : a < 2 ^ 30) : (if (nI a : Int32) < 9999 then nI a else 9999) = nI g := by
  rw [h, li_9999]
  by_cases e : a < 9999
  · rw [if_pos e, if_pos (by rw [nI_ltI (by omega) (by omega)]; exact e)]
  · rw [if_neg e, if_neg (by rw [nI_ltI (by omega) (by omega)]; exact e)]
theorem qfull {N : Nat} {S : Mem} {c t q i : Nat} (h : Gd N S c t q) (hi : i < q) : f_X4_queueLot S (S.2 9 i) = some (numE eISE, S) := by
  have hq := h.q16
  have hc := h.c16
  obtain ⟨p, hp, ep⟩ := h.Q.1 i hi
  have hs : f_X3_slotWith S (S.2 9 i) = some (nI p) := by
    rw [← ep]
    exact h.slot hp
  have e : f_X0_append S (S.2 9 i) = some (numE eISE, S) := by
    rw [f_X0_append, h.q1]
    by_cases g : q = 16
    · rw [if_pos (by rw [g]; decide)]
      rfl
    · rw [li_16, if_neg (nI_ge (by omega) (by omega)), c_queue h.q1 hq, ob]
      rcases fnd_at (g := S.2 9) (x := S.2 9 i) (c := q) with ⟨k1, k2⟩ | ⟨j, k1, k2, -⟩
      · exact absurd rfl (k2 i hi)
      · rw [show quc S q (S.2 9 i) = some j from k1, oi_s, if_neg (nI_pos (by omega))]
        rfl
  rw [f_X4_queueLot, hs, ob, if_pos (nI_pos' (by omega)), e, ob]
set_option maxRecDepth 100000 in
set_option maxHeartbeats 4000000 in
theorem w_isWhole {G : cG} (g : GOK G) (gM : MG G) (hNC : NcG G) {b L : Nat} {xs : Nat → Int32} (hXS : XS G b L xs) {ad : Nat → Nat → Nat} {svx : Value} {K S Fc B D : Mem} {cu ct : Nat} {hs : hS} {N c t q k : Nat} {f : Int32} (h : Gd N S c t q) (hN : N < 2 ^ 30) (k1 : cu < 9) (hk : k < 2 ^ 29) (hf : f = 0 ∨ f = 1) : CX G yL_isWhole cL_isWhole 13 .boolean 10 166 300 3000 [.ref ((ad 0) 0), .ref b, .int (nI k), .int f] (fl [wXo G.2.1 (ad 0) (xF ad) svx K, wSh G.2.1 (ad 1) S, wSh G.2.1 (ad 2) Fc, wAb G.2.1 (ad 7) B, wAd G.2.1 (ad 6) D, wHo G.2.1 (ad 3) cu ct hs, hsL G.2.1 hs]) (fun r9 w1 => r9 = 1 ∧ ∃ (F9 B9 D9 : Mem) (hs9 : hS), HF cu hs hs9 ∧ w1 = fl [wXo G.2.1 (ad 0) (xF ad) svx K, wSh G.2.1 (ad 1) S, wSh G.2.1 (ad 2) F9, wAb G.2.1 (ad 7) B9, wAd G.2.1 (ad 6) D9, wHo G.2.1 (ad 3) cu ct hs9, hsL G.2.1 hs9]) NX := by
  refine CX.of g (by decide) rfl (Nat.le_of_ble_eq_true rfl) ?_
  intro p l e s m below meth cm A ls hst htab F hr hlocks w hl
  generalize ([.ref ((ad 0) 0), .ref b, .int (nI k), .int f] : List Value).toArray = args
  have hl : lv_has ls 13 [(0, .ref ((ad 0) 0)), (1, .ref b), (2, .int (nI k)), (3, .int f)] := hl
  have w : Wd G A s.heap (fl [wXo G.2.1 (ad 0) (xF ad) svx K, wSh G.2.1 (ad 1) S, wSh G.2.1 (ad 2) Fc, wAb G.2.1 (ad 7) B, wAd G.2.1 (ad 6) D, wHo G.2.1 (ad 3) cu ct hs, hsL G.2.1 hs]) _ _ := w
  have hc16 := h.c16
  have ht6 := h.t6
  have hq16 := h.q16
  obtain ⟨PP, hPP⟩ : ∃ PP : Int32 → va_W → Prop, PP = (fun r9 w1 => r9 = 1 ∧ ∃ (F9 B9 D9 : Mem) (hs9 : hS), HF cu hs hs9 ∧ w1 = fl [wXo G.2.1 (ad 0) (xF ad) svx K, wSh G.2.1 (ad 1) S, wSh G.2.1 (ad 2) F9, wAb G.2.1 (ad 7) B9, wAd G.2.1 (ad 6) D9, wHo G.2.1 (ad 3) cu ct hs9, hsL G.2.1 hs9]) := ⟨_, rfl⟩
  rw [← hPP]
  have K486 : ∀ (cells slots : Nat) (Fc B D : Mem) (hs1 : hS) (H : Heap) (locs : List Loc) (ls : Array Slot), cells ≤ 250 → slots ≤ 2800 → HF cu hs hs1 → Wd G A s.heap (fl [wXo G.2.1 (ad 0) (xF ad) svx K, wSh G.2.1 (ad 1) S, wSh G.2.1 (ad 2) Fc, wAb G.2.1 (ad 7) B, wAd G.2.1 (ad 6) D, wHo G.2.1 (ad 3) cu ct hs1, hsL G.2.1 hs1]) H locs → lv_has ls 13 [(0, .ref ((ad 0) 0)), (1, .ref b), (2, .int (nI k)), (3, .int f)] → W p l e { frames := 10, cells := 300, slots := 3000, locals := 166 } s m args below meth cm H locs cells slots (XI G A PP NX 300 3000 below args s) (F0 m 486 ls []) := by
    intro cells slots Fc B D hs1 H locs ls hc9 hs9 hF w hl
    refine lv_iconst (v := 1) F.x F.b dL_isWhole_486 (by decide) ?_
    refine lv_goto (tgt := 491) F.x F.b dL_isWhole_487 (by decide) ?_
    exact eiX F w hr hlocks rfl (hPP ▸ ⟨rfl, Fc, B, D, hs1, hF, rfl⟩) (by omega) (by omega) dL_isWhole_491
  have K433 : ∀ (sm : Nat), sm < 10000 → ∀ (cells slots : Nat) (Fc B D : Mem) (hs1 : hS) (H : Heap) (locs : List Loc) (ls : Array Slot), cells ≤ 246 → slots ≤ 2700 → HF cu hs hs1 → Wd G A s.heap (fl [wXo G.2.1 (ad 0) (xF ad) svx K, wSh G.2.1 (ad 1) S, wSh G.2.1 (ad 2) Fc, wAb G.2.1 (ad 7) B, wAd G.2.1 (ad 6) D, wHo G.2.1 (ad 3) cu ct hs1, hsL G.2.1 hs1]) H locs → lv_has ls 13 [(12, .int 1), (10, .int 1), (9, .int 1), (6, .int (nI sm)), (5, .int 1), (0, .ref ((ad 0) 0)), (1, .ref b), (2, .int (nI k)), (3, .int f)] → W p l e { frames := 10, cells := 300, slots := 3000, locals := 166 } s m args below meth cm H locs cells slots (XI G A PP NX 300 3000 below args s) (F0 m 433 ls []) := by
    intro sm hsm
    intro cells slots Fc B D hs1 H locs ls hc9 hs9 hF w hl
    refine lv_iload F.x F.b dL_isWhole_433 (lv_at hl 4 rfl) ?_
    refine lv_if_eq (tgt := 490) F.x F.b dL_isWhole_435 (by decide) (fun c9 => absurd c9 (by decide)) (fun _ => ?_)
    refine lv_iload F.x F.b dL_isWhole_438 (lv_at hl 2 rfl) ?_
    refine lv_if_eq (tgt := 490) F.x F.b dL_isWhole_440 (by decide) (fun c9 => absurd c9 (by decide)) (fun _ => ?_)
    refine lv_iload F.x F.b dL_isWhole_443 (lv_at hl 1 rfl) ?_
    refine lv_if_eq (tgt := 490) F.x F.b dL_isWhole_445 (by decide) (fun c9 => absurd c9 (by decide)) (fun _ => ?_)
    refine lv_iload F.x F.b dL_isWhole_448 (lv_at hl 0 rfl) ?_
    refine lv_if_eq (tgt := 490) F.x F.b dL_isWhole_450 (by decide) (fun c9 => absurd c9 (by decide)) (fun _ => ?_)
    refine lv_iload_n F.x F.b dL_isWhole_453 rfl (lv_at hl 8 rfl) ?_
    rcases hf with hf0 | hf0
    · refine lv_if_eq (tgt := 486) F.x F.b dL_isWhole_454 (by decide) (fun _ => ?_) (fun c9 => absurd hf0 c9)
      exact K486 _ _ Fc B D hs1 H locs ls (by omega) (by omega) hF w (lv_sub hl [5, 6, 7, 8] rfl)
    · refine lv_if_eq (tgt := 486) F.x F.b dL_isWhole_454 (by decide) (fun c9 => absurd c9 (by rw [hf0]; decide)) (fun _ => ?_)
      refine lv_aload_n F.x F.b dL_isWhole_457 rfl (lv_at hl 5 rfl) ?_
      refine kBi F w hst (LC := [wXo G.2.1 (ad 0) (xF ad) svx K, wSh G.2.1 (ad 1) S]) (LR := [wSh G.2.1 (ad 2) Fc, wAb G.2.1 (ad 7) B, wAd G.2.1 (ad 6) D, wHo G.2.1 (ad 3) cu ct hs1, hsL G.2.1 hs1]) (As := [.ref ((ad 0) 0)]) (rest := []) (w_areLots F.1 gM hNC h hN) m_L_areLots v_L_areLots q1349 7 [0, 1, 2, 3, 4, 5, 6] rfl rfl rfl ⟨Nat.le_of_ble_eq_true rfl, Nat.le_of_ble_eq_true rfl⟩ rfl hl.1 rfl (Nat.le_of_ble_eq_true rfl) dL_isWhole_458 ⟨by show _ ≤ 300; omega, by show _ ≤ 3000; omega⟩ (fun r9 w1 H locs h9 w => ?_)
      obtain ⟨rfl, h9⟩ := h9
      have w := w.jn (L1 := [wXo G.2.1 (ad 0) (xF ad) svx K, wSh G.2.1 (ad 1) S]) (L' := [wXo G.2.1 (ad 0) (xF ad) svx K, wSh G.2.1 (ad 1) S, wSh G.2.1 (ad 2) Fc, wAb G.2.1 (ad 7) B, wAd G.2.1 (ad 6) D, wHo G.2.1 (ad 3) cu ct hs1, hsL G.2.1 hs1]) h9 7 [0, 1, 2, 3, 4, 5, 6] rfl rfl rfl
      refine lv_if_eq (tgt := 490) F.x F.b dL_isWhole_461 (by decide) (fun c9 => absurd c9 (by decide)) (fun _ => ?_)
      refine lv_aload_n F.x F.b dL_isWhole_464 rfl (lv_at hl 5 rfl) ?_
      refine lv_iload F.x F.b dL_isWhole_465 (lv_at hl 3 rfl) ?_
      refine kLi F w hst (LC := [wXo G.2.1 (ad 0) (xF ad) svx K, wSh G.2.1 (ad 1) S]) (LR := [wSh G.2.1 (ad 2) Fc, wAb G.2.1 (ad 7) B, wAd G.2.1 (ad 6) D, wHo G.2.1 (ad 3) cu ct hs1, hsL G.2.1 hs1]) (As := [.ref ((ad 0) 0), .int (nI sm)]) (rest := []) (l_dutyOnByCoins_ok F.1 (rng99 (by omega)) (h.parts (v := sm) (by omega)).2) mh_dutyOnByCoins vh_dutyOnByCoins (List.mem_of_getElem? (i := 1374) (by decide +kernel)) 7 [0, 1, 2, 3, 4, 5, 6] rfl rfl rfl ⟨Nat.le_of_ble_eq_true rfl, Nat.le_of_ble_eq_true rfl⟩ rfl hl.1 rfl (Nat.le_of_ble_eq_true rfl) dL_isWhole_467 ⟨by show _ ≤ 300; omega, by show _ ≤ 3000; omega⟩ (fun r9 w1 H locs h9 w => ?_)
      obtain ⟨rfl, h9⟩ := h9
      have w := w.jn (L1 := [wXo G.2.1 (ad 0) (xF ad) svx K, wSh G.2.1 (ad 1) S]) (L' := [wXo G.2.1 (ad 0) (xF ad) svx K, wSh G.2.1 (ad 1) S, wSh G.2.1 (ad 2) Fc, wAb G.2.1 (ad 7) B, wAd G.2.1 (ad 6) D, wHo G.2.1 (ad 3) cu ct hs1, hsL G.2.1 hs1]) h9 7 [0, 1, 2, 3, 4, 5, 6] rfl rfl rfl
      refine lv_aload_n F.x F.b dL_isWhole_470 rfl (lv_at hl 5 rfl) ?_
      refine lv_iload F.x F.b dL_isWhole_471 (lv_at hl 3 rfl) ?_
      refine kLi F w hst (LC := [wXo G.2.1 (ad 0) (xF ad) svx K, wSh G.2.1 (ad 1) S]) (LR := [wSh G.2.1 (ad 2) Fc, wAb G.2.1 (ad 7) B, wAd G.2.1 (ad 6) D, wHo G.2.1 (ad 3) cu ct hs1, hsL G.2.1 hs1]) (As := [.ref ((ad 0) 0), .int (nI sm)]) (rest := [.int (nI (dty S t sm))]) (l_dutyOn_ok F.1 (rng99 (by omega)) (h.parts (v := sm) (by omega)).1) mh_dutyOn vh_dutyOn (List.mem_of_getElem? (i := 1312) (by decide +kernel)) 7 [0, 1, 2, 3, 4, 5, 6] rfl rfl rfl ⟨Nat.le_of_ble_eq_true rfl, Nat.le_of_ble_eq_true rfl⟩ rfl hl.1 rfl (Nat.le_of_ble_eq_true rfl) dL_isWhole_473 ⟨by show _ ≤ 300; omega, by show _ ≤ 3000; omega⟩ (fun r9 w1 H locs h9 w => ?_)
      obtain ⟨rfl, h9⟩ := h9
      have w := w.jn (L1 := [wXo G.2.1 (ad 0) (xF ad) svx K, wSh G.2.1 (ad 1) S]) (L' := [wXo G.2.1 (ad 0) (xF ad) svx K, wSh G.2.1 (ad 1) S, wSh G.2.1 (ad 2) Fc, wAb G.2.1 (ad 7) B, wAd G.2.1 (ad 6) D, wHo G.2.1 (ad 3) cu ct hs1, hsL G.2.1 hs1]) h9 7 [0, 1, 2, 3, 4, 5, 6] rfl rfl rfl
      refine lv_icmp_ne (tgt := 490) F.x F.b dL_isWhole_476 (by decide) (fun c9 => absurd rfl c9) (fun _ => ?_)
      refine lv_aload_n F.x F.b dL_isWhole_479 rfl (lv_at hl 5 rfl) ?_
      obtain ⟨B1, hB1⟩ := h.reachQ B
      refine kXi F w hst (LC := [wXo G.2.1 (ad 0) (xF ad) svx K, wSh G.2.1 (ad 1) S, wAb G.2.1 (ad 7) B]) (LR := [wSh G.2.1 (ad 2) Fc, wAd G.2.1 (ad 6) D, wHo G.2.1 (ad 3) cu ct hs1, hsL G.2.1 hs1]) (As := []) (rest := []) ((t_X6_isConsistent F.1 (x := ad 0) (a := ad 1) (ba := ad 7) (rf := xF ad) (sv := svx) rfl (rfl : (xF ad) 6 = (ad 7) 0) (show f_X6_isConsistent K S B = some (1, B1) from by rw [f_X6_isConsistent, h.total.2.2, ob, if_neg (by decide), h.total.1, ob, h.total.2.1, ob, if_pos rfl, hB1, ob]; dsimp only; rw [h.reach, ob, if_pos rfl])).toX : CX G yX6_isConsistent cX6_isConsistent 1 .boolean 4 90 0 0 [.ref ((ad 0) 0)] (fl [wXo G.2.1 (ad 0) (xF ad) svx K, wSh G.2.1 (ad 1) S, wAb G.2.1 (ad 7) B]) _ _) m_X6_isConsistent v_X6_isConsistent q1469 (ci := 10) (q0 := 0) rfl rfl rfl 7 [0, 1, 3, 2, 4, 5, 6] rfl rfl rfl ⟨Nat.le_of_ble_eq_true rfl, Nat.le_of_ble_eq_true rfl⟩ rfl hl.1 rfl (Nat.le_of_ble_eq_true rfl) dL_isWhole_480 ⟨by show _ ≤ 300; omega, by show _ ≤ 3000; omega⟩ (fun _ _ _ _ _ _ hx => False.elim hx) (fun r9 w1 H locs h9 w => ?_)
      obtain ⟨rfl, h9⟩ := h9
      have w := w.jn (L1 := [wXo G.2.1 (ad 0) (xF ad) svx K, wSh G.2.1 (ad 1) S, wAb G.2.1 (ad 7) B1]) (L' := [wXo G.2.1 (ad 0) (xF ad) svx K, wSh G.2.1 (ad 1) S, wSh G.2.1 (ad 2) Fc, wAb G.2.1 (ad 7) B1, wAd G.2.1 (ad 6) D, wHo G.2.1 (ad 3) cu ct hs1, hsL G.2.1 hs1]) h9 7 [0, 1, 3, 2, 4, 5, 6] rfl rfl rfl
      refine lv_if_eq (tgt := 490) F.x F.b dL_isWhole_483 (by decide) (fun c9 => absurd c9 (by decide)) (fun _ => ?_)
      exact K486 _ _ Fc B1 D hs1 H locs ls (by omega) (by omega) hF w (lv_sub hl [5, 6, 7, 8] rfl)
  have K393 : ∀ (sm : Nat), sm < 10000 → ∀ (cells slots : Nat) (Fc B D : Mem) (hs1 : hS) (H : Heap) (locs : List Loc) (ls : Array Slot), cells ≤ 240 → slots ≤ 2680 → HF cu hs hs1 → Wd G A s.heap (fl [wXo G.2.1 (ad 0) (xF ad) svx K, wSh G.2.1 (ad 1) S, wSh G.2.1 (ad 2) Fc, wAb G.2.1 (ad 7) B, wAd G.2.1 (ad 6) D, wHo G.2.1 (ad 3) cu ct hs1, hsL G.2.1 hs1]) H locs → lv_has ls 13 [(10, .int 1), (9, .int 1), (6, .int (nI sm)), (5, .int 1), (0, .ref ((ad 0) 0)), (1, .ref b), (2, .int (nI k)), (3, .int f)] → W p l e { frames := 10, cells := 300, slots := 3000, locals := 166 } s m args below meth cm H locs cells slots (XI G A PP NX 300 3000 below args s) (F0 m 393 ls []) := by
    intro sm hsm
    intro cells slots Fc B D hs1 H locs ls hc9 hs9 hF w hl
    refine lv_aload_n F.x F.b dL_isWhole_393 rfl (lv_at hl 4 rfl) ?_
    refine lv_aload_n F.x F.b dL_isWhole_394 rfl (lv_at hl 5 rfl) ?_
    refine lv_iload_n F.x F.b dL_isWhole_395 rfl (lv_at hl 6 rfl) ?_
    refine lv_iconst (v := 3) F.x F.b dL_isWhole_396 (by decide) ?_
    refine lv_iadd F.x F.b dL_isWhole_397 ?_
    rw [show (((nI k) + 3) : Int32) = (nI (k + 3)) from (nI_add k 3)]
    refine lv_bipush (v := 24) F.x F.b dL_isWhole_398 (by decide) ?_
    rw [show (24 : Int32) = (nI 24) from rfl]
    refine kBi F w hst (LC := []) (LR := [wXo G.2.1 (ad 0) (xF ad) svx K, wSh G.2.1 (ad 1) S, wSh G.2.1 (ad 2) Fc, wAb G.2.1 (ad 7) B, wAd G.2.1 (ad 6) D, wHo G.2.1 (ad 3) cu ct hs1, hsL G.2.1 hs1]) (As := [.ref b, .int (nI (k + 3)), .int (nI 24)]) (rest := [.ref ((ad 0) 0)]) (w_pick F.1 hXS (k := k + 3) (n := 24) (by omega) (by omega) (by omega)) m_L_pick v_L_pick q353 7 [0, 1, 2, 3, 4, 5, 6] rfl rfl rfl ⟨Nat.le_of_ble_eq_true rfl, Nat.le_of_ble_eq_true rfl⟩ rfl hl.1 rfl (Nat.le_of_ble_eq_true rfl) dL_isWhole_400 ⟨by show _ ≤ 300; omega, by show _ ≤ 3000; omega⟩ (fun r9 w1 H locs h9 w => ?_)
    obtain ⟨⟨eb, heb, rfl⟩, h9⟩ := h9
    have w := w.jn (L1 := []) (L' := [wXo G.2.1 (ad 0) (xF ad) svx K, wSh G.2.1 (ad 1) S, wSh G.2.1 (ad 2) Fc, wAb G.2.1 (ad 7) B, wAd G.2.1 (ad 6) D, wHo G.2.1 (ad 3) cu ct hs1, hsL G.2.1 hs1]) h9 7 [0, 1, 2, 3, 4, 5, 6] rfl rfl rfl
    refine kLi F w hst (LC := [wXo G.2.1 (ad 0) (xF ad) svx K, wSh G.2.1 (ad 1) S]) (LR := [wSh G.2.1 (ad 2) Fc, wAb G.2.1 (ad 7) B, wAd G.2.1 (ad 6) D, wHo G.2.1 (ad 3) cu ct hs1, hsL G.2.1 hs1]) (As := [.ref ((ad 0) 0), .int (nI eb)]) (rest := []) (l_nextEmptyBay F.1 gM hNC heb h.at24) mh_nextEmptyBay vh_nextEmptyBay (List.mem_of_getElem? (i := 1332) (by decide +kernel)) 7 [0, 1, 2, 3, 4, 5, 6] rfl rfl rfl ⟨Nat.le_of_ble_eq_true rfl, Nat.le_of_ble_eq_true rfl⟩ rfl hl.1 rfl (Nat.le_of_ble_eq_true rfl) dL_isWhole_403 ⟨by show _ ≤ 300; omega, by show _ ≤ 3000; omega⟩ (fun r9 w1 H locs h9 w => ?_)
    obtain ⟨h9, hr9⟩ := h9
    have w := w.jn (L1 := [wXo G.2.1 (ad 0) (xF ad) svx K, wSh G.2.1 (ad 1) S]) (L' := [wXo G.2.1 (ad 0) (xF ad) svx K, wSh G.2.1 (ad 1) S, wSh G.2.1 (ad 2) Fc, wAb G.2.1 (ad 7) B, wAd G.2.1 (ad 6) D, wHo G.2.1 (ad 3) cu ct hs1, hsL G.2.1 hs1]) h9 7 [0, 1, 2, 3, 4, 5, 6] rfl rfl rfl
    refine lv_istore (lv' := [(11, .int r9), (10, .int 1), (9, .int 1), (6, .int (nI sm)), (5, .int 1), (0, .ref ((ad 0) 0)), (1, .ref b), (2, .int (nI k)), (3, .int f)]) F.x F.b dL_isWhole_406 hl (by decide) rfl (fun ls hl => ?_)
    refine lv_iload F.x F.b dL_isWhole_408 (lv_at hl 0 rfl) ?_
    refine lv_bipush (v := (-75)) F.x F.b dL_isWhole_410 (by decide) ?_
    rcases hr9 with hr9 | ⟨y9, hy1, hy2, hr9⟩
    · subst hr9
      refine lv_icmp_eq (tgt := 426) F.x F.b dL_isWhole_412 (by decide) (fun _ => ?_) (fun c9 => absurd rfl c9)
      refine lv_iconst (v := 1) F.x F.b dL_isWhole_426 (by decide) ?_
      refine lv_goto (tgt := 431) F.x F.b dL_isWhole_427 (by decide) ?_
      refine lv_istore (lv' := [(12, .int 1), (11, .int (-75)), (10, .int 1), (9, .int 1), (6, .int (nI sm)), (5, .int 1), (0, .ref ((ad 0) 0)), (1, .ref b), (2, .int (nI k)), (3, .int f)]) F.x F.b dL_isWhole_431 hl (by decide) rfl (fun ls hl => ?_)
      exact K433 sm hsm _ _ Fc B D hs1 H locs ls (by omega) (by omega) hF w (lv_sub hl [0, 2, 3, 4, 5, 6, 7, 8, 9] rfl)
    · subst hr9
      refine lv_icmp_eq (tgt := 426) F.x F.b dL_isWhole_412 (by decide) (fun c9 => absurd c9 (ne75 (by omega))) (fun _ => ?_)
      refine lv_aload_n F.x F.b dL_isWhole_415 rfl (lv_at hl 5 rfl) ?_
      refine lv_iload F.x F.b dL_isWhole_416 (lv_at hl 0 rfl) ?_
      refine kLi F w hst (LC := [wXo G.2.1 (ad 0) (xF ad) svx K, wSh G.2.1 (ad 1) S]) (LR := [wSh G.2.1 (ad 2) Fc, wAb G.2.1 (ad 7) B, wAd G.2.1 (ad 6) D, wHo G.2.1 (ad 3) cu ct hs1, hsL G.2.1 hs1]) (As := [.ref ((ad 0) 0), .int (nI y9)]) (rest := []) (l_lotAt_no F.1 gM hNC hy1 hy2) mh_lotAt vh_lotAt (List.mem_of_getElem? (i := 1341) (by decide +kernel)) 7 [0, 1, 2, 3, 4, 5, 6] rfl rfl rfl ⟨Nat.le_of_ble_eq_true rfl, Nat.le_of_ble_eq_true rfl⟩ rfl hl.1 rfl (Nat.le_of_ble_eq_true rfl) dL_isWhole_418 ⟨by show _ ≤ 300; omega, by show _ ≤ 3000; omega⟩ (fun r9 w1 H locs h9 w => ?_)
      obtain ⟨rfl, h9⟩ := h9
      have w := w.jn (L1 := [wXo G.2.1 (ad 0) (xF ad) svx K, wSh G.2.1 (ad 1) S]) (L' := [wXo G.2.1 (ad 0) (xF ad) svx K, wSh G.2.1 (ad 1) S, wSh G.2.1 (ad 2) Fc, wAb G.2.1 (ad 7) B, wAd G.2.1 (ad 6) D, wHo G.2.1 (ad 3) cu ct hs1, hsL G.2.1 hs1]) h9 7 [0, 1, 2, 3, 4, 5, 6] rfl rfl rfl
      refine lv_bipush (v := (-75)) F.x F.b dL_isWhole_421 (by decide) ?_
      refine lv_icmp_ne (tgt := 430) F.x F.b dL_isWhole_423 (by decide) (fun c9 => absurd rfl c9) (fun _ => ?_)
      refine lv_iconst (v := 1) F.x F.b dL_isWhole_426 (by decide) ?_
      refine lv_goto (tgt := 431) F.x F.b dL_isWhole_427 (by decide) ?_
      refine lv_istore (lv' := [(12, .int 1), (11, .int (nI y9)), (10, .int 1), (9, .int 1), (6, .int (nI sm)), (5, .int 1), (0, .ref ((ad 0) 0)), (1, .ref b), (2, .int (nI k)), (3, .int f)]) F.x F.b dL_isWhole_431 hl (by decide) rfl (fun ls hl => ?_)
      exact K433 sm hsm _ _ Fc B D hs1 H locs ls (by omega) (by omega) hF w (lv_sub hl [0, 2, 3, 4, 5, 6, 7, 8, 9] rfl)
  have L299 : ∀ (sm : Nat), sm < 10000 → ∀ (d i : Nat), i + d = q → ∀ (cells slots : Nat) (Fc B D : Mem) (hs1 : hS) (H : Heap) (locs : List Loc) (ls : Array Slot), cells ≤ 15 * i → slots ≤ 167 * i → HF cu hs hs1 → Wd G A s.heap (fl [wXo G.2.1 (ad 0) (xF ad) svx K, wSh G.2.1 (ad 1) S, wSh G.2.1 (ad 2) Fc, wAb G.2.1 (ad 7) B, wAd G.2.1 (ad 6) D, wHo G.2.1 (ad 3) cu ct hs1, hsL G.2.1 hs1]) H locs → lv_has ls 13 [(11, .int (nI i)), (10, .int 1), (9, .int 1), (6, .int (nI sm)), (5, .int 1), (0, .ref ((ad 0) 0)), (1, .ref b), (2, .int (nI k)), (3, .int f)] → W p l e { frames := 10, cells := 300, slots := 3000, locals := 166 } s m args below meth cm H locs cells slots (XI G A PP NX 300 3000 below args s) (F0 m 299 ls []) := by
    intro sm hsm d
    induction d with
    | zero =>
      intro i hi cells slots Fc B D hs1 H locs ls hc9 hs9 hF w hl
      refine lv_iload F.x F.b dL_isWhole_299 (lv_at hl 0 rfl) ?_
      refine lv_aload_n F.x F.b dL_isWhole_301 rfl (lv_at hl 5 rfl) ?_
      refine kXi F w hst (LC := [wXo G.2.1 (ad 0) (xF ad) svx K, wSh G.2.1 (ad 1) S]) (LR := [wSh G.2.1 (ad 2) Fc, wAb G.2.1 (ad 7) B, wAd G.2.1 (ad 6) D, wHo G.2.1 (ad 3) cu ct hs1, hsL G.2.1 hs1]) (As := []) (rest := [.int (nI i)]) ((t_X6_queueLength F.1 (x := ad 0) (a := ad 1) (rf := xF ad) (sv := svx) rfl (show f_X6_queueLength K S = some (S.1 7) from rfl)).toX : CX G yX6_queueLength cX6_queueLength 1 .int 0 0 0 0 [.ref ((ad 0) 0)] (fl [wXo G.2.1 (ad 0) (xF ad) svx K, wSh G.2.1 (ad 1) S]) _ _) m_X6_queueLength v_X6_queueLength q307 (ci := 10) (q0 := 0) rfl rfl rfl 7 [0, 1, 2, 3, 4, 5, 6] rfl rfl rfl ⟨Nat.le_of_ble_eq_true rfl, Nat.le_of_ble_eq_true rfl⟩ rfl hl.1 rfl (Nat.le_of_ble_eq_true rfl) dL_isWhole_302 ⟨by show _ ≤ 300; omega, by show _ ≤ 3000; omega⟩ (fun _ _ _ _ _ _ hx => False.elim hx) (fun r9 w1 H locs h9 w => ?_)
      obtain ⟨rfl, h9⟩ := h9
      have w := w.jn (L1 := [wXo G.2.1 (ad 0) (xF ad) svx K, wSh G.2.1 (ad 1) S]) (L' := [wXo G.2.1 (ad 0) (xF ad) svx K, wSh G.2.1 (ad 1) S, wSh G.2.1 (ad 2) Fc, wAb G.2.1 (ad 7) B, wAd G.2.1 (ad 6) D, wHo G.2.1 (ad 3) cu ct hs1, hsL G.2.1 hs1]) h9 7 [0, 1, 2, 3, 4, 5, 6] rfl rfl rfl
      rw [show ((S.1 7) : Int32) = (nI q) from h.q1]
      refine lv_icmp_ge (tgt := 393) F.x F.b dL_isWhole_305 (by decide) (fun _ => ?_) (fun c9 => absurd (nI_le (a := q) (b := i) (by omega) (by omega)) c9)
      exact K393 sm hsm _ _ Fc B D hs1 H locs ls (by omega) (by omega) hF w (lv_sub hl [1, 2, 3, 4, 5, 6, 7, 8] rfl)
    | succ d ih =>
      intro i hi cells slots Fc B D hs1 H locs ls hc9 hs9 hF w hl
      refine lv_iload F.x F.b dL_isWhole_299 (lv_at hl 0 rfl) ?_
      refine lv_aload_n F.x F.b dL_isWhole_301 rfl (lv_at hl 5 rfl) ?_
      refine kXi F w hst (LC := [wXo G.2.1 (ad 0) (xF ad) svx K, wSh G.2.1 (ad 1) S]) (LR := [wSh G.2.1 (ad 2) Fc, wAb G.2.1 (ad 7) B, wAd G.2.1 (ad 6) D, wHo G.2.1 (ad 3) cu ct hs1, hsL G.2.1 hs1]) (As := []) (rest := [.int (nI i)]) ((t_X6_queueLength F.1 (x := ad 0) (a := ad 1) (rf := xF ad) (sv := svx) rfl (show f_X6_queueLength K S = some (S.1 7) from rfl)).toX : CX G yX6_queueLength cX6_queueLength 1 .int 0 0 0 0 [.ref ((ad 0) 0)] (fl [wXo G.2.1 (ad 0) (xF ad) svx K, wSh G.2.1 (ad 1) S]) _ _) m_X6_queueLength v_X6_queueLength q307 (ci := 10) (q0 := 0) rfl rfl rfl 7 [0, 1, 2, 3, 4, 5, 6] rfl rfl rfl ⟨Nat.le_of_ble_eq_true rfl, Nat.le_of_ble_eq_true rfl⟩ rfl hl.1 rfl (Nat.le_of_ble_eq_true rfl) dL_isWhole_302 ⟨by show _ ≤ 300; omega, by show _ ≤ 3000; omega⟩ (fun _ _ _ _ _ _ hx => False.elim hx) (fun r9 w1 H locs h9 w => ?_)
      obtain ⟨rfl, h9⟩ := h9
      have w := w.jn (L1 := [wXo G.2.1 (ad 0) (xF ad) svx K, wSh G.2.1 (ad 1) S]) (L' := [wXo G.2.1 (ad 0) (xF ad) svx K, wSh G.2.1 (ad 1) S, wSh G.2.1 (ad 2) Fc, wAb G.2.1 (ad 7) B, wAd G.2.1 (ad 6) D, wHo G.2.1 (ad 3) cu ct hs1, hsL G.2.1 hs1]) h9 7 [0, 1, 2, 3, 4, 5, 6] rfl rfl rfl
      rw [show ((S.1 7) : Int32) = (nI q) from h.q1]
      refine lv_icmp_ge (tgt := 393) F.x F.b dL_isWhole_305 (by decide) (fun c9 => absurd c9 (nI_ge (a := i) (b := q) (by omega) (by omega))) (fun _ => ?_)
      have hiq : i < q := by omega
      obtain ⟨pq, hpq, epq⟩ := h.Q.1 i hiq
      have hslq : f_X3_slotWith S (S.2 9 i) = some (nI pq) := by rw [← epq]; exact h.slot hpq
      obtain ⟨kq, k1q, k2q, ekq⟩ := h.qty hpq
      have L311 : ∀ (d2 j : Nat), j + d2 = i → ∀ (cells slots : Nat) (H : Heap) (locs : List Loc) (ls : Array Slot), cells ≤ 15 * i → slots ≤ 167 * i → Wd G A s.heap (fl [wXo G.2.1 (ad 0) (xF ad) svx K, wSh G.2.1 (ad 1) S, wSh G.2.1 (ad 2) Fc, wAb G.2.1 (ad 7) B, wAd G.2.1 (ad 6) D, wHo G.2.1 (ad 3) cu ct hs1, hsL G.2.1 hs1]) H locs → lv_has ls 13 [(12, .int (nI j)), (11, .int (nI i)), (10, .int 1), (9, .int 1), (6, .int (nI sm)), (5, .int 1), (0, .ref ((ad 0) 0)), (1, .ref b), (2, .int (nI k)), (3, .int f)] → W p l e { frames := 10, cells := 300, slots := 3000, locals := 166 } s m args below meth cm H locs cells slots (XI G A PP NX 300 3000 below args s) (F0 m 311 ls []) := by
        clear w hl
        intro d2
        induction d2 with
        | zero =>
          intro j hj cells slots H locs ls hc9 hs9 w hl
          refine lv_iload F.x F.b dL_isWhole_311 (lv_at hl 0 rfl) ?_
          refine lv_iload F.x F.b dL_isWhole_313 (lv_at hl 1 rfl) ?_
          refine lv_icmp_ge (tgt := 349) F.x F.b dL_isWhole_315 (by decide) (fun _ => ?_) (fun c9 => absurd (nI_le (a := i) (b := j) (by omega) (by omega)) c9)
          refine lv_iload F.x F.b dL_isWhole_349 (lv_at hl 2 rfl) ?_
          refine lv_aload_n F.x F.b dL_isWhole_351 rfl (lv_at hl 6 rfl) ?_
          refine lv_aload_n F.x F.b dL_isWhole_352 rfl (lv_at hl 6 rfl) ?_
          refine lv_iload F.x F.b dL_isWhole_353 (lv_at hl 1 rfl) ?_
          refine kLi F w hst (LC := [wXo G.2.1 (ad 0) (xF ad) svx K, wSh G.2.1 (ad 1) S]) (LR := [wSh G.2.1 (ad 2) Fc, wAb G.2.1 (ad 7) B, wAd G.2.1 (ad 6) D, wHo G.2.1 (ad 3) cu ct hs1, hsL G.2.1 hs1]) (As := [.ref ((ad 0) 0), .int (nI i)]) (rest := [.ref ((ad 0) 0), .int 1]) (l_queued_ok F.1 h.q1 (kk := i) hiq hq16) mh_queued vh_queued (List.mem_of_getElem? (i := 597) (by decide +kernel)) 7 [0, 1, 2, 3, 4, 5, 6] rfl rfl rfl ⟨Nat.le_of_ble_eq_true rfl, Nat.le_of_ble_eq_true rfl⟩ rfl hl.1 rfl (Nat.le_of_ble_eq_true rfl) dL_isWhole_355 ⟨by show _ ≤ 300; omega, by show _ ≤ 3000; omega⟩ (fun r9 w1 H locs h9 w => ?_)
          obtain ⟨rfl, h9⟩ := h9
          have w := w.jn (L1 := [wXo G.2.1 (ad 0) (xF ad) svx K, wSh G.2.1 (ad 1) S]) (L' := [wXo G.2.1 (ad 0) (xF ad) svx K, wSh G.2.1 (ad 1) S, wSh G.2.1 (ad 2) Fc, wAb G.2.1 (ad 7) B, wAd G.2.1 (ad 6) D, wHo G.2.1 (ad 3) cu ct hs1, hsL G.2.1 hs1]) h9 7 [0, 1, 2, 3, 4, 5, 6] rfl rfl rfl
          refine kLi F w hst (LC := [wXo G.2.1 (ad 0) (xF ad) svx K, wSh G.2.1 (ad 1) S]) (LR := [wSh G.2.1 (ad 2) Fc, wAb G.2.1 (ad 7) B, wAd G.2.1 (ad 6) D, wHo G.2.1 (ad 3) cu ct hs1, hsL G.2.1 hs1]) (As := [.ref ((ad 0) 0), .int (S.2 9 i)]) (rest := [.int 1]) (l_quantity_ok F.1 hslq (by omega)) mh_quantity vh_quantity (List.mem_of_getElem? (i := 471) (by decide +kernel)) 7 [0, 1, 2, 3, 4, 5, 6] rfl rfl rfl ⟨Nat.le_of_ble_eq_true rfl, Nat.le_of_ble_eq_true rfl⟩ rfl hl.1 rfl (Nat.le_of_ble_eq_true rfl) dL_isWhole_358 ⟨by show _ ≤ 300; omega, by show _ ≤ 3000; omega⟩ (fun r9 w1 H locs h9 w => ?_)
          obtain ⟨rfl, h9⟩ := h9
          have w := w.jn (L1 := [wXo G.2.1 (ad 0) (xF ad) svx K, wSh G.2.1 (ad 1) S]) (L' := [wXo G.2.1 (ad 0) (xF ad) svx K, wSh G.2.1 (ad 1) S, wSh G.2.1 (ad 2) Fc, wAb G.2.1 (ad 7) B, wAd G.2.1 (ad 6) D, wHo G.2.1 (ad 3) cu ct hs1, hsL G.2.1 hs1]) h9 7 [0, 1, 2, 3, 4, 5, 6] rfl rfl rfl
          rw [show ((S.2 2 pq) : Int32) = (nI kq) from ekq]
          refine lv_if_le (tgt := 383) F.x F.b dL_isWhole_361 (by decide) (fun c9 => absurd c9 (show ¬ nI kq ≤ 0 from nI_nle (n := kq) (by omega) (by omega))) (fun _ => ?_)
          refine lv_aload_n F.x F.b dL_isWhole_364 rfl (lv_at hl 6 rfl) ?_
          refine lv_aload_n F.x F.b dL_isWhole_365 rfl (lv_at hl 6 rfl) ?_
          refine lv_iload F.x F.b dL_isWhole_366 (lv_at hl 1 rfl) ?_
          refine kLi F w hst (LC := [wXo G.2.1 (ad 0) (xF ad) svx K, wSh G.2.1 (ad 1) S]) (LR := [wSh G.2.1 (ad 2) Fc, wAb G.2.1 (ad 7) B, wAd G.2.1 (ad 6) D, wHo G.2.1 (ad 3) cu ct hs1, hsL G.2.1 hs1]) (As := [.ref ((ad 0) 0), .int (nI i)]) (rest := [.ref ((ad 0) 0), .int 1]) (l_queued_ok F.1 h.q1 (kk := i) hiq hq16) mh_queued vh_queued (List.mem_of_getElem? (i := 597) (by decide +kernel)) 7 [0, 1, 2, 3, 4, 5, 6] rfl rfl rfl ⟨Nat.le_of_ble_eq_true rfl, Nat.le_of_ble_eq_true rfl⟩ rfl hl.1 rfl (Nat.le_of_ble_eq_true rfl) dL_isWhole_368 ⟨by show _ ≤ 300; omega, by show _ ≤ 3000; omega⟩ (fun r9 w1 H locs h9 w => ?_)
          obtain ⟨rfl, h9⟩ := h9
          have w := w.jn (L1 := [wXo G.2.1 (ad 0) (xF ad) svx K, wSh G.2.1 (ad 1) S]) (L' := [wXo G.2.1 (ad 0) (xF ad) svx K, wSh G.2.1 (ad 1) S, wSh G.2.1 (ad 2) Fc, wAb G.2.1 (ad 7) B, wAd G.2.1 (ad 6) D, wHo G.2.1 (ad 3) cu ct hs1, hsL G.2.1 hs1]) h9 7 [0, 1, 2, 3, 4, 5, 6] rfl rfl rfl
          refine kLi F w hst (LC := [wXo G.2.1 (ad 0) (xF ad) svx K, wSh G.2.1 (ad 1) S, wHo G.2.1 (ad 3) cu ct hs1, hsL G.2.1 hs1]) (LR := [wSh G.2.1 (ad 2) Fc, wAb G.2.1 (ad 7) B, wAd G.2.1 (ad 6) D]) (As := [.ref ((ad 0) 0), .int (S.2 9 i)]) (rest := [.int 1]) (l_enqueue_no F.1 gM hNC k1 h.copies (qfull h hiq) (by decide +kernel)) mh_enqueue vh_enqueue (List.mem_of_getElem? (i := 1151) (by decide +kernel)) 7 [0, 1, 5, 6, 2, 3, 4] rfl rfl rfl ⟨Nat.le_of_ble_eq_true rfl, Nat.le_of_ble_eq_true rfl⟩ rfl hl.1 rfl (Nat.le_of_ble_eq_true rfl) dL_isWhole_371 ⟨by show _ ≤ 300; omega, by show _ ≤ 3000; omega⟩ (fun r9 w1 H locs h9 w => ?_)
          obtain ⟨e9, b9, P9, hP9, h9⟩ := h9
          have w := w.jn (L1 := [wXo G.2.1 (ad 0) (xF ad) svx K, wSh G.2.1 (ad 1) S, wHo G.2.1 (ad 3) cu ct (hput hs1 cu (b9, P9)), hsL G.2.1 (hput hs1 cu (b9, P9))]) (L' := [wXo G.2.1 (ad 0) (xF ad) svx K, wSh G.2.1 (ad 1) S, wSh G.2.1 (ad 2) Fc, wAb G.2.1 (ad 7) B, wAd G.2.1 (ad 6) D, wHo G.2.1 (ad 3) cu ct (hput hs1 cu (b9, P9)), hsL G.2.1 (hput hs1 cu (b9, P9))]) h9 7 [0, 1, 4, 5, 6, 2, 3] rfl rfl rfl
          rw [show cdE eISE = -79 from by decide +kernel] at e9
          subst e9
          refine lv_bipush (v := (-79)) F.x F.b dL_isWhole_374 (by decide) ?_
          refine lv_icmp_ne (tgt := 383) F.x F.b dL_isWhole_376 (by decide) (fun c9 => absurd rfl c9) (fun _ => ?_)
          refine lv_iconst (v := 1) F.x F.b dL_isWhole_379 (by decide) ?_
          refine lv_goto (tgt := 384) F.x F.b dL_isWhole_380 (by decide) ?_
          refine lv_iand F.x F.b dL_isWhole_384 ?_
          rw [show ((1 &&& 1) : Int32) = 1 from (by decide)]
          refine lv_istore (lv' := [(10, .int 1), (12, .int (nI j)), (11, .int (nI i)), (9, .int 1), (6, .int (nI sm)), (5, .int 1), (0, .ref ((ad 0) 0)), (1, .ref b), (2, .int (nI k)), (3, .int f)]) F.x F.b dL_isWhole_385 hl (by decide) rfl (fun ls hl => ?_)
          refine lv_iinc (v := (nI (i + 1))) (lv' := [(11, .int (nI (i + 1))), (10, .int 1), (12, .int (nI j)), (9, .int 1), (6, .int (nI sm)), (5, .int 1), (0, .ref ((ad 0) 0)), (1, .ref b), (2, .int (nI k)), (3, .int f)]) F.x F.b dL_isWhole_387 hl (k := 2) rfl (nI_1 i) (by decide) rfl (fun ls hl => ?_)
          refine lv_goto (tgt := 299) F.x F.b dL_isWhole_390 (by decide) ?_
          exact ih (i + 1) (by omega) _ _ Fc B D (hput hs1 cu (b9, P9)) H locs ls (by omega) (by omega) (hF.put (b9, P9)) w (lv_sub hl [0, 1, 3, 4, 5, 6, 7, 8, 9] rfl)
        | succ d2 ih2 =>
          intro j hj cells slots H locs ls hc9 hs9 w hl
          refine lv_iload F.x F.b dL_isWhole_311 (lv_at hl 0 rfl) ?_
          refine lv_iload F.x F.b dL_isWhole_313 (lv_at hl 1 rfl) ?_
          refine lv_icmp_ge (tgt := 349) F.x F.b dL_isWhole_315 (by decide) (fun c9 => absurd c9 (nI_ge (a := j) (b := i) (by omega) (by omega))) (fun _ => ?_)
          refine lv_iload F.x F.b dL_isWhole_318 (lv_at hl 2 rfl) ?_
          refine lv_aload_n F.x F.b dL_isWhole_320 rfl (lv_at hl 6 rfl) ?_
          refine lv_iload F.x F.b dL_isWhole_321 (lv_at hl 1 rfl) ?_
          refine kLi F w hst (LC := [wXo G.2.1 (ad 0) (xF ad) svx K, wSh G.2.1 (ad 1) S]) (LR := [wSh G.2.1 (ad 2) Fc, wAb G.2.1 (ad 7) B, wAd G.2.1 (ad 6) D, wHo G.2.1 (ad 3) cu ct hs1, hsL G.2.1 hs1]) (As := [.ref ((ad 0) 0), .int (nI i)]) (rest := [.int 1]) (l_queued_ok F.1 h.q1 (kk := i) hiq hq16) mh_queued vh_queued (List.mem_of_getElem? (i := 597) (by decide +kernel)) 7 [0, 1, 2, 3, 4, 5, 6] rfl rfl rfl ⟨Nat.le_of_ble_eq_true rfl, Nat.le_of_ble_eq_true rfl⟩ rfl hl.1 rfl (Nat.le_of_ble_eq_true rfl) dL_isWhole_323 ⟨by show _ ≤ 300; omega, by show _ ≤ 3000; omega⟩ (fun r9 w1 H locs h9 w => ?_)
          obtain ⟨rfl, h9⟩ := h9
          have w := w.jn (L1 := [wXo G.2.1 (ad 0) (xF ad) svx K, wSh G.2.1 (ad 1) S]) (L' := [wXo G.2.1 (ad 0) (xF ad) svx K, wSh G.2.1 (ad 1) S, wSh G.2.1 (ad 2) Fc, wAb G.2.1 (ad 7) B, wAd G.2.1 (ad 6) D, wHo G.2.1 (ad 3) cu ct hs1, hsL G.2.1 hs1]) h9 7 [0, 1, 2, 3, 4, 5, 6] rfl rfl rfl
          refine lv_aload_n F.x F.b dL_isWhole_326 rfl (lv_at hl 6 rfl) ?_
          refine lv_iload F.x F.b dL_isWhole_327 (lv_at hl 0 rfl) ?_
          refine kLi F w hst (LC := [wXo G.2.1 (ad 0) (xF ad) svx K, wSh G.2.1 (ad 1) S]) (LR := [wSh G.2.1 (ad 2) Fc, wAb G.2.1 (ad 7) B, wAd G.2.1 (ad 6) D, wHo G.2.1 (ad 3) cu ct hs1, hsL G.2.1 hs1]) (As := [.ref ((ad 0) 0), .int (nI j)]) (rest := [.int (S.2 9 i), .int 1]) (l_queued_ok F.1 h.q1 (kk := j) (by omega) hq16) mh_queued vh_queued (List.mem_of_getElem? (i := 597) (by decide +kernel)) 7 [0, 1, 2, 3, 4, 5, 6] rfl rfl rfl ⟨Nat.le_of_ble_eq_true rfl, Nat.le_of_ble_eq_true rfl⟩ rfl hl.1 rfl (Nat.le_of_ble_eq_true rfl) dL_isWhole_329 ⟨by show _ ≤ 300; omega, by show _ ≤ 3000; omega⟩ (fun r9 w1 H locs h9 w => ?_)
          obtain ⟨rfl, h9⟩ := h9
          have w := w.jn (L1 := [wXo G.2.1 (ad 0) (xF ad) svx K, wSh G.2.1 (ad 1) S]) (L' := [wXo G.2.1 (ad 0) (xF ad) svx K, wSh G.2.1 (ad 1) S, wSh G.2.1 (ad 2) Fc, wAb G.2.1 (ad 7) B, wAd G.2.1 (ad 6) D, wHo G.2.1 (ad 3) cu ct hs1, hsL G.2.1 hs1]) h9 7 [0, 1, 2, 3, 4, 5, 6] rfl rfl rfl
          refine lv_icmp_eq (tgt := 339) F.x F.b dL_isWhole_332 (by decide) (fun c9 => absurd c9 (fun z => absurd (h.Q.2 i j hiq (by omega) z) (by omega))) (fun _ => ?_)
          refine lv_iconst (v := 1) F.x F.b dL_isWhole_335 (by decide) ?_
          refine lv_goto (tgt := 340) F.x F.b dL_isWhole_336 (by decide) ?_
          refine lv_iand F.x F.b dL_isWhole_340 ?_
          rw [show ((1 &&& 1) : Int32) = 1 from (by decide)]
          refine lv_istore (lv' := [(10, .int 1), (12, .int (nI j)), (11, .int (nI i)), (9, .int 1), (6, .int (nI sm)), (5, .int 1), (0, .ref ((ad 0) 0)), (1, .ref b), (2, .int (nI k)), (3, .int f)]) F.x F.b dL_isWhole_341 hl (by decide) rfl (fun ls hl => ?_)
          refine lv_iinc (v := (nI (j + 1))) (lv' := [(12, .int (nI (j + 1))), (10, .int 1), (11, .int (nI i)), (9, .int 1), (6, .int (nI sm)), (5, .int 1), (0, .ref ((ad 0) 0)), (1, .ref b), (2, .int (nI k)), (3, .int f)]) F.x F.b dL_isWhole_343 hl (k := 1) rfl (nI_1 j) (by decide) rfl (fun ls hl => ?_)
          refine lv_goto (tgt := 311) F.x F.b dL_isWhole_346 (by decide) ?_
          exact ih2 (j + 1) (by omega) _ _ H locs ls (by omega) (by omega) w (lv_sub hl [0, 2, 1, 3, 4, 5, 6, 7, 8, 9] rfl)
      refine lv_iconst (v := 0) F.x F.b dL_isWhole_308 (by decide) ?_
      refine lv_istore (lv' := [(12, .int 0), (11, .int (nI i)), (10, .int 1), (9, .int 1), (6, .int (nI sm)), (5, .int 1), (0, .ref ((ad 0) 0)), (1, .ref b), (2, .int (nI k)), (3, .int f)]) F.x F.b dL_isWhole_309 hl (by decide) rfl (fun ls hl => ?_)
      exact L311 i 0 (by omega) _ _ H locs ls (by omega) (by omega) w (lv_sub hl [0, 1, 2, 3, 4, 5, 6, 7, 8, 9] rfl)
  have K278 : ∀ (sm : Nat), sm < 10000 → ∀ (cells slots : Nat) (Fc B D : Mem) (hs1 : hS) (H : Heap) (locs : List Loc) (ls : Array Slot), cells ≤ 0 → slots ≤ 0 → HF cu hs hs1 → Wd G A s.heap (fl [wXo G.2.1 (ad 0) (xF ad) svx K, wSh G.2.1 (ad 1) S, wSh G.2.1 (ad 2) Fc, wAb G.2.1 (ad 7) B, wAd G.2.1 (ad 6) D, wHo G.2.1 (ad 3) cu ct hs1, hsL G.2.1 hs1]) H locs → lv_has ls 13 [(9, .int 1), (6, .int (nI sm)), (5, .int 1), (0, .ref ((ad 0) 0)), (1, .ref b), (2, .int (nI k)), (3, .int f)] → W p l e { frames := 10, cells := 300, slots := 3000, locals := 166 } s m args below meth cm H locs cells slots (XI G A PP NX 300 3000 below args s) (F0 m 278 ls []) := by
    intro sm hsm
    intro cells slots Fc B D hs1 H locs ls hc9 hs9 hF w hl
    refine lv_aload_n F.x F.b dL_isWhole_278 rfl (lv_at hl 3 rfl) ?_
    obtain ⟨m2, D2, hm1, hm2, -, -⟩ := h.most D
    refine kXi F w hst (LC := [wXo G.2.1 (ad 0) (xF ad) svx K, wSh G.2.1 (ad 1) S, wAd G.2.1 (ad 6) D]) (LR := [wSh G.2.1 (ad 2) Fc, wAb G.2.1 (ad 7) B, wHo G.2.1 (ad 3) cu ct hs1, hsL G.2.1 hs1]) (As := []) (rest := []) ((t_X6_mostReleases F.1 (x := ad 0) (a := ad 1) (da := ad 6) (rf := xF ad) (sv := svx) rfl (rfl : (xF ad) 5 = (ad 6) 0) (show f_X6_mostReleases K S D = some (nI m2, D2) from by rw [f_X6_mostReleases, hm1]; rfl)).toX : CX G yX6_mostReleases cX6_mostReleases 1 .int 5 114 0 0 [.ref ((ad 0) 0)] (fl [wXo G.2.1 (ad 0) (xF ad) svx K, wSh G.2.1 (ad 1) S, wAd G.2.1 (ad 6) D]) _ _) m_X6_mostReleases v_X6_mostReleases q319 (ci := 10) (q0 := 0) rfl rfl rfl 7 [0, 1, 4, 2, 3, 5, 6] rfl rfl rfl ⟨Nat.le_of_ble_eq_true rfl, Nat.le_of_ble_eq_true rfl⟩ rfl hl.1 rfl (Nat.le_of_ble_eq_true rfl) dL_isWhole_279 ⟨by show _ ≤ 300; omega, by show _ ≤ 3000; omega⟩ (fun _ _ _ _ _ _ hx => False.elim hx) (fun r9 w1 H locs h9 w => ?_)
    obtain ⟨rfl, h9⟩ := h9
    have w := w.jn (L1 := [wXo G.2.1 (ad 0) (xF ad) svx K, wSh G.2.1 (ad 1) S, wAd G.2.1 (ad 6) D2]) (L' := [wXo G.2.1 (ad 0) (xF ad) svx K, wSh G.2.1 (ad 1) S, wSh G.2.1 (ad 2) Fc, wAb G.2.1 (ad 7) B, wAd G.2.1 (ad 6) D2, wHo G.2.1 (ad 3) cu ct hs1, hsL G.2.1 hs1]) h9 7 [0, 1, 3, 4, 2, 5, 6] rfl rfl rfl
    refine lv_aload_n F.x F.b dL_isWhole_282 rfl (lv_at hl 3 rfl) ?_
    refine kXi F w hst (LC := [wXo G.2.1 (ad 0) (xF ad) svx K, wSh G.2.1 (ad 1) S]) (LR := [wSh G.2.1 (ad 2) Fc, wAb G.2.1 (ad 7) B, wAd G.2.1 (ad 6) D2, wHo G.2.1 (ad 3) cu ct hs1, hsL G.2.1 hs1]) (As := []) (rest := [.int (nI m2)]) ((t_X6_lotCount F.1 (x := ad 0) (a := ad 1) (rf := xF ad) (sv := svx) rfl (show f_X6_lotCount K S = some (S.1 0) from rfl)).toX : CX G yX6_lotCount cX6_lotCount 1 .int 0 0 0 0 [.ref ((ad 0) 0)] (fl [wXo G.2.1 (ad 0) (xF ad) svx K, wSh G.2.1 (ad 1) S]) _ _) m_X6_lotCount v_X6_lotCount q291 (ci := 10) (q0 := 0) rfl rfl rfl 7 [0, 1, 2, 3, 4, 5, 6] rfl rfl rfl ⟨Nat.le_of_ble_eq_true rfl, Nat.le_of_ble_eq_true rfl⟩ rfl hl.1 rfl (Nat.le_of_ble_eq_true rfl) dL_isWhole_283 ⟨by show _ ≤ 300; omega, by show _ ≤ 3000; omega⟩ (fun _ _ _ _ _ _ hx => False.elim hx) (fun r9 w1 H locs h9 w => ?_)
    obtain ⟨rfl, h9⟩ := h9
    have w := w.jn (L1 := [wXo G.2.1 (ad 0) (xF ad) svx K, wSh G.2.1 (ad 1) S]) (L' := [wXo G.2.1 (ad 0) (xF ad) svx K, wSh G.2.1 (ad 1) S, wSh G.2.1 (ad 2) Fc, wAb G.2.1 (ad 7) B, wAd G.2.1 (ad 6) D2, wHo G.2.1 (ad 3) cu ct hs1, hsL G.2.1 hs1]) h9 7 [0, 1, 2, 3, 4, 5, 6] rfl rfl rfl
    rw [show ((S.1 0) : Int32) = (nI c) from h.c1]
    refine lv_icmp_gt (tgt := 293) F.x F.b dL_isWhole_286 (by decide) (fun c9 => absurd c9 (nI_nlt (a := c) (b := m2) hm2 (by omega))) (fun _ => ?_)
    refine lv_iconst (v := 1) F.x F.b dL_isWhole_289 (by decide) ?_
    refine lv_goto (tgt := 294) F.x F.b dL_isWhole_290 (by decide) ?_
    refine lv_istore (lv' := [(10, .int 1), (9, .int 1), (6, .int (nI sm)), (5, .int 1), (0, .ref ((ad 0) 0)), (1, .ref b), (2, .int (nI k)), (3, .int f)]) F.x F.b dL_isWhole_294 hl (by decide) rfl (fun ls hl => ?_)
    refine lv_iconst (v := 0) F.x F.b dL_isWhole_296 (by decide) ?_
    refine lv_istore (lv' := [(11, .int 0), (10, .int 1), (9, .int 1), (6, .int (nI sm)), (5, .int 1), (0, .ref ((ad 0) 0)), (1, .ref b), (2, .int (nI k)), (3, .int f)]) F.x F.b dL_isWhole_297 hl (by decide) rfl (fun ls hl => ?_)
    exact L299 sm hsm q 0 (by omega) _ _ Fc B D2 hs1 H locs ls (by omega) (by omega) hF w (lv_sub hl [0, 1, 2, 3, 4, 5, 6, 7, 8] rfl)
  have K226 : ∀ (sm : Nat), sm < 10000 → ∀ (cells slots : Nat) (Fc B D : Mem) (hs1 : hS) (H : Heap) (locs : List Loc) (ls : Array Slot), cells ≤ 0 → slots ≤ 0 → HF cu hs hs1 → Wd G A s.heap (fl [wXo G.2.1 (ad 0) (xF ad) svx K, wSh G.2.1 (ad 1) S, wSh G.2.1 (ad 2) Fc, wAb G.2.1 (ad 7) B, wAd G.2.1 (ad 6) D, wHo G.2.1 (ad 3) cu ct hs1, hsL G.2.1 hs1]) H locs → lv_has ls 13 [(9, .int 1), (6, .int (nI sm)), (5, .int 1), (0, .ref ((ad 0) 0)), (1, .ref b), (2, .int (nI k)), (3, .int f)] → W p l e { frames := 10, cells := 300, slots := 3000, locals := 166 } s m args below meth cm H locs cells slots (XI G A PP NX 300 3000 below args s) (F0 m 226 ls []) := by
    intro sm hsm
    intro cells slots Fc B D hs1 H locs ls hc9 hs9 hF w hl
    obtain ⟨co, -, hco, eco⟩ := h.bd
    have ev : nv (S.1 3) = co := by rw [eco]; exact nI_clamp (by omega)
    obtain ⟨mr, D1, hm1, hm2, hm3, -⟩ := h.most D
    rw [ev] at hm3
    refine lv_aload_n F.x F.b dL_isWhole_226 rfl (lv_at hl 3 rfl) ?_
    refine kXi F w hst (LC := [wXo G.2.1 (ad 0) (xF ad) svx K, wSh G.2.1 (ad 1) S]) (LR := [wSh G.2.1 (ad 2) Fc, wAb G.2.1 (ad 7) B, wAd G.2.1 (ad 6) D, wHo G.2.1 (ad 3) cu ct hs1, hsL G.2.1 hs1]) (As := []) (rest := []) ((t_X6_bond F.1 (x := ad 0) (a := ad 1) (rf := xF ad) (sv := svx) rfl (show f_X6_bond K S = some (S.1 3) from rfl)).toX : CX G yX6_bond cX6_bond 1 .int 0 0 0 0 [.ref ((ad 0) 0)] (fl [wXo G.2.1 (ad 0) (xF ad) svx K, wSh G.2.1 (ad 1) S]) _ _) m_X6_bond v_X6_bond q311 (ci := 10) (q0 := 0) rfl rfl rfl 7 [0, 1, 2, 3, 4, 5, 6] rfl rfl rfl ⟨Nat.le_of_ble_eq_true rfl, Nat.le_of_ble_eq_true rfl⟩ rfl hl.1 rfl (Nat.le_of_ble_eq_true rfl) dL_isWhole_227 ⟨by show _ ≤ 300; omega, by show _ ≤ 3000; omega⟩ (fun _ _ _ _ _ _ hx => False.elim hx) (fun r9 w1 H locs h9 w => ?_)
    obtain ⟨rfl, h9⟩ := h9
    have w := w.jn (L1 := [wXo G.2.1 (ad 0) (xF ad) svx K, wSh G.2.1 (ad 1) S]) (L' := [wXo G.2.1 (ad 0) (xF ad) svx K, wSh G.2.1 (ad 1) S, wSh G.2.1 (ad 2) Fc, wAb G.2.1 (ad 7) B, wAd G.2.1 (ad 6) D, wHo G.2.1 (ad 3) cu ct hs1, hsL G.2.1 hs1]) h9 7 [0, 1, 2, 3, 4, 5, 6] rfl rfl rfl
    rw [show ((S.1 3) : Int32) = (nI co) from eco]
    refine lv_if_lt (tgt := 293) F.x F.b dL_isWhole_230 (by decide) (fun c9 => absurd c9 (nI_pos (n := co) (by omega))) (fun _ => ?_)
    refine lv_aload_n F.x F.b dL_isWhole_233 rfl (lv_at hl 3 rfl) ?_
    refine kXi F w hst (LC := [wXo G.2.1 (ad 0) (xF ad) svx K, wSh G.2.1 (ad 1) S]) (LR := [wSh G.2.1 (ad 2) Fc, wAb G.2.1 (ad 7) B, wAd G.2.1 (ad 6) D, wHo G.2.1 (ad 3) cu ct hs1, hsL G.2.1 hs1]) (As := []) (rest := []) ((t_X6_bond F.1 (x := ad 0) (a := ad 1) (rf := xF ad) (sv := svx) rfl (show f_X6_bond K S = some (S.1 3) from rfl)).toX : CX G yX6_bond cX6_bond 1 .int 0 0 0 0 [.ref ((ad 0) 0)] (fl [wXo G.2.1 (ad 0) (xF ad) svx K, wSh G.2.1 (ad 1) S]) _ _) m_X6_bond v_X6_bond q311 (ci := 10) (q0 := 0) rfl rfl rfl 7 [0, 1, 2, 3, 4, 5, 6] rfl rfl rfl ⟨Nat.le_of_ble_eq_true rfl, Nat.le_of_ble_eq_true rfl⟩ rfl hl.1 rfl (Nat.le_of_ble_eq_true rfl) dL_isWhole_234 ⟨by show _ ≤ 300; omega, by show _ ≤ 3000; omega⟩ (fun _ _ _ _ _ _ hx => False.elim hx) (fun r9 w1 H locs h9 w => ?_)
    obtain ⟨rfl, h9⟩ := h9
    have w := w.jn (L1 := [wXo G.2.1 (ad 0) (xF ad) svx K, wSh G.2.1 (ad 1) S]) (L' := [wXo G.2.1 (ad 0) (xF ad) svx K, wSh G.2.1 (ad 1) S, wSh G.2.1 (ad 2) Fc, wAb G.2.1 (ad 7) B, wAd G.2.1 (ad 6) D, wHo G.2.1 (ad 3) cu ct hs1, hsL G.2.1 hs1]) h9 7 [0, 1, 2, 3, 4, 5, 6] rfl rfl rfl
    rw [show ((S.1 3) : Int32) = (nI co) from eco]
    refine lv_sipush (v := 9999) F.x F.b dL_isWhole_237 (by decide) ?_
    refine lv_icmp_gt (tgt := 293) F.x F.b dL_isWhole_240 (by decide) (fun c9 => absurd c9 (show ¬ (9999 : Int32) < nI co from nI_nlt (a := 9999) (b := co) (by omega) (by omega))) (fun _ => ?_)
    refine lv_aload_n F.x F.b dL_isWhole_243 rfl (lv_at hl 3 rfl) ?_
    refine kXi F w hst (LC := [wXo G.2.1 (ad 0) (xF ad) svx K, wSh G.2.1 (ad 1) S]) (LR := [wSh G.2.1 (ad 2) Fc, wAb G.2.1 (ad 7) B, wAd G.2.1 (ad 6) D, wHo G.2.1 (ad 3) cu ct hs1, hsL G.2.1 hs1]) (As := []) (rest := []) ((t_X6_totalDuty F.1 (x := ad 0) (a := ad 1) (rf := xF ad) (sv := svx) rfl (show f_X6_totalDuty K S = some (nI (sN (owe S t) c)) from by rw [f_X6_totalDuty, h.total.1, h.totN.1]; rfl)).toX : CX G yX6_totalDuty cX6_totalDuty 1 .int 4 89 0 0 [.ref ((ad 0) 0)] (fl [wXo G.2.1 (ad 0) (xF ad) svx K, wSh G.2.1 (ad 1) S]) _ _) m_X6_totalDuty v_X6_totalDuty q1324 (ci := 10) (q0 := 0) rfl rfl rfl 7 [0, 1, 2, 3, 4, 5, 6] rfl rfl rfl ⟨Nat.le_of_ble_eq_true rfl, Nat.le_of_ble_eq_true rfl⟩ rfl hl.1 rfl (Nat.le_of_ble_eq_true rfl) dL_isWhole_244 ⟨by show _ ≤ 300; omega, by show _ ≤ 3000; omega⟩ (fun _ _ _ _ _ _ hx => False.elim hx) (fun r9 w1 H locs h9 w => ?_)
    obtain ⟨rfl, h9⟩ := h9
    have w := w.jn (L1 := [wXo G.2.1 (ad 0) (xF ad) svx K, wSh G.2.1 (ad 1) S]) (L' := [wXo G.2.1 (ad 0) (xF ad) svx K, wSh G.2.1 (ad 1) S, wSh G.2.1 (ad 2) Fc, wAb G.2.1 (ad 7) B, wAd G.2.1 (ad 6) D, wHo G.2.1 (ad 3) cu ct hs1, hsL G.2.1 hs1]) h9 7 [0, 1, 2, 3, 4, 5, 6] rfl rfl rfl
    refine lv_aload_n F.x F.b dL_isWhole_247 rfl (lv_at hl 3 rfl) ?_
    refine kXi F w hst (LC := [wXo G.2.1 (ad 0) (xF ad) svx K, wSh G.2.1 (ad 1) S]) (LR := [wSh G.2.1 (ad 2) Fc, wAb G.2.1 (ad 7) B, wAd G.2.1 (ad 6) D, wHo G.2.1 (ad 3) cu ct hs1, hsL G.2.1 hs1]) (As := []) (rest := [.int (nI (sN (owe S t) c))]) ((t_X6_bond F.1 (x := ad 0) (a := ad 1) (rf := xF ad) (sv := svx) rfl (show f_X6_bond K S = some (S.1 3) from rfl)).toX : CX G yX6_bond cX6_bond 1 .int 0 0 0 0 [.ref ((ad 0) 0)] (fl [wXo G.2.1 (ad 0) (xF ad) svx K, wSh G.2.1 (ad 1) S]) _ _) m_X6_bond v_X6_bond q311 (ci := 10) (q0 := 0) rfl rfl rfl 7 [0, 1, 2, 3, 4, 5, 6] rfl rfl rfl ⟨Nat.le_of_ble_eq_true rfl, Nat.le_of_ble_eq_true rfl⟩ rfl hl.1 rfl (Nat.le_of_ble_eq_true rfl) dL_isWhole_248 ⟨by show _ ≤ 300; omega, by show _ ≤ 3000; omega⟩ (fun _ _ _ _ _ _ hx => False.elim hx) (fun r9 w1 H locs h9 w => ?_)
    obtain ⟨rfl, h9⟩ := h9
    have w := w.jn (L1 := [wXo G.2.1 (ad 0) (xF ad) svx K, wSh G.2.1 (ad 1) S]) (L' := [wXo G.2.1 (ad 0) (xF ad) svx K, wSh G.2.1 (ad 1) S, wSh G.2.1 (ad 2) Fc, wAb G.2.1 (ad 7) B, wAd G.2.1 (ad 6) D, wHo G.2.1 (ad 3) cu ct hs1, hsL G.2.1 hs1]) h9 7 [0, 1, 2, 3, 4, 5, 6] rfl rfl rfl
    rw [show ((S.1 3) : Int32) = (nI co) from eco]
    have htn := h.totN.2
    by_cases hle : sN (owe S t) c ≤ co
    · refine lv_icmp_gt (tgt := 258) F.x F.b dL_isWhole_251 (by decide) (fun c9 => absurd c9 (nI_nlt (a := co) (b := sN (owe S t) c) hle (by omega))) (fun _ => ?_)
      refine lv_iconst (v := 1) F.x F.b dL_isWhole_254 (by decide) ?_
      refine lv_goto (tgt := 259) F.x F.b dL_isWhole_255 (by decide) ?_
      refine lv_aload_n F.x F.b dL_isWhole_259 rfl (lv_at hl 3 rfl) ?_
      refine kXi F w hst (LC := [wXo G.2.1 (ad 0) (xF ad) svx K, wSh G.2.1 (ad 1) S, wAd G.2.1 (ad 6) D]) (LR := [wSh G.2.1 (ad 2) Fc, wAb G.2.1 (ad 7) B, wHo G.2.1 (ad 3) cu ct hs1, hsL G.2.1 hs1]) (As := []) (rest := [.int 1]) ((t_X6_mostReleases F.1 (x := ad 0) (a := ad 1) (da := ad 6) (rf := xF ad) (sv := svx) rfl (rfl : (xF ad) 5 = (ad 6) 0) (show f_X6_mostReleases K S D = some (nI mr, D1) from by rw [f_X6_mostReleases, hm1]; rfl)).toX : CX G yX6_mostReleases cX6_mostReleases 1 .int 5 114 0 0 [.ref ((ad 0) 0)] (fl [wXo G.2.1 (ad 0) (xF ad) svx K, wSh G.2.1 (ad 1) S, wAd G.2.1 (ad 6) D]) _ _) m_X6_mostReleases v_X6_mostReleases q319 (ci := 10) (q0 := 0) rfl rfl rfl 7 [0, 1, 4, 2, 3, 5, 6] rfl rfl rfl ⟨Nat.le_of_ble_eq_true rfl, Nat.le_of_ble_eq_true rfl⟩ rfl hl.1 rfl (Nat.le_of_ble_eq_true rfl) dL_isWhole_260 ⟨by show _ ≤ 300; omega, by show _ ≤ 3000; omega⟩ (fun _ _ _ _ _ _ hx => False.elim hx) (fun r9 w1 H locs h9 w => ?_)
      obtain ⟨rfl, h9⟩ := h9
      have w := w.jn (L1 := [wXo G.2.1 (ad 0) (xF ad) svx K, wSh G.2.1 (ad 1) S, wAd G.2.1 (ad 6) D1]) (L' := [wXo G.2.1 (ad 0) (xF ad) svx K, wSh G.2.1 (ad 1) S, wSh G.2.1 (ad 2) Fc, wAb G.2.1 (ad 7) B, wAd G.2.1 (ad 6) D1, wHo G.2.1 (ad 3) cu ct hs1, hsL G.2.1 hs1]) h9 7 [0, 1, 3, 4, 2, 5, 6] rfl rfl rfl
      refine lv_aload_n F.x F.b dL_isWhole_263 rfl (lv_at hl 3 rfl) ?_
      refine kXi F w hst (LC := [wXo G.2.1 (ad 0) (xF ad) svx K, wSh G.2.1 (ad 1) S]) (LR := [wSh G.2.1 (ad 2) Fc, wAb G.2.1 (ad 7) B, wAd G.2.1 (ad 6) D1, wHo G.2.1 (ad 3) cu ct hs1, hsL G.2.1 hs1]) (As := []) (rest := [.int (nI mr), .int 1]) ((t_X6_lotCount F.1 (x := ad 0) (a := ad 1) (rf := xF ad) (sv := svx) rfl (show f_X6_lotCount K S = some (S.1 0) from rfl)).toX : CX G yX6_lotCount cX6_lotCount 1 .int 0 0 0 0 [.ref ((ad 0) 0)] (fl [wXo G.2.1 (ad 0) (xF ad) svx K, wSh G.2.1 (ad 1) S]) _ _) m_X6_lotCount v_X6_lotCount q291 (ci := 10) (q0 := 0) rfl rfl rfl 7 [0, 1, 2, 3, 4, 5, 6] rfl rfl rfl ⟨Nat.le_of_ble_eq_true rfl, Nat.le_of_ble_eq_true rfl⟩ rfl hl.1 rfl (Nat.le_of_ble_eq_true rfl) dL_isWhole_264 ⟨by show _ ≤ 300; omega, by show _ ≤ 3000; omega⟩ (fun _ _ _ _ _ _ hx => False.elim hx) (fun r9 w1 H locs h9 w => ?_)
      obtain ⟨rfl, h9⟩ := h9
      have w := w.jn (L1 := [wXo G.2.1 (ad 0) (xF ad) svx K, wSh G.2.1 (ad 1) S]) (L' := [wXo G.2.1 (ad 0) (xF ad) svx K, wSh G.2.1 (ad 1) S, wSh G.2.1 (ad 2) Fc, wAb G.2.1 (ad 7) B, wAd G.2.1 (ad 6) D1, wHo G.2.1 (ad 3) cu ct hs1, hsL G.2.1 hs1]) h9 7 [0, 1, 2, 3, 4, 5, 6] rfl rfl rfl
      rw [show ((S.1 0) : Int32) = (nI c) from h.c1]
      refine lv_icmp_ne (tgt := 274) F.x F.b dL_isWhole_267 (by decide) (fun c9 => absurd (show nI mr = nI c by rw [hm3.mpr hle]) c9) (fun _ => ?_)
      refine lv_iconst (v := 1) F.x F.b dL_isWhole_270 (by decide) ?_
      refine lv_goto (tgt := 275) F.x F.b dL_isWhole_271 (by decide) ?_
      refine lv_icmp_ne (tgt := 293) F.x F.b dL_isWhole_275 (by decide) (fun c9 => absurd rfl c9) (fun _ => ?_)
      exact K278 sm hsm _ _ Fc B D1 hs1 H locs ls (by omega) (by omega) hF w (lv_sub hl [0, 1, 2, 3, 4, 5, 6] rfl)
    · refine lv_icmp_gt (tgt := 258) F.x F.b dL_isWhole_251 (by decide) (fun _ => ?_) (fun c9 => absurd (show nI co < nI (sN (owe S t) c) by rw [nI_ltI (by omega) (by omega)]; omega) c9)
      refine lv_iconst (v := 0) F.x F.b dL_isWhole_258 (by decide) ?_
      refine lv_aload_n F.x F.b dL_isWhole_259 rfl (lv_at hl 3 rfl) ?_
      refine kXi F w hst (LC := [wXo G.2.1 (ad 0) (xF ad) svx K, wSh G.2.1 (ad 1) S, wAd G.2.1 (ad 6) D]) (LR := [wSh G.2.1 (ad 2) Fc, wAb G.2.1 (ad 7) B, wHo G.2.1 (ad 3) cu ct hs1, hsL G.2.1 hs1]) (As := []) (rest := [.int 0]) ((t_X6_mostReleases F.1 (x := ad 0) (a := ad 1) (da := ad 6) (rf := xF ad) (sv := svx) rfl (rfl : (xF ad) 5 = (ad 6) 0) (show f_X6_mostReleases K S D = some (nI mr, D1) from by rw [f_X6_mostReleases, hm1]; rfl)).toX : CX G yX6_mostReleases cX6_mostReleases 1 .int 5 114 0 0 [.ref ((ad 0) 0)] (fl [wXo G.2.1 (ad 0) (xF ad) svx K, wSh G.2.1 (ad 1) S, wAd G.2.1 (ad 6) D]) _ _) m_X6_mostReleases v_X6_mostReleases q319 (ci := 10) (q0 := 0) rfl rfl rfl 7 [0, 1, 4, 2, 3, 5, 6] rfl rfl rfl ⟨Nat.le_of_ble_eq_true rfl, Nat.le_of_ble_eq_true rfl⟩ rfl hl.1 rfl (Nat.le_of_ble_eq_true rfl) dL_isWhole_260 ⟨by show _ ≤ 300; omega, by show _ ≤ 3000; omega⟩ (fun _ _ _ _ _ _ hx => False.elim hx) (fun r9 w1 H locs h9 w => ?_)
      obtain ⟨rfl, h9⟩ := h9
      have w := w.jn (L1 := [wXo G.2.1 (ad 0) (xF ad) svx K, wSh G.2.1 (ad 1) S, wAd G.2.1 (ad 6) D1]) (L' := [wXo G.2.1 (ad 0) (xF ad) svx K, wSh G.2.1 (ad 1) S, wSh G.2.1 (ad 2) Fc, wAb G.2.1 (ad 7) B, wAd G.2.1 (ad 6) D1, wHo G.2.1 (ad 3) cu ct hs1, hsL G.2.1 hs1]) h9 7 [0, 1, 3, 4, 2, 5, 6] rfl rfl rfl
      refine lv_aload_n F.x F.b dL_isWhole_263 rfl (lv_at hl 3 rfl) ?_
      refine kXi F w hst (LC := [wXo G.2.1 (ad 0) (xF ad) svx K, wSh G.2.1 (ad 1) S]) (LR := [wSh G.2.1 (ad 2) Fc, wAb G.2.1 (ad 7) B, wAd G.2.1 (ad 6) D1, wHo G.2.1 (ad 3) cu ct hs1, hsL G.2.1 hs1]) (As := []) (rest := [.int (nI mr), .int 0]) ((t_X6_lotCount F.1 (x := ad 0) (a := ad 1) (rf := xF ad) (sv := svx) rfl (show f_X6_lotCount K S = some (S.1 0) from rfl)).toX : CX G yX6_lotCount cX6_lotCount 1 .int 0 0 0 0 [.ref ((ad 0) 0)] (fl [wXo G.2.1 (ad 0) (xF ad) svx K, wSh G.2.1 (ad 1) S]) _ _) m_X6_lotCount v_X6_lotCount q291 (ci := 10) (q0 := 0) rfl rfl rfl 7 [0, 1, 2, 3, 4, 5, 6] rfl rfl rfl ⟨Nat.le_of_ble_eq_true rfl, Nat.le_of_ble_eq_true rfl⟩ rfl hl.1 rfl (Nat.le_of_ble_eq_true rfl) dL_isWhole_264 ⟨by show _ ≤ 300; omega, by show _ ≤ 3000; omega⟩ (fun _ _ _ _ _ _ hx => False.elim hx) (fun r9 w1 H locs h9 w => ?_)
      obtain ⟨rfl, h9⟩ := h9
      have w := w.jn (L1 := [wXo G.2.1 (ad 0) (xF ad) svx K, wSh G.2.1 (ad 1) S]) (L' := [wXo G.2.1 (ad 0) (xF ad) svx K, wSh G.2.1 (ad 1) S, wSh G.2.1 (ad 2) Fc, wAb G.2.1 (ad 7) B, wAd G.2.1 (ad 6) D1, wHo G.2.1 (ad 3) cu ct hs1, hsL G.2.1 hs1]) h9 7 [0, 1, 2, 3, 4, 5, 6] rfl rfl rfl
      rw [show ((S.1 0) : Int32) = (nI c) from h.c1]
      refine lv_icmp_ne (tgt := 274) F.x F.b dL_isWhole_267 (by decide) (fun _ => ?_) (fun c9 => absurd c9 (fun z => hle (hm3.mp ((nI_eq (a := mr) (b := c) (by omega) (by omega)).mp z))))
      refine lv_iconst (v := 0) F.x F.b dL_isWhole_274 (by decide) ?_
      refine lv_icmp_ne (tgt := 293) F.x F.b dL_isWhole_275 (by decide) (fun c9 => absurd rfl c9) (fun _ => ?_)
      exact K278 sm hsm _ _ Fc B D1 hs1 H locs ls (by omega) (by omega) hF w (lv_sub hl [0, 1, 2, 3, 4, 5, 6] rfl)
  have L159 : ∀ (sm : Nat), sm < 10000 → ∀ (d i : Nat), i + d = t → ∀ (cells slots : Nat) (Fc B D : Mem) (hs1 : hS) (H : Heap) (locs : List Loc) (ls : Array Slot), cells ≤ 0 → slots ≤ 0 → HF cu hs hs1 → Wd G A s.heap (fl [wXo G.2.1 (ad 0) (xF ad) svx K, wSh G.2.1 (ad 1) S, wSh G.2.1 (ad 2) Fc, wAb G.2.1 (ad 7) B, wAd G.2.1 (ad 6) D, wHo G.2.1 (ad 3) cu ct hs1, hsL G.2.1 hs1]) H locs → lv_has ls 13 [(10, .int (nI i)), (9, .int 1), (6, .int (nI sm)), (5, .int 1), (0, .ref ((ad 0) 0)), (1, .ref b), (2, .int (nI k)), (3, .int f)] → W p l e { frames := 10, cells := 300, slots := 3000, locals := 166 } s m args below meth cm H locs cells slots (XI G A PP NX 300 3000 below args s) (F0 m 159 ls []) := by
    intro sm hsm d
    induction d with
    | zero =>
      intro i hi cells slots Fc B D hs1 H locs ls hc9 hs9 hF w hl
      refine lv_iload F.x F.b dL_isWhole_159 (lv_at hl 0 rfl) ?_
      refine lv_aload_n F.x F.b dL_isWhole_161 rfl (lv_at hl 4 rfl) ?_
      refine kXi F w hst (LC := [wXo G.2.1 (ad 0) (xF ad) svx K, wSh G.2.1 (ad 1) S]) (LR := [wSh G.2.1 (ad 2) Fc, wAb G.2.1 (ad 7) B, wAd G.2.1 (ad 6) D, wHo G.2.1 (ad 3) cu ct hs1, hsL G.2.1 hs1]) (As := []) (rest := [.int (nI i)]) ((t_X6_stepCount F.1 (x := ad 0) (a := ad 1) (rf := xF ad) (sv := svx) rfl (show f_X6_stepCount K S = some (S.1 2) from rfl)).toX : CX G yX6_stepCount cX6_stepCount 1 .int 0 0 0 0 [.ref ((ad 0) 0)] (fl [wXo G.2.1 (ad 0) (xF ad) svx K, wSh G.2.1 (ad 1) S]) _ _) m_X6_stepCount v_X6_stepCount q1268 (ci := 10) (q0 := 0) rfl rfl rfl 7 [0, 1, 2, 3, 4, 5, 6] rfl rfl rfl ⟨Nat.le_of_ble_eq_true rfl, Nat.le_of_ble_eq_true rfl⟩ rfl hl.1 rfl (Nat.le_of_ble_eq_true rfl) dL_isWhole_162 ⟨by show _ ≤ 300; omega, by show _ ≤ 3000; omega⟩ (fun _ _ _ _ _ _ hx => False.elim hx) (fun r9 w1 H locs h9 w => ?_)
      obtain ⟨rfl, h9⟩ := h9
      have w := w.jn (L1 := [wXo G.2.1 (ad 0) (xF ad) svx K, wSh G.2.1 (ad 1) S]) (L' := [wXo G.2.1 (ad 0) (xF ad) svx K, wSh G.2.1 (ad 1) S, wSh G.2.1 (ad 2) Fc, wAb G.2.1 (ad 7) B, wAd G.2.1 (ad 6) D, wHo G.2.1 (ad 3) cu ct hs1, hsL G.2.1 hs1]) h9 7 [0, 1, 2, 3, 4, 5, 6] rfl rfl rfl
      rw [show ((S.1 2) : Int32) = (nI t) from h.t1]
      refine lv_icmp_ge (tgt := 226) F.x F.b dL_isWhole_165 (by decide) (fun _ => ?_) (fun c9 => absurd (nI_le (a := t) (b := i) (by omega) (by omega)) c9)
      exact K226 sm hsm _ _ Fc B D hs1 H locs ls (by omega) (by omega) hF w (lv_sub hl [1, 2, 3, 4, 5, 6, 7] rfl)
    | succ d ih =>
      intro i hi cells slots Fc B D hs1 H locs ls hc9 hs9 hF w hl
      refine lv_iload F.x F.b dL_isWhole_159 (lv_at hl 0 rfl) ?_
      refine lv_aload_n F.x F.b dL_isWhole_161 rfl (lv_at hl 4 rfl) ?_
      refine kXi F w hst (LC := [wXo G.2.1 (ad 0) (xF ad) svx K, wSh G.2.1 (ad 1) S]) (LR := [wSh G.2.1 (ad 2) Fc, wAb G.2.1 (ad 7) B, wAd G.2.1 (ad 6) D, wHo G.2.1 (ad 3) cu ct hs1, hsL G.2.1 hs1]) (As := []) (rest := [.int (nI i)]) ((t_X6_stepCount F.1 (x := ad 0) (a := ad 1) (rf := xF ad) (sv := svx) rfl (show f_X6_stepCount K S = some (S.1 2) from rfl)).toX : CX G yX6_stepCount cX6_stepCount 1 .int 0 0 0 0 [.ref ((ad 0) 0)] (fl [wXo G.2.1 (ad 0) (xF ad) svx K, wSh G.2.1 (ad 1) S]) _ _) m_X6_stepCount v_X6_stepCount q1268 (ci := 10) (q0 := 0) rfl rfl rfl 7 [0, 1, 2, 3, 4, 5, 6] rfl rfl rfl ⟨Nat.le_of_ble_eq_true rfl, Nat.le_of_ble_eq_true rfl⟩ rfl hl.1 rfl (Nat.le_of_ble_eq_true rfl) dL_isWhole_162 ⟨by show _ ≤ 300; omega, by show _ ≤ 3000; omega⟩ (fun _ _ _ _ _ _ hx => False.elim hx) (fun r9 w1 H locs h9 w => ?_)
      obtain ⟨rfl, h9⟩ := h9
      have w := w.jn (L1 := [wXo G.2.1 (ad 0) (xF ad) svx K, wSh G.2.1 (ad 1) S]) (L' := [wXo G.2.1 (ad 0) (xF ad) svx K, wSh G.2.1 (ad 1) S, wSh G.2.1 (ad 2) Fc, wAb G.2.1 (ad 7) B, wAd G.2.1 (ad 6) D, wHo G.2.1 (ad 3) cu ct hs1, hsL G.2.1 hs1]) h9 7 [0, 1, 2, 3, 4, 5, 6] rfl rfl rfl
      rw [show ((S.1 2) : Int32) = (nI t) from h.t1]
      have hit : i < t := by omega
      obtain ⟨et, lt, er, lr⟩ := h.T.2.2.1 i hit
      refine lv_icmp_ge (tgt := 226) F.x F.b dL_isWhole_165 (by decide) (fun c9 => absurd c9 (nI_ge (a := i) (b := t) (by omega) (by omega))) (fun _ => ?_)
      refine lv_iload F.x F.b dL_isWhole_168 (lv_at hl 1 rfl) ?_
      refine lv_aload_n F.x F.b dL_isWhole_170 rfl (lv_at hl 4 rfl) ?_
      refine lv_iload F.x F.b dL_isWhole_171 (lv_at hl 0 rfl) ?_
      refine kLi F w hst (LC := [wXo G.2.1 (ad 0) (xF ad) svx K, wSh G.2.1 (ad 1) S]) (LR := [wSh G.2.1 (ad 2) Fc, wAb G.2.1 (ad 7) B, wAd G.2.1 (ad 6) D, wHo G.2.1 (ad 3) cu ct hs1, hsL G.2.1 hs1]) (As := [.ref ((ad 0) 0), .int (nI i)]) (rest := [.int 1]) (l_rate_ok F.1 h.t1 (kk := i) hit ht6) mh_rate vh_rate (List.mem_of_getElem? (i := 1279) (by decide +kernel)) 7 [0, 1, 2, 3, 4, 5, 6] rfl rfl rfl ⟨Nat.le_of_ble_eq_true rfl, Nat.le_of_ble_eq_true rfl⟩ rfl hl.1 rfl (Nat.le_of_ble_eq_true rfl) dL_isWhole_173 ⟨by show _ ≤ 300; omega, by show _ ≤ 3000; omega⟩ (fun r9 w1 H locs h9 w => ?_)
      obtain ⟨rfl, h9⟩ := h9
      have w := w.jn (L1 := [wXo G.2.1 (ad 0) (xF ad) svx K, wSh G.2.1 (ad 1) S]) (L' := [wXo G.2.1 (ad 0) (xF ad) svx K, wSh G.2.1 (ad 1) S, wSh G.2.1 (ad 2) Fc, wAb G.2.1 (ad 7) B, wAd G.2.1 (ad 6) D, wHo G.2.1 (ad 3) cu ct hs1, hsL G.2.1 hs1]) h9 7 [0, 1, 2, 3, 4, 5, 6] rfl rfl rfl
      rw [show ((S.2 8 i) : Int32) = (nI (rat S i)) from er]
      refine lv_if_lt (tgt := 216) F.x F.b dL_isWhole_176 (by decide) (fun c9 => absurd c9 (nI_pos (n := rat S i) (by omega))) (fun _ => ?_)
      refine lv_aload_n F.x F.b dL_isWhole_179 rfl (lv_at hl 4 rfl) ?_
      refine lv_iload F.x F.b dL_isWhole_180 (lv_at hl 0 rfl) ?_
      refine kLi F w hst (LC := [wXo G.2.1 (ad 0) (xF ad) svx K, wSh G.2.1 (ad 1) S]) (LR := [wSh G.2.1 (ad 2) Fc, wAb G.2.1 (ad 7) B, wAd G.2.1 (ad 6) D, wHo G.2.1 (ad 3) cu ct hs1, hsL G.2.1 hs1]) (As := [.ref ((ad 0) 0), .int (nI i)]) (rest := [.int 1]) (l_rate_ok F.1 h.t1 (kk := i) hit ht6) mh_rate vh_rate (List.mem_of_getElem? (i := 1279) (by decide +kernel)) 7 [0, 1, 2, 3, 4, 5, 6] rfl rfl rfl ⟨Nat.le_of_ble_eq_true rfl, Nat.le_of_ble_eq_true rfl⟩ rfl hl.1 rfl (Nat.le_of_ble_eq_true rfl) dL_isWhole_182 ⟨by show _ ≤ 300; omega, by show _ ≤ 3000; omega⟩ (fun r9 w1 H locs h9 w => ?_)
      obtain ⟨rfl, h9⟩ := h9
      have w := w.jn (L1 := [wXo G.2.1 (ad 0) (xF ad) svx K, wSh G.2.1 (ad 1) S]) (L' := [wXo G.2.1 (ad 0) (xF ad) svx K, wSh G.2.1 (ad 1) S, wSh G.2.1 (ad 2) Fc, wAb G.2.1 (ad 7) B, wAd G.2.1 (ad 6) D, wHo G.2.1 (ad 3) cu ct hs1, hsL G.2.1 hs1]) h9 7 [0, 1, 2, 3, 4, 5, 6] rfl rfl rfl
      rw [show ((S.2 8 i) : Int32) = (nI (rat S i)) from er]
      refine lv_bipush (v := 100) F.x F.b dL_isWhole_185 (by decide) ?_
      refine lv_icmp_gt (tgt := 216) F.x F.b dL_isWhole_187 (by decide) (fun c9 => absurd c9 (show ¬ (100 : Int32) < nI (rat S i) from nI_nlt (a := 100) (b := rat S i) lr (by omega))) (fun _ => ?_)
      refine lv_iload F.x F.b dL_isWhole_190 (lv_at hl 0 rfl) ?_
      rcases Nat.eq_zero_or_pos i with hi0 | hi0
      · refine lv_if_eq (tgt := 212) F.x F.b dL_isWhole_192 (by decide) (fun _ => ?_) (fun c9 => absurd (show nI i = 0 by rw [hi0]; rfl) c9)
        refine lv_iconst (v := 1) F.x F.b dL_isWhole_212 (by decide) ?_
        refine lv_goto (tgt := 217) F.x F.b dL_isWhole_213 (by decide) ?_
        refine lv_iand F.x F.b dL_isWhole_217 ?_
        rw [show ((1 &&& 1) : Int32) = 1 from (by decide)]
        refine lv_istore (lv' := [(9, .int 1), (10, .int (nI i)), (6, .int (nI sm)), (5, .int 1), (0, .ref ((ad 0) 0)), (1, .ref b), (2, .int (nI k)), (3, .int f)]) F.x F.b dL_isWhole_218 hl (by decide) rfl (fun ls hl => ?_)
        refine lv_iinc (v := (nI (i + 1))) (lv' := [(10, .int (nI (i + 1))), (9, .int 1), (6, .int (nI sm)), (5, .int 1), (0, .ref ((ad 0) 0)), (1, .ref b), (2, .int (nI k)), (3, .int f)]) F.x F.b dL_isWhole_220 hl (k := 1) rfl (nI_1 i) (by decide) rfl (fun ls hl => ?_)
        refine lv_goto (tgt := 159) F.x F.b dL_isWhole_223 (by decide) ?_
        exact ih (i + 1) (by omega) _ _ Fc B D hs1 H locs ls (by omega) (by omega) hF w (lv_sub hl [0, 1, 2, 3, 4, 5, 6, 7] rfl)
      · obtain ⟨et1, lt1, -, -⟩ := h.T.2.2.1 (i - 1) (by omega)
        have hlt := h.T.2.2.2 (i - 1) i (by omega) hit
        refine lv_if_eq (tgt := 212) F.x F.b dL_isWhole_192 (by decide) (fun c9 => absurd c9 (fun z => absurd ((nI_eq (a := i) (b := 0) (by omega) (by omega)).mp z) (by omega))) (fun _ => ?_)
        refine lv_aload_n F.x F.b dL_isWhole_195 rfl (lv_at hl 4 rfl) ?_
        refine lv_iload F.x F.b dL_isWhole_196 (lv_at hl 0 rfl) ?_
        refine lv_iconst (v := 1) F.x F.b dL_isWhole_198 (by decide) ?_
        refine lv_isub F.x F.b dL_isWhole_199 ?_
        rw [show (((nI i) - 1) : Int32) = (nI (i - 1)) from (pk_sub (a := i) (b := 1) (by omega))]
        refine kLi F w hst (LC := [wXo G.2.1 (ad 0) (xF ad) svx K, wSh G.2.1 (ad 1) S]) (LR := [wSh G.2.1 (ad 2) Fc, wAb G.2.1 (ad 7) B, wAd G.2.1 (ad 6) D, wHo G.2.1 (ad 3) cu ct hs1, hsL G.2.1 hs1]) (As := [.ref ((ad 0) 0), .int (nI (i - 1))]) (rest := [.int 1]) (l_threshold_ok F.1 h.t1 (kk := i - 1) (by omega) ht6) mh_threshold vh_threshold (List.mem_of_getElem? (i := 1272) (by decide +kernel)) 7 [0, 1, 2, 3, 4, 5, 6] rfl rfl rfl ⟨Nat.le_of_ble_eq_true rfl, Nat.le_of_ble_eq_true rfl⟩ rfl hl.1 rfl (Nat.le_of_ble_eq_true rfl) dL_isWhole_200 ⟨by show _ ≤ 300; omega, by show _ ≤ 3000; omega⟩ (fun r9 w1 H locs h9 w => ?_)
        obtain ⟨rfl, h9⟩ := h9
        have w := w.jn (L1 := [wXo G.2.1 (ad 0) (xF ad) svx K, wSh G.2.1 (ad 1) S]) (L' := [wXo G.2.1 (ad 0) (xF ad) svx K, wSh G.2.1 (ad 1) S, wSh G.2.1 (ad 2) Fc, wAb G.2.1 (ad 7) B, wAd G.2.1 (ad 6) D, wHo G.2.1 (ad 3) cu ct hs1, hsL G.2.1 hs1]) h9 7 [0, 1, 2, 3, 4, 5, 6] rfl rfl rfl
        rw [show ((S.2 7 (i - 1)) : Int32) = (nI (thr S (i - 1))) from et1]
        refine lv_aload_n F.x F.b dL_isWhole_203 rfl (lv_at hl 4 rfl) ?_
        refine lv_iload F.x F.b dL_isWhole_204 (lv_at hl 0 rfl) ?_
        refine kLi F w hst (LC := [wXo G.2.1 (ad 0) (xF ad) svx K, wSh G.2.1 (ad 1) S]) (LR := [wSh G.2.1 (ad 2) Fc, wAb G.2.1 (ad 7) B, wAd G.2.1 (ad 6) D, wHo G.2.1 (ad 3) cu ct hs1, hsL G.2.1 hs1]) (As := [.ref ((ad 0) 0), .int (nI i)]) (rest := [.int (nI (thr S (i - 1))), .int 1]) (l_threshold_ok F.1 h.t1 (kk := i) hit ht6) mh_threshold vh_threshold (List.mem_of_getElem? (i := 1272) (by decide +kernel)) 7 [0, 1, 2, 3, 4, 5, 6] rfl rfl rfl ⟨Nat.le_of_ble_eq_true rfl, Nat.le_of_ble_eq_true rfl⟩ rfl hl.1 rfl (Nat.le_of_ble_eq_true rfl) dL_isWhole_206 ⟨by show _ ≤ 300; omega, by show _ ≤ 3000; omega⟩ (fun r9 w1 H locs h9 w => ?_)
        obtain ⟨rfl, h9⟩ := h9
        have w := w.jn (L1 := [wXo G.2.1 (ad 0) (xF ad) svx K, wSh G.2.1 (ad 1) S]) (L' := [wXo G.2.1 (ad 0) (xF ad) svx K, wSh G.2.1 (ad 1) S, wSh G.2.1 (ad 2) Fc, wAb G.2.1 (ad 7) B, wAd G.2.1 (ad 6) D, wHo G.2.1 (ad 3) cu ct hs1, hsL G.2.1 hs1]) h9 7 [0, 1, 2, 3, 4, 5, 6] rfl rfl rfl
        rw [show ((S.2 7 i) : Int32) = (nI (thr S i)) from et]
        refine lv_icmp_ge (tgt := 216) F.x F.b dL_isWhole_209 (by decide) (fun c9 => absurd c9 (nI_ge (a := thr S (i - 1)) (b := thr S i) hlt (by omega))) (fun _ => ?_)
        refine lv_iconst (v := 1) F.x F.b dL_isWhole_212 (by decide) ?_
        refine lv_goto (tgt := 217) F.x F.b dL_isWhole_213 (by decide) ?_
        refine lv_iand F.x F.b dL_isWhole_217 ?_
        rw [show ((1 &&& 1) : Int32) = 1 from (by decide)]
        refine lv_istore (lv' := [(9, .int 1), (10, .int (nI i)), (6, .int (nI sm)), (5, .int 1), (0, .ref ((ad 0) 0)), (1, .ref b), (2, .int (nI k)), (3, .int f)]) F.x F.b dL_isWhole_218 hl (by decide) rfl (fun ls hl => ?_)
        refine lv_iinc (v := (nI (i + 1))) (lv' := [(10, .int (nI (i + 1))), (9, .int 1), (6, .int (nI sm)), (5, .int 1), (0, .ref ((ad 0) 0)), (1, .ref b), (2, .int (nI k)), (3, .int f)]) F.x F.b dL_isWhole_220 hl (k := 1) rfl (nI_1 i) (by decide) rfl (fun ls hl => ?_)
        refine lv_goto (tgt := 159) F.x F.b dL_isWhole_223 (by decide) ?_
        exact ih (i + 1) (by omega) _ _ Fc B D hs1 H locs ls (by omega) (by omega) hF w (lv_sub hl [0, 1, 2, 3, 4, 5, 6, 7] rfl)
  have K65 : ∀ (cells slots : Nat) (Fc B D : Mem) (hs1 : hS) (H : Heap) (locs : List Loc) (ls : Array Slot), cells ≤ 0 → slots ≤ 0 → HF cu hs hs1 → Wd G A s.heap (fl [wXo G.2.1 (ad 0) (xF ad) svx K, wSh G.2.1 (ad 1) S, wSh G.2.1 (ad 2) Fc, wAb G.2.1 (ad 7) B, wAd G.2.1 (ad 6) D, wHo G.2.1 (ad 3) cu ct hs1, hsL G.2.1 hs1]) H locs → lv_has ls 13 [(5, .int 1), (0, .ref ((ad 0) 0)), (1, .ref b), (2, .int (nI k)), (3, .int f)] → W p l e { frames := 10, cells := 300, slots := 3000, locals := 166 } s m args below meth cm H locs cells slots (XI G A PP NX 300 3000 below args s) (F0 m 65 ls []) := by
    intro cells slots Fc B D hs1 H locs ls hc9 hs9 hF w hl
    refine lv_aload_n F.x F.b dL_isWhole_65 rfl (lv_at hl 2 rfl) ?_
    refine lv_iload_n F.x F.b dL_isWhole_66 rfl (lv_at hl 3 rfl) ?_
    refine lv_iconst (v := 1) F.x F.b dL_isWhole_67 (by decide) ?_
    refine lv_iadd F.x F.b dL_isWhole_68 ?_
    rw [show (((nI k) + 1) : Int32) = (nI (k + 1)) from (nI_add k 1)]
    refine lv_sipush (v := 10000) F.x F.b dL_isWhole_69 (by decide) ?_
    rw [show (10000 : Int32) = (nI 10000) from rfl]
    refine kBi F w hst (LC := []) (LR := [wXo G.2.1 (ad 0) (xF ad) svx K, wSh G.2.1 (ad 1) S, wSh G.2.1 (ad 2) Fc, wAb G.2.1 (ad 7) B, wAd G.2.1 (ad 6) D, wHo G.2.1 (ad 3) cu ct hs1, hsL G.2.1 hs1]) (As := [.ref b, .int (nI (k + 1)), .int (nI 10000)]) (rest := []) (w_pick F.1 hXS (k := k + 1) (n := 10000) (by omega) (by omega) (by omega)) m_L_pick v_L_pick q353 7 [0, 1, 2, 3, 4, 5, 6] rfl rfl rfl ⟨Nat.le_of_ble_eq_true rfl, Nat.le_of_ble_eq_true rfl⟩ rfl hl.1 rfl (Nat.le_of_ble_eq_true rfl) dL_isWhole_72 ⟨by show _ ≤ 300; omega, by show _ ≤ 3000; omega⟩ (fun r9 w1 H locs h9 w => ?_)
    obtain ⟨⟨sm, hsm, rfl⟩, h9⟩ := h9
    have w := w.jn (L1 := []) (L' := [wXo G.2.1 (ad 0) (xF ad) svx K, wSh G.2.1 (ad 1) S, wSh G.2.1 (ad 2) Fc, wAb G.2.1 (ad 7) B, wAd G.2.1 (ad 6) D, wHo G.2.1 (ad 3) cu ct hs1, hsL G.2.1 hs1]) h9 7 [0, 1, 2, 3, 4, 5, 6] rfl rfl rfl
    refine lv_istore (lv' := [(6, .int (nI sm)), (5, .int 1), (0, .ref ((ad 0) 0)), (1, .ref b), (2, .int (nI k)), (3, .int f)]) F.x F.b dL_isWhole_75 hl (by decide) rfl (fun ls hl => ?_)
    refine lv_sipush (v := 9999) F.x F.b dL_isWhole_77 (by decide) ?_
    refine lv_iload F.x F.b dL_isWhole_80 (lv_at hl 0 rfl) ?_
    refine lv_aload_n F.x F.b dL_isWhole_82 rfl (lv_at hl 3 rfl) ?_
    refine lv_iload_n F.x F.b dL_isWhole_83 rfl (lv_at hl 4 rfl) ?_
    refine lv_iconst (v := 2) F.x F.b dL_isWhole_84 (by decide) ?_
    refine lv_iadd F.x F.b dL_isWhole_85 ?_
    rw [show (((nI k) + 2) : Int32) = (nI (k + 2)) from (nI_add k 2)]
    refine lv_sipush (v := 300) F.x F.b dL_isWhole_86 (by decide) ?_
    rw [show (300 : Int32) = (nI 300) from rfl]
    refine kBi F w hst (LC := []) (LR := [wXo G.2.1 (ad 0) (xF ad) svx K, wSh G.2.1 (ad 1) S, wSh G.2.1 (ad 2) Fc, wAb G.2.1 (ad 7) B, wAd G.2.1 (ad 6) D, wHo G.2.1 (ad 3) cu ct hs1, hsL G.2.1 hs1]) (As := [.ref b, .int (nI (k + 2)), .int (nI 300)]) (rest := [.int (nI sm), .int 9999]) (w_pick F.1 hXS (k := k + 2) (n := 300) (by omega) (by omega) (by omega)) m_L_pick v_L_pick q353 7 [0, 1, 2, 3, 4, 5, 6] rfl rfl rfl ⟨Nat.le_of_ble_eq_true rfl, Nat.le_of_ble_eq_true rfl⟩ rfl hl.1 rfl (Nat.le_of_ble_eq_true rfl) dL_isWhole_89 ⟨by show _ ≤ 300; omega, by show _ ≤ 3000; omega⟩ (fun r9 w1 H locs h9 w => ?_)
    obtain ⟨⟨mm, hmm, rfl⟩, h9⟩ := h9
    have w := w.jn (L1 := []) (L' := [wXo G.2.1 (ad 0) (xF ad) svx K, wSh G.2.1 (ad 1) S, wSh G.2.1 (ad 2) Fc, wAb G.2.1 (ad 7) B, wAd G.2.1 (ad 6) D, wHo G.2.1 (ad 3) cu ct hs1, hsL G.2.1 hs1]) h9 7 [0, 1, 2, 3, 4, 5, 6] rfl rfl rfl
    refine lv_iadd F.x F.b dL_isWhole_92 ?_
    rw [show (((nI sm) + (nI mm)) : Int32) = (nI (sm + mm)) from (nI_add sm mm)]
    obtain ⟨gr, hgr⟩ : ∃ gr, gr = (if sm + mm < 9999 then sm + mm else 9999) := ⟨_, rfl⟩
    have hg1 : sm ≤ gr ∧ gr ≤ 9999 := by rw [hgr]; split <;> omega
    refine va_mmin F.x F.b (F.ml.trans hl.1.symm) F.o (F.t _ (List.mem_of_getElem? (i := 1311) (by decide +kernel)) rfl _) (F.t _ (List.mem_of_getElem? (i := 344) (by decide +kernel)) rfl _) (F.t _ (List.mem_of_getElem? (i := 34) (by decide +kernel)) rfl _) (F.t _ (List.mem_of_getElem? (i := 345) (by decide +kernel)) rfl _) (by decide) (Nat.le_of_ble_eq_true rfl) (by show _ ≤ 300; omega) (by show _ ≤ 3000; omega) dL_isWhole_93 ?_
    rw [show (if ((nI (sm + mm)) : Int32) < 9999 then (nI (sm + mm)) else 9999) = (nI gr) from (min99 hgr (by omega))]
    refine lv_istore (lv' := [(7, .int (nI gr)), (6, .int (nI sm)), (5, .int 1), (0, .ref ((ad 0) 0)), (1, .ref b), (2, .int (nI k)), (3, .int f)]) F.x F.b dL_isWhole_96 hl (by decide) rfl (fun ls hl => ?_)
    refine lv_aload_n F.x F.b dL_isWhole_98 rfl (lv_at hl 3 rfl) ?_
    refine lv_iload F.x F.b dL_isWhole_99 (lv_at hl 0 rfl) ?_
    have hgw := dty_grow h.T hg1.1
    have hdl := dty_le h.T sm
    refine kLi F w hst (LC := [wXo G.2.1 (ad 0) (xF ad) svx K, wSh G.2.1 (ad 1) S]) (LR := [wSh G.2.1 (ad 2) Fc, wAb G.2.1 (ad 7) B, wAd G.2.1 (ad 6) D, wHo G.2.1 (ad 3) cu ct hs1, hsL G.2.1 hs1]) (As := [.ref ((ad 0) 0), .int (nI gr)]) (rest := []) (l_dutyOn_ok F.1 (rng99 (by omega)) (h.parts (v := gr) (by omega)).1) mh_dutyOn vh_dutyOn (List.mem_of_getElem? (i := 1312) (by decide +kernel)) 7 [0, 1, 2, 3, 4, 5, 6] rfl rfl rfl ⟨Nat.le_of_ble_eq_true rfl, Nat.le_of_ble_eq_true rfl⟩ rfl hl.1 rfl (Nat.le_of_ble_eq_true rfl) dL_isWhole_101 ⟨by show _ ≤ 300; omega, by show _ ≤ 3000; omega⟩ (fun r9 w1 H locs h9 w => ?_)
    obtain ⟨rfl, h9⟩ := h9
    have w := w.jn (L1 := [wXo G.2.1 (ad 0) (xF ad) svx K, wSh G.2.1 (ad 1) S]) (L' := [wXo G.2.1 (ad 0) (xF ad) svx K, wSh G.2.1 (ad 1) S, wSh G.2.1 (ad 2) Fc, wAb G.2.1 (ad 7) B, wAd G.2.1 (ad 6) D, wHo G.2.1 (ad 3) cu ct hs1, hsL G.2.1 hs1]) h9 7 [0, 1, 2, 3, 4, 5, 6] rfl rfl rfl
    refine lv_aload_n F.x F.b dL_isWhole_104 rfl (lv_at hl 3 rfl) ?_
    refine lv_iload F.x F.b dL_isWhole_105 (lv_at hl 1 rfl) ?_
    refine kLi F w hst (LC := [wXo G.2.1 (ad 0) (xF ad) svx K, wSh G.2.1 (ad 1) S]) (LR := [wSh G.2.1 (ad 2) Fc, wAb G.2.1 (ad 7) B, wAd G.2.1 (ad 6) D, wHo G.2.1 (ad 3) cu ct hs1, hsL G.2.1 hs1]) (As := [.ref ((ad 0) 0), .int (nI sm)]) (rest := [.int (nI (dty S t gr))]) (l_dutyOn_ok F.1 (rng99 (by omega)) (h.parts (v := sm) (by omega)).1) mh_dutyOn vh_dutyOn (List.mem_of_getElem? (i := 1312) (by decide +kernel)) 7 [0, 1, 2, 3, 4, 5, 6] rfl rfl rfl ⟨Nat.le_of_ble_eq_true rfl, Nat.le_of_ble_eq_true rfl⟩ rfl hl.1 rfl (Nat.le_of_ble_eq_true rfl) dL_isWhole_107 ⟨by show _ ≤ 300; omega, by show _ ≤ 3000; omega⟩ (fun r9 w1 H locs h9 w => ?_)
    obtain ⟨rfl, h9⟩ := h9
    have w := w.jn (L1 := [wXo G.2.1 (ad 0) (xF ad) svx K, wSh G.2.1 (ad 1) S]) (L' := [wXo G.2.1 (ad 0) (xF ad) svx K, wSh G.2.1 (ad 1) S, wSh G.2.1 (ad 2) Fc, wAb G.2.1 (ad 7) B, wAd G.2.1 (ad 6) D, wHo G.2.1 (ad 3) cu ct hs1, hsL G.2.1 hs1]) h9 7 [0, 1, 2, 3, 4, 5, 6] rfl rfl rfl
    refine lv_isub F.x F.b dL_isWhole_110 ?_
    rw [show (((nI (dty S t gr)) - (nI (dty S t sm))) : Int32) = (nI (dty S t gr - dty S t sm)) from (pk_sub hgw.1)]
    have hdb := dty_le h.T gr
    refine lv_istore (lv' := [(8, .int (nI (dty S t gr - dty S t sm))), (7, .int (nI gr)), (6, .int (nI sm)), (5, .int 1), (0, .ref ((ad 0) 0)), (1, .ref b), (2, .int (nI k)), (3, .int f)]) F.x F.b dL_isWhole_111 hl (by decide) rfl (fun ls hl => ?_)
    refine lv_iload F.x F.b dL_isWhole_113 (lv_at hl 0 rfl) ?_
    refine lv_if_lt (tgt := 153) F.x F.b dL_isWhole_115 (by decide) (fun c9 => absurd c9 (nI_pos (n := dty S t gr - dty S t sm) (by omega))) (fun _ => ?_)
    refine lv_iload F.x F.b dL_isWhole_118 (lv_at hl 0 rfl) ?_
    refine lv_iload F.x F.b dL_isWhole_120 (lv_at hl 1 rfl) ?_
    refine lv_iload F.x F.b dL_isWhole_122 (lv_at hl 2 rfl) ?_
    refine lv_isub F.x F.b dL_isWhole_124 ?_
    refine lv_iconst (v := 1) F.x F.b dL_isWhole_125 (by decide) ?_
    refine lv_iadd F.x F.b dL_isWhole_126 ?_
    rw [show ((((nI gr) - (nI sm)) + 1) : Int32) = (nI (gr - sm + 1)) from (by rw [pk_sub hg1.1, li_1, nI_add])]
    refine lv_icmp_gt (tgt := 153) F.x F.b dL_isWhole_127 (by decide) (fun c9 => absurd c9 (nI_nlt (a := gr - sm + 1) (b := dty S t gr - dty S t sm) (by omega) (by omega))) (fun _ => ?_)
    refine lv_aload_n F.x F.b dL_isWhole_130 rfl (lv_at hl 4 rfl) ?_
    refine lv_iload F.x F.b dL_isWhole_131 (lv_at hl 2 rfl) ?_
    refine kLi F w hst (LC := [wXo G.2.1 (ad 0) (xF ad) svx K, wSh G.2.1 (ad 1) S]) (LR := [wSh G.2.1 (ad 2) Fc, wAb G.2.1 (ad 7) B, wAd G.2.1 (ad 6) D, wHo G.2.1 (ad 3) cu ct hs1, hsL G.2.1 hs1]) (As := [.ref ((ad 0) 0), .int (nI sm)]) (rest := []) (l_dutyOn_ok F.1 (rng99 (by omega)) (h.parts (v := sm) (by omega)).1) mh_dutyOn vh_dutyOn (List.mem_of_getElem? (i := 1312) (by decide +kernel)) 7 [0, 1, 2, 3, 4, 5, 6] rfl rfl rfl ⟨Nat.le_of_ble_eq_true rfl, Nat.le_of_ble_eq_true rfl⟩ rfl hl.1 rfl (Nat.le_of_ble_eq_true rfl) dL_isWhole_133 ⟨by show _ ≤ 300; omega, by show _ ≤ 3000; omega⟩ (fun r9 w1 H locs h9 w => ?_)
    obtain ⟨rfl, h9⟩ := h9
    have w := w.jn (L1 := [wXo G.2.1 (ad 0) (xF ad) svx K, wSh G.2.1 (ad 1) S]) (L' := [wXo G.2.1 (ad 0) (xF ad) svx K, wSh G.2.1 (ad 1) S, wSh G.2.1 (ad 2) Fc, wAb G.2.1 (ad 7) B, wAd G.2.1 (ad 6) D, wHo G.2.1 (ad 3) cu ct hs1, hsL G.2.1 hs1]) h9 7 [0, 1, 2, 3, 4, 5, 6] rfl rfl rfl
    refine lv_iload F.x F.b dL_isWhole_136 (lv_at hl 2 rfl) ?_
    refine lv_icmp_gt (tgt := 153) F.x F.b dL_isWhole_138 (by decide) (fun c9 => absurd c9 (nI_nlt (a := sm) (b := dty S t sm) hdl (by omega))) (fun _ => ?_)
    refine lv_aload_n F.x F.b dL_isWhole_141 rfl (lv_at hl 4 rfl) ?_
    refine lv_iconst (v := 0) F.x F.b dL_isWhole_142 (by decide) ?_
    rw [show (0 : Int32) = (nI 0) from rfl]
    refine kLi F w hst (LC := [wXo G.2.1 (ad 0) (xF ad) svx K, wSh G.2.1 (ad 1) S]) (LR := [wSh G.2.1 (ad 2) Fc, wAb G.2.1 (ad 7) B, wAd G.2.1 (ad 6) D, wHo G.2.1 (ad 3) cu ct hs1, hsL G.2.1 hs1]) (As := [.ref ((ad 0) 0), .int (nI 0)]) (rest := []) (l_dutyOn_ok F.1 (rng99 (by omega)) (h.parts (v := 0) (by omega)).1) mh_dutyOn vh_dutyOn (List.mem_of_getElem? (i := 1312) (by decide +kernel)) 7 [0, 1, 2, 3, 4, 5, 6] rfl rfl rfl ⟨Nat.le_of_ble_eq_true rfl, Nat.le_of_ble_eq_true rfl⟩ rfl hl.1 rfl (Nat.le_of_ble_eq_true rfl) dL_isWhole_143 ⟨by show _ ≤ 300; omega, by show _ ≤ 3000; omega⟩ (fun r9 w1 H locs h9 w => ?_)
    obtain ⟨rfl, h9⟩ := h9
    have w := w.jn (L1 := [wXo G.2.1 (ad 0) (xF ad) svx K, wSh G.2.1 (ad 1) S]) (L' := [wXo G.2.1 (ad 0) (xF ad) svx K, wSh G.2.1 (ad 1) S, wSh G.2.1 (ad 2) Fc, wAb G.2.1 (ad 7) B, wAd G.2.1 (ad 6) D, wHo G.2.1 (ad 3) cu ct hs1, hsL G.2.1 hs1]) h9 7 [0, 1, 2, 3, 4, 5, 6] rfl rfl rfl
    refine lv_if_ne (tgt := 153) F.x F.b dL_isWhole_146 (by decide) (fun c9 => absurd (show nI (dty S t 0) = 0 by rw [dty_0]; rfl) c9) (fun _ => ?_)
    refine lv_iconst (v := 1) F.x F.b dL_isWhole_149 (by decide) ?_
    refine lv_goto (tgt := 154) F.x F.b dL_isWhole_150 (by decide) ?_
    refine lv_istore (lv' := [(9, .int 1), (8, .int (nI (dty S t gr - dty S t sm))), (7, .int (nI gr)), (6, .int (nI sm)), (5, .int 1), (0, .ref ((ad 0) 0)), (1, .ref b), (2, .int (nI k)), (3, .int f)]) F.x F.b dL_isWhole_154 hl (by decide) rfl (fun ls hl => ?_)
    refine lv_iconst (v := 0) F.x F.b dL_isWhole_156 (by decide) ?_
    refine lv_istore (lv' := [(10, .int 0), (9, .int 1), (8, .int (nI (dty S t gr - dty S t sm))), (7, .int (nI gr)), (6, .int (nI sm)), (5, .int 1), (0, .ref ((ad 0) 0)), (1, .ref b), (2, .int (nI k)), (3, .int f)]) F.x F.b dL_isWhole_157 hl (by decide) rfl (fun ls hl => ?_)
    exact L159 sm hsm t 0 (by omega) _ _ Fc B D hs1 H locs ls (by omega) (by omega) hF w (lv_sub hl [0, 1, 4, 5, 6, 7, 8, 9] rfl)
  have K36 : ∀ (cells slots : Nat) (B : Mem) (H : Heap) (locs : List Loc) (ls : Array Slot), cells ≤ 0 → slots ≤ 0 → Wd G A s.heap (fl [wXo G.2.1 (ad 0) (xF ad) svx K, wSh G.2.1 (ad 1) S, wSh G.2.1 (ad 2) Fc, wAb G.2.1 (ad 7) B, wAd G.2.1 (ad 6) D, wHo G.2.1 (ad 3) cu ct hs, hsL G.2.1 hs]) H locs → lv_has ls 13 [(4, .int (nI (rch S c))), (0, .ref ((ad 0) 0)), (1, .ref b), (2, .int (nI k)), (3, .int f)] → W p l e { frames := 10, cells := 300, slots := 3000, locals := 166 } s m args below meth cm H locs cells slots (XI G A PP NX 300 3000 below args s) (F0 m 36 ls []) := by
    intro cells slots B H locs ls hc9 hs9 w hl
    have hd24 := dmN_24 (S := S) (c := c)
    have hr24 := rch_le (S := S) (c := c)
    obtain ⟨F1, F2, ra, ha1, ha2, ha3, ha4, ha5, ha6, -, -⟩ := h.after Fc (e := 0) (by omega)
    obtain ⟨F3, F4, rb, hb1, hb2, hb3, hb4, hb5, -, hb7, -⟩ := h.after F2 (e := 1) (by omega)
    have ha6 := ha6 rfl
    have hb7 := hb7 rfl
    refine lv_aload_n F.x F.b dL_isWhole_36 rfl (lv_at hl 1 rfl) ?_
    refine lv_iconst (v := 0) F.x F.b dL_isWhole_37 (by decide) ?_
    rw [show (0 : Int32) = (nI 0) from rfl]
    refine kLi F w hst (LC := [wXo G.2.1 (ad 0) (xF ad) svx K, wSh G.2.1 (ad 1) S, wSh G.2.1 (ad 2) Fc]) (LR := [wAb G.2.1 (ad 7) B, wAd G.2.1 (ad 6) D, wHo G.2.1 (ad 3) cu ct hs, hsL G.2.1 hs]) (As := [.ref ((ad 0) 0), .int (nI 0)]) (rest := []) (l_dampAfter_ok F.1 (nn := 0) (by omega) ha1 ha2 ha3 ha4) mh_dampAfter vh_dampAfter (List.mem_of_getElem? (i := 518) (by decide +kernel)) 7 [0, 1, 2, 3, 4, 5, 6] rfl rfl rfl ⟨Nat.le_of_ble_eq_true rfl, Nat.le_of_ble_eq_true rfl⟩ rfl hl.1 rfl (Nat.le_of_ble_eq_true rfl) dL_isWhole_38 ⟨by show _ ≤ 300; omega, by show _ ≤ 3000; omega⟩ (fun r9 w1 H locs h9 w => ?_)
    obtain ⟨rfl, h9⟩ := h9
    have w := w.jn (L1 := [wXo G.2.1 (ad 0) (xF ad) svx K, wSh G.2.1 (ad 1) S, wSh G.2.1 (ad 2) F2]) (L' := [wXo G.2.1 (ad 0) (xF ad) svx K, wSh G.2.1 (ad 1) S, wSh G.2.1 (ad 2) F2, wAb G.2.1 (ad 7) B, wAd G.2.1 (ad 6) D, wHo G.2.1 (ad 3) cu ct hs, hsL G.2.1 hs]) h9 7 [0, 1, 2, 3, 4, 5, 6] rfl rfl rfl
    refine lv_aload_n F.x F.b dL_isWhole_41 rfl (lv_at hl 1 rfl) ?_
    refine kXi F w hst (LC := [wXo G.2.1 (ad 0) (xF ad) svx K, wSh G.2.1 (ad 1) S]) (LR := [wSh G.2.1 (ad 2) F2, wAb G.2.1 (ad 7) B, wAd G.2.1 (ad 6) D, wHo G.2.1 (ad 3) cu ct hs, hsL G.2.1 hs]) (As := []) (rest := [.int (nI ra)]) ((t_X6_dampCount F.1 (x := ad 0) (a := ad 1) (rf := xF ad) (sv := svx) rfl (show f_X6_dampCount K S = some (nI (dmN S c)) from by rw [f_X6_dampCount, h.damps, h.dampN]; rfl)).toX : CX G yX6_dampCount cX6_dampCount 1 .int 1 22 0 0 [.ref ((ad 0) 0)] (fl [wXo G.2.1 (ad 0) (xF ad) svx K, wSh G.2.1 (ad 1) S]) _ _) m_X6_dampCount v_X6_dampCount q295 (ci := 10) (q0 := 0) rfl rfl rfl 7 [0, 1, 2, 3, 4, 5, 6] rfl rfl rfl ⟨Nat.le_of_ble_eq_true rfl, Nat.le_of_ble_eq_true rfl⟩ rfl hl.1 rfl (Nat.le_of_ble_eq_true rfl) dL_isWhole_42 ⟨by show _ ≤ 300; omega, by show _ ≤ 3000; omega⟩ (fun _ _ _ _ _ _ hx => False.elim hx) (fun r9 w1 H locs h9 w => ?_)
    obtain ⟨rfl, h9⟩ := h9
    have w := w.jn (L1 := [wXo G.2.1 (ad 0) (xF ad) svx K, wSh G.2.1 (ad 1) S]) (L' := [wXo G.2.1 (ad 0) (xF ad) svx K, wSh G.2.1 (ad 1) S, wSh G.2.1 (ad 2) F2, wAb G.2.1 (ad 7) B, wAd G.2.1 (ad 6) D, wHo G.2.1 (ad 3) cu ct hs, hsL G.2.1 hs]) h9 7 [0, 1, 2, 3, 4, 5, 6] rfl rfl rfl
    refine lv_icmp_ne (tgt := 62) F.x F.b dL_isWhole_45 (by decide) (fun c9 => absurd (show nI ra = nI (dmN S c) by rw [ha6]) c9) (fun _ => ?_)
    refine lv_aload_n F.x F.b dL_isWhole_48 rfl (lv_at hl 1 rfl) ?_
    refine lv_iconst (v := 1) F.x F.b dL_isWhole_49 (by decide) ?_
    rw [show (1 : Int32) = (nI 1) from rfl]
    refine kLi F w hst (LC := [wXo G.2.1 (ad 0) (xF ad) svx K, wSh G.2.1 (ad 1) S, wSh G.2.1 (ad 2) F2]) (LR := [wAb G.2.1 (ad 7) B, wAd G.2.1 (ad 6) D, wHo G.2.1 (ad 3) cu ct hs, hsL G.2.1 hs]) (As := [.ref ((ad 0) 0), .int (nI 1)]) (rest := []) (l_dampAfter_ok F.1 (nn := 1) (by omega) hb1 hb2 hb3 hb4) mh_dampAfter vh_dampAfter (List.mem_of_getElem? (i := 518) (by decide +kernel)) 7 [0, 1, 2, 3, 4, 5, 6] rfl rfl rfl ⟨Nat.le_of_ble_eq_true rfl, Nat.le_of_ble_eq_true rfl⟩ rfl hl.1 rfl (Nat.le_of_ble_eq_true rfl) dL_isWhole_50 ⟨by show _ ≤ 300; omega, by show _ ≤ 3000; omega⟩ (fun r9 w1 H locs h9 w => ?_)
    obtain ⟨rfl, h9⟩ := h9
    have w := w.jn (L1 := [wXo G.2.1 (ad 0) (xF ad) svx K, wSh G.2.1 (ad 1) S, wSh G.2.1 (ad 2) F4]) (L' := [wXo G.2.1 (ad 0) (xF ad) svx K, wSh G.2.1 (ad 1) S, wSh G.2.1 (ad 2) F4, wAb G.2.1 (ad 7) B, wAd G.2.1 (ad 6) D, wHo G.2.1 (ad 3) cu ct hs, hsL G.2.1 hs]) h9 7 [0, 1, 2, 3, 4, 5, 6] rfl rfl rfl
    refine lv_iload F.x F.b dL_isWhole_53 (lv_at hl 0 rfl) ?_
    refine lv_icmp_gt (tgt := 62) F.x F.b dL_isWhole_55 (by decide) (fun c9 => absurd c9 (nI_nlt (a := rch S c) (b := rb) hb7 (by omega))) (fun _ => ?_)
    refine lv_iconst (v := 1) F.x F.b dL_isWhole_58 (by decide) ?_
    refine lv_goto (tgt := 63) F.x F.b dL_isWhole_59 (by decide) ?_
    refine lv_istore (lv' := [(5, .int 1), (4, .int (nI (rch S c))), (0, .ref ((ad 0) 0)), (1, .ref b), (2, .int (nI k)), (3, .int f)]) F.x F.b dL_isWhole_63 hl (by decide) rfl (fun ls hl => ?_)
    exact K65 _ _ F4 B D hs H locs ls (by omega) (by omega) (HF.rf cu hs) w (lv_sub hl [0, 2, 3, 4, 5] rfl)
  obtain ⟨B1, hB1⟩ := h.reachQ B
  refine lv_aload_n F.x F.b dL_isWhole_0 rfl (lv_at hl 0 rfl) ?_
  refine kXi F w hst (LC := [wXo G.2.1 (ad 0) (xF ad) svx K, wSh G.2.1 (ad 1) S, wAb G.2.1 (ad 7) B]) (LR := [wSh G.2.1 (ad 2) Fc, wAd G.2.1 (ad 6) D, wHo G.2.1 (ad 3) cu ct hs, hsL G.2.1 hs]) (As := []) (rest := []) ((t_X6_dampReach F.1 (x := ad 0) (a := ad 1) (ba := ad 7) (rf := xF ad) (sv := svx) rfl (rfl : (xF ad) 6 = (ad 7) 0) (show f_X6_dampReach K S B = some (nI (rch S c), B1) from by rw [f_X6_dampReach, hB1]; rfl)).toX : CX G yX6_dampReach cX6_dampReach 1 .int 3 67 0 0 [.ref ((ad 0) 0)] (fl [wXo G.2.1 (ad 0) (xF ad) svx K, wSh G.2.1 (ad 1) S, wAb G.2.1 (ad 7) B]) _ _) m_X6_dampReach v_X6_dampReach q1289 (ci := 10) (q0 := 0) rfl rfl rfl 7 [0, 1, 3, 2, 4, 5, 6] rfl rfl rfl ⟨Nat.le_of_ble_eq_true rfl, Nat.le_of_ble_eq_true rfl⟩ rfl hl.1 rfl (Nat.le_of_ble_eq_true rfl) dL_isWhole_1 ⟨by show _ ≤ 300; omega, by show _ ≤ 3000; omega⟩ (fun _ _ _ _ _ _ hx => False.elim hx) (fun r9 w1 H locs h9 w => ?_)
  obtain ⟨rfl, h9⟩ := h9
  have w := w.jn (L1 := [wXo G.2.1 (ad 0) (xF ad) svx K, wSh G.2.1 (ad 1) S, wAb G.2.1 (ad 7) B1]) (L' := [wXo G.2.1 (ad 0) (xF ad) svx K, wSh G.2.1 (ad 1) S, wSh G.2.1 (ad 2) Fc, wAb G.2.1 (ad 7) B1, wAd G.2.1 (ad 6) D, wHo G.2.1 (ad 3) cu ct hs, hsL G.2.1 hs]) h9 7 [0, 1, 3, 2, 4, 5, 6] rfl rfl rfl
  refine lv_istore (lv' := [(4, .int (nI (rch S c))), (0, .ref ((ad 0) 0)), (1, .ref b), (2, .int (nI k)), (3, .int f)]) F.x F.b dL_isWhole_4 hl (by decide) rfl (fun ls hl => ?_)
  refine lv_aload_n F.x F.b dL_isWhole_6 rfl (lv_at hl 1 rfl) ?_
  refine kXi F w hst (LC := [wXo G.2.1 (ad 0) (xF ad) svx K, wSh G.2.1 (ad 1) S]) (LR := [wSh G.2.1 (ad 2) Fc, wAb G.2.1 (ad 7) B1, wAd G.2.1 (ad 6) D, wHo G.2.1 (ad 3) cu ct hs, hsL G.2.1 hs]) (As := []) (rest := []) ((t_X6_dampReachByStretches F.1 (x := ad 0) (a := ad 1) (rf := xF ad) (sv := svx) rfl (show f_X6_dampReachByStretches K S = some (nI (rch S c)) from by rw [f_X6_dampReachByStretches, h.reach]; rfl)).toX : CX G yX6_dampReachByStretches cX6_dampReachByStretches 1 .int 2 47 0 0 [.ref ((ad 0) 0)] (fl [wXo G.2.1 (ad 0) (xF ad) svx K, wSh G.2.1 (ad 1) S]) _ _) m_X6_dampReachByStretches v_X6_dampReachByStretches q1302 (ci := 10) (q0 := 0) rfl rfl rfl 7 [0, 1, 2, 3, 4, 5, 6] rfl rfl rfl ⟨Nat.le_of_ble_eq_true rfl, Nat.le_of_ble_eq_true rfl⟩ rfl hl.1 rfl (Nat.le_of_ble_eq_true rfl) dL_isWhole_7 ⟨by show _ ≤ 300; omega, by show _ ≤ 3000; omega⟩ (fun _ _ _ _ _ _ hx => False.elim hx) (fun r9 w1 H locs h9 w => ?_)
  obtain ⟨rfl, h9⟩ := h9
  have w := w.jn (L1 := [wXo G.2.1 (ad 0) (xF ad) svx K, wSh G.2.1 (ad 1) S]) (L' := [wXo G.2.1 (ad 0) (xF ad) svx K, wSh G.2.1 (ad 1) S, wSh G.2.1 (ad 2) Fc, wAb G.2.1 (ad 7) B1, wAd G.2.1 (ad 6) D, wHo G.2.1 (ad 3) cu ct hs, hsL G.2.1 hs]) h9 7 [0, 1, 2, 3, 4, 5, 6] rfl rfl rfl
  refine lv_iload F.x F.b dL_isWhole_10 (lv_at hl 0 rfl) ?_
  refine lv_icmp_ne (tgt := 62) F.x F.b dL_isWhole_12 (by decide) (fun c9 => absurd rfl c9) (fun _ => ?_)
  refine lv_iload F.x F.b dL_isWhole_15 (lv_at hl 0 rfl) ?_
  refine lv_aload_n F.x F.b dL_isWhole_17 rfl (lv_at hl 1 rfl) ?_
  have hd24 := dmN_24 (S := S) (c := c)
  have hr24 := rch_le (S := S) (c := c)
  refine kXi F w hst (LC := [wXo G.2.1 (ad 0) (xF ad) svx K, wSh G.2.1 (ad 1) S]) (LR := [wSh G.2.1 (ad 2) Fc, wAb G.2.1 (ad 7) B1, wAd G.2.1 (ad 6) D, wHo G.2.1 (ad 3) cu ct hs, hsL G.2.1 hs]) (As := []) (rest := [.int (nI (rch S c))]) ((t_X6_dampCount F.1 (x := ad 0) (a := ad 1) (rf := xF ad) (sv := svx) rfl (show f_X6_dampCount K S = some (nI (dmN S c)) from by rw [f_X6_dampCount, h.damps, h.dampN]; rfl)).toX : CX G yX6_dampCount cX6_dampCount 1 .int 1 22 0 0 [.ref ((ad 0) 0)] (fl [wXo G.2.1 (ad 0) (xF ad) svx K, wSh G.2.1 (ad 1) S]) _ _) m_X6_dampCount v_X6_dampCount q295 (ci := 10) (q0 := 0) rfl rfl rfl 7 [0, 1, 2, 3, 4, 5, 6] rfl rfl rfl ⟨Nat.le_of_ble_eq_true rfl, Nat.le_of_ble_eq_true rfl⟩ rfl hl.1 rfl (Nat.le_of_ble_eq_true rfl) dL_isWhole_18 ⟨by show _ ≤ 300; omega, by show _ ≤ 3000; omega⟩ (fun _ _ _ _ _ _ hx => False.elim hx) (fun r9 w1 H locs h9 w => ?_)
  obtain ⟨rfl, h9⟩ := h9
  have w := w.jn (L1 := [wXo G.2.1 (ad 0) (xF ad) svx K, wSh G.2.1 (ad 1) S]) (L' := [wXo G.2.1 (ad 0) (xF ad) svx K, wSh G.2.1 (ad 1) S, wSh G.2.1 (ad 2) Fc, wAb G.2.1 (ad 7) B1, wAd G.2.1 (ad 6) D, wHo G.2.1 (ad 3) cu ct hs, hsL G.2.1 hs]) h9 7 [0, 1, 2, 3, 4, 5, 6] rfl rfl rfl
  refine lv_icmp_lt (tgt := 62) F.x F.b dL_isWhole_21 (by decide) (fun c9 => absurd c9 (nI_nlt (a := rch S c) (b := dmN S c) h.dmRch (by omega))) (fun _ => ?_)
  refine lv_aload_n F.x F.b dL_isWhole_24 rfl (lv_at hl 1 rfl) ?_
  refine kXi F w hst (LC := [wXo G.2.1 (ad 0) (xF ad) svx K, wSh G.2.1 (ad 1) S]) (LR := [wSh G.2.1 (ad 2) Fc, wAb G.2.1 (ad 7) B1, wAd G.2.1 (ad 6) D, wHo G.2.1 (ad 3) cu ct hs, hsL G.2.1 hs]) (As := []) (rest := []) ((t_X6_dampCount F.1 (x := ad 0) (a := ad 1) (rf := xF ad) (sv := svx) rfl (show f_X6_dampCount K S = some (nI (dmN S c)) from by rw [f_X6_dampCount, h.damps, h.dampN]; rfl)).toX : CX G yX6_dampCount cX6_dampCount 1 .int 1 22 0 0 [.ref ((ad 0) 0)] (fl [wXo G.2.1 (ad 0) (xF ad) svx K, wSh G.2.1 (ad 1) S]) _ _) m_X6_dampCount v_X6_dampCount q295 (ci := 10) (q0 := 0) rfl rfl rfl 7 [0, 1, 2, 3, 4, 5, 6] rfl rfl rfl ⟨Nat.le_of_ble_eq_true rfl, Nat.le_of_ble_eq_true rfl⟩ rfl hl.1 rfl (Nat.le_of_ble_eq_true rfl) dL_isWhole_25 ⟨by show _ ≤ 300; omega, by show _ ≤ 3000; omega⟩ (fun _ _ _ _ _ _ hx => False.elim hx) (fun r9 w1 H locs h9 w => ?_)
  obtain ⟨rfl, h9⟩ := h9
  have w := w.jn (L1 := [wXo G.2.1 (ad 0) (xF ad) svx K, wSh G.2.1 (ad 1) S]) (L' := [wXo G.2.1 (ad 0) (xF ad) svx K, wSh G.2.1 (ad 1) S, wSh G.2.1 (ad 2) Fc, wAb G.2.1 (ad 7) B1, wAd G.2.1 (ad 6) D, wHo G.2.1 (ad 3) cu ct hs, hsL G.2.1 hs]) h9 7 [0, 1, 2, 3, 4, 5, 6] rfl rfl rfl
  by_cases hd0 : dmN S c = 0
  · refine lv_if_gt (tgt := 36) F.x F.b dL_isWhole_28 (by decide) (fun c9 => absurd c9 (show ¬ 0 < nI (dmN S c) by rw [hd0]; decide)) (fun _ => ?_)
    refine lv_iload F.x F.b dL_isWhole_31 (lv_at hl 0 rfl) ?_
    refine lv_if_ne (tgt := 62) F.x F.b dL_isWhole_33 (by decide) (fun c9 => absurd (show nI (rch S c) = 0 by rw [rch_none hd0]; rfl) c9) (fun _ => ?_)
    exact K36 _ _ B1 H locs ls (by omega) (by omega) w (lv_sub hl [0, 1, 2, 3, 4] rfl)
  · refine lv_if_gt (tgt := 36) F.x F.b dL_isWhole_28 (by decide) (fun _ => ?_) (fun c9 => absurd (show 0 < nI (dmN S c) by rw [li_0, nI_ltI (by omega) (by omega)]; omega) c9)
    exact K36 _ _ B1 H locs ls (by omega) (by omega) w (lv_sub hl [0, 1, 2, 3, 4] rfl)

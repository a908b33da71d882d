/-! printed by wip/p61/tools/gen99n.py: areLots -/
theorem q295 : Cond.methodLink RL 219 yX6_dampCount ∈ lw_tbl := List.mem_of_getElem? (i := 295) (by decide +kernel)
theorem q1324 : Cond.methodLink RL 329 yX6_totalDuty ∈ lw_tbl := List.mem_of_getElem? (i := 1324) (by decide +kernel)
theorem q1461 : Cond.methodLink RL 332 yX6_totalDutyByBays ∈ lw_tbl := List.mem_of_getElem? (i := 1461) (by decide +kernel)
theorem m_X6_dampCount : YM yX6_dampCount cX6_dampCount 1 (some (.int)) 0 := ⟨⟨List.mem_of_getElem? (i := 298) (by decide +kernel), by decide +kernel⟩, List.mem_of_getElem? (i := 15) (by decide +kernel), ⟨by decide, by decide⟩, by decide +kernel⟩
theorem v_X6_dampCount : YV yX6_dampCount := ⟨(List.mem_of_getElem? (i := 296) (by decide +kernel)), List.mem_of_getElem? (i := 297) (by decide +kernel)⟩
theorem m_X6_totalDuty : YM yX6_totalDuty cX6_totalDuty 1 (some (.int)) 0 := ⟨⟨List.mem_of_getElem? (i := 1327) (by decide +kernel), by decide +kernel⟩, List.mem_of_getElem? (i := 15) (by decide +kernel), ⟨by decide, by decide⟩, by decide +kernel⟩
theorem v_X6_totalDuty : YV yX6_totalDuty := ⟨(List.mem_of_getElem? (i := 1325) (by decide +kernel)), List.mem_of_getElem? (i := 1326) (by decide +kernel)⟩
theorem m_X6_totalDutyByBays : YM yX6_totalDutyByBays cX6_totalDutyByBays 1 (some (.int)) 0 := ⟨⟨List.mem_of_getElem? (i := 1464) (by decide +kernel), by decide +kernel⟩, List.mem_of_getElem? (i := 15) (by decide +kernel), ⟨by decide, by decide⟩, by decide +kernel⟩
theorem v_X6_totalDutyByBays : YV yX6_totalDutyByBays := ⟨(List.mem_of_getElem? (i := 1462) (by decide +kernel)), List.mem_of_getElem? (i := 1463) (by decide +kernel)⟩
theorem bt_no {x : Int32} {b : Nat} (h : ¬ bt x b = true) : (x >>> (nI b &&& 31)) &&& 1 = 0 := by
  unfold bt at h
  simpa using h
theorem rng99 {v : Nat} (h : v ≤ 9999) : ¬ (nI v < 0 ∨ nI 9999 < nI v) := fun z => z.elim (nI_pos (by omega)) (nI_nlt (a := 9999) (b := v) (by omega) (by omega))
theorem kc_ok : ∀ i : Nat, i < 5 → (((97 : Int32) + nI i).toUInt32 % 65536).toInt32 = nI (97 + i) := by decide +kernel
theorem kd_ok : ∀ {i : Nat}, i < 5 → f_X6_isKind (nI (97 + i)) = some 1 := by
  have h : ∀ i, i < 5 → f_X6_isKind (nI (97 + i)) = some 1 := by decide +kernel
  exact fun {i} hi => h i hi
section ARE
variable {N : Nat} {S : Mem} {c t q : Nat}
theorem Gd.idlt (h : Gd N S c t q) (hN : N < 2 ^ 30) {p p' : Nat} (h1 : p < p') (h2 : p' < c) : S.2 0 p < S.2 0 p' := by
  obtain ⟨a, -, ha, ea⟩ := h.D.2 p (by omega)
  obtain ⟨b, -, hb, eb⟩ := h.D.2 p' h2
  have h3 := h.A.1 p p' h1 h2
  rw [ea, eb, nv, nv, nI_clamp (by omega), nI_clamp (by omega)] at h3
  rw [ea, eb, nI_ltI (by omega) (by omega)]
  exact h3
theorem ah_ge {v : Nat → Int32} {a b : Nat} (h : Ah v a b) : ¬ v a < v b := by
  unfold Ah at h
  simp only [Int32.lt_iff_toInt_lt, ← Int32.toInt_inj] at *
  omega
theorem ah_id (h : Gd N S c t q) (hN : N < 2 ^ 30) {a b : Nat} (hA : Ah (vI S) a b) (e : S.2 2 a * S.2 3 a = S.2 2 b * S.2 3 b) (hb : b < c) : S.2 0 a ≤ S.2 0 b := by
  rcases hA with g | ⟨-, g⟩
  · have g : S.2 2 b * S.2 3 b < S.2 2 a * S.2 3 a := g
    rw [e] at g
    exact absurd g Int32.lt_irrefl
  · exact Int32.le_of_lt (h.idlt hN g hb)
end ARE
set_option maxRecDepth 100000 in
set_option maxHeartbeats 4000000 in
theorem w_areLots {G : cG} (g : GOK G) (gM : MG G) (hNC : NcG G) {ad : Nat → Nat → Nat} {svx : Value} {K S : Mem} {N c t q : Nat} (h : Gd N S c t q) (hN : N < 2 ^ 30) : CX G yL_areLots cL_areLots 14 .boolean 8 124 2 12 [.ref ((ad 0) 0)] (fl [wXo G.2.1 (ad 0) (xF ad) svx K, wSh G.2.1 (ad 1) S]) (fun r9 w1 => r9 = 1 ∧ w1 = fl [wXo G.2.1 (ad 0) (xF ad) svx K, wSh G.2.1 (ad 1) S]) NX := by
  refine CX.of g (by decide) rfl (Nat.le_of_ble_eq_true rfl) ?_
  intro p l e s m below meth cm A ls hst htab F hr hlocks w hl
  generalize ([.ref ((ad 0) 0)] : List Value).toArray = args
  have hl : lv_has ls 14 [(0, .ref ((ad 0) 0))] := hl
  have w : Wd G A s.heap (fl [wXo G.2.1 (ad 0) (xF ad) svx K, wSh G.2.1 (ad 1) S]) _ _ := w
  have hc16 := h.c16
  have KE : ∀ (cells slots : Nat) (H : Heap) (locs : List Loc) (ls : Array Slot), cells ≤ 2 → slots ≤ 12 → Wd G A s.heap (fl [wXo G.2.1 (ad 0) (xF ad) svx K, wSh G.2.1 (ad 1) S]) H locs → lv_has ls 14 [(9, .int 1), (8, .int (sI (fun p => S.2 2 p) c)), (7, .int (sI (fun p => S.2 2 p) c)), (1, .int (nI c)), (2, .int (sI (fun p => S.2 6 p) c)), (4, .int (sI (fun p => nI (owe S t p)) c)), (0, .ref ((ad 0) 0))] → W p l e { frames := 8, cells := 2, slots := 12, locals := 124 } s m args below meth cm H locs cells slots (XI G A (fun r9 w1 => r9 = 1 ∧ w1 = fl [wXo G.2.1 (ad 0) (xF ad) svx K, wSh G.2.1 (ad 1) S]) NX 2 12 below args s) (F0 m 465 ls []) := by
    intro cells slots H locs ls hc9 hs9 w hl
    refine lv_iload F.x F.b dL_areLots_465 (lv_at hl 0 rfl) ?_
    refine lv_if_eq (tgt := 513) F.x F.b dL_areLots_467 (by decide) (fun c9 => absurd c9 (by decide)) (fun _ => ?_)
    refine lv_iload F.x F.b dL_areLots_470 (lv_at hl 2 rfl) ?_
    refine lv_iload F.x F.b dL_areLots_472 (lv_at hl 1 rfl) ?_
    refine lv_icmp_ne (tgt := 513) F.x F.b dL_areLots_474 (by decide) (fun c9 => absurd rfl c9) (fun _ => ?_)
    refine lv_aload_n F.x F.b dL_areLots_477 rfl (lv_at hl 6 rfl) ?_
    refine kXi F w hst (LC := [wXo G.2.1 (ad 0) (xF ad) svx K, wSh G.2.1 (ad 1) S]) (LR := []) (As := []) (rest := []) ((t_X6_dampCount F.1 (x := ad 0) (a := ad 1) (rf := xF ad) (sv := svx) rfl (show f_X6_dampCount K S = some (sI (fun p => S.2 6 p) c) from by rw [f_X6_dampCount, h.damps]; rfl)).toX : CX G yX6_dampCount cX6_dampCount 1 .int 1 22 0 0 [.ref ((ad 0) 0)] (fl [wXo G.2.1 (ad 0) (xF ad) svx K, wSh G.2.1 (ad 1) S]) _ _) m_X6_dampCount v_X6_dampCount q295 (ci := 10) (q0 := 0) rfl rfl rfl 2 [0, 1] rfl rfl rfl ⟨Nat.le_of_ble_eq_true rfl, Nat.le_of_ble_eq_true rfl⟩ rfl hl.1 rfl (Nat.le_of_ble_eq_true rfl) dL_areLots_478 ⟨by show _ ≤ 2; omega, by show _ ≤ 12; omega⟩ (fun _ _ _ _ _ _ hx => False.elim hx) (fun r9 w1 H locs h9 w => ?_)
    obtain ⟨rfl, h9⟩ := h9
    have w := w.jn (L1 := [wXo G.2.1 (ad 0) (xF ad) svx K, wSh G.2.1 (ad 1) S]) (L' := [wXo G.2.1 (ad 0) (xF ad) svx K, wSh G.2.1 (ad 1) S]) h9 2 [0, 1] rfl rfl rfl
    refine lv_iload_n F.x F.b dL_areLots_481 rfl (lv_at hl 4 rfl) ?_
    refine lv_icmp_ne (tgt := 513) F.x F.b dL_areLots_482 (by decide) (fun c9 => absurd rfl c9) (fun _ => ?_)
    refine lv_aload_n F.x F.b dL_areLots_485 rfl (lv_at hl 6 rfl) ?_
    refine kXi F w hst (LC := [wXo G.2.1 (ad 0) (xF ad) svx K, wSh G.2.1 (ad 1) S]) (LR := []) (As := []) (rest := []) ((t_X6_totalDuty F.1 (x := ad 0) (a := ad 1) (rf := xF ad) (sv := svx) rfl (show f_X6_totalDuty K S = some (sI (fun p => nI (owe S t p)) c) from by rw [f_X6_totalDuty, h.total.1]; rfl)).toX : CX G yX6_totalDuty cX6_totalDuty 1 .int 4 89 0 0 [.ref ((ad 0) 0)] (fl [wXo G.2.1 (ad 0) (xF ad) svx K, wSh G.2.1 (ad 1) S]) _ _) m_X6_totalDuty v_X6_totalDuty q1324 (ci := 10) (q0 := 0) rfl rfl rfl 2 [0, 1] rfl rfl rfl ⟨Nat.le_of_ble_eq_true rfl, Nat.le_of_ble_eq_true rfl⟩ rfl hl.1 rfl (Nat.le_of_ble_eq_true rfl) dL_areLots_486 ⟨by show _ ≤ 2; omega, by show _ ≤ 12; omega⟩ (fun _ _ _ _ _ _ hx => False.elim hx) (fun r9 w1 H locs h9 w => ?_)
    obtain ⟨rfl, h9⟩ := h9
    have w := w.jn (L1 := [wXo G.2.1 (ad 0) (xF ad) svx K, wSh G.2.1 (ad 1) S]) (L' := [wXo G.2.1 (ad 0) (xF ad) svx K, wSh G.2.1 (ad 1) S]) h9 2 [0, 1] rfl rfl rfl
    refine lv_iload F.x F.b dL_areLots_489 (lv_at hl 5 rfl) ?_
    refine lv_icmp_ne (tgt := 513) F.x F.b dL_areLots_491 (by decide) (fun c9 => absurd rfl c9) (fun _ => ?_)
    refine lv_aload_n F.x F.b dL_areLots_494 rfl (lv_at hl 6 rfl) ?_
    refine kXi F w hst (LC := [wXo G.2.1 (ad 0) (xF ad) svx K, wSh G.2.1 (ad 1) S]) (LR := []) (As := []) (rest := []) ((t_X6_totalDutyByBays F.1 (x := ad 0) (a := ad 1) (rf := xF ad) (sv := svx) rfl (show f_X6_totalDutyByBays K S = some (sI (fun p => nI (owe S t p)) c) from by rw [f_X6_totalDutyByBays, h.total.2.1]; rfl)).toX : CX G yX6_totalDutyByBays cX6_totalDutyByBays 1 .int 4 90 0 0 [.ref ((ad 0) 0)] (fl [wXo G.2.1 (ad 0) (xF ad) svx K, wSh G.2.1 (ad 1) S]) _ _) m_X6_totalDutyByBays v_X6_totalDutyByBays q1461 (ci := 10) (q0 := 0) rfl rfl rfl 2 [0, 1] rfl rfl rfl ⟨Nat.le_of_ble_eq_true rfl, Nat.le_of_ble_eq_true rfl⟩ rfl hl.1 rfl (Nat.le_of_ble_eq_true rfl) dL_areLots_495 ⟨by show _ ≤ 2; omega, by show _ ≤ 12; omega⟩ (fun _ _ _ _ _ _ hx => False.elim hx) (fun r9 w1 H locs h9 w => ?_)
    obtain ⟨rfl, h9⟩ := h9
    have w := w.jn (L1 := [wXo G.2.1 (ad 0) (xF ad) svx K, wSh G.2.1 (ad 1) S]) (L' := [wXo G.2.1 (ad 0) (xF ad) svx K, wSh G.2.1 (ad 1) S]) h9 2 [0, 1] rfl rfl rfl
    refine lv_iload F.x F.b dL_areLots_498 (lv_at hl 5 rfl) ?_
    refine lv_icmp_ne (tgt := 513) F.x F.b dL_areLots_500 (by decide) (fun c9 => absurd rfl c9) (fun _ => ?_)
    refine lv_iload_n F.x F.b dL_areLots_503 rfl (lv_at hl 3 rfl) ?_
    refine lv_bipush (v := 16) F.x F.b dL_areLots_504 (by decide) ?_
    refine lv_icmp_gt (tgt := 513) F.x F.b dL_areLots_506 (by decide) (fun c9 => absurd c9 (show ¬ (16 : Int32) < nI c from nI_nlt (a := 16) (b := c) (by omega) (by omega))) (fun _ => ?_)
    refine lv_iconst (v := 1) F.x F.b dL_areLots_509 (by decide) ?_
    refine lv_goto (tgt := 514) F.x F.b dL_areLots_510 (by decide) ?_
    exact eiX F w hr hlocks rfl ⟨rfl, rfl⟩ (by omega) (by omega) dL_areLots_514
  have KM : ∀ (H : Heap) (locs : List Loc) (ls : Array Slot), Wd G A s.heap (fl [wXo G.2.1 (ad 0) (xF ad) svx K, wSh G.2.1 (ad 1) S]) H locs → lv_has ls 14 [(8, .int (sI (fun p => S.2 2 p) c)), (7, .int (sI (fun p => S.2 2 p) c)), (1, .int (nI c)), (2, .int (sI (fun p => S.2 6 p) c)), (3, .int (sI (fun p => S.2 5 p) c)), (4, .int (sI (fun p => nI (owe S t p)) c)), (5, .int (sI (vI S) c)), (0, .ref ((ad 0) 0))] → W p l e { frames := 8, cells := 2, slots := 12, locals := 124 } s m args below meth cm H locs 0 0 (XI G A (fun r9 w1 => r9 = 1 ∧ w1 = fl [wXo G.2.1 (ad 0) (xF ad) svx K, wSh G.2.1 (ad 1) S]) NX 2 12 below args s) (F0 m 412 ls []) := by
    intro H locs ls w hl
    by_cases hc0 : c = 0
    · refine lv_aload_n F.x F.b dL_areLots_412 rfl (lv_at hl 7 rfl) ?_
      refine kLd F w hst (LC := [wXo G.2.1 (ad 0) (xF ad) svx K, wSh G.2.1 (ad 1) S]) (LR := []) (As := [.ref ((ad 0) 0)]) (rest := []) (l_meanValue_no F.1 gM hNC h.c1 hc16 hc0) mh_meanValue vh_meanValue (List.mem_of_getElem? (i := 1423) (by decide +kernel)) 2 [0, 1] rfl rfl rfl ⟨Nat.le_of_ble_eq_true rfl, Nat.le_of_ble_eq_true rfl⟩ rfl hl.1 rfl (Nat.le_of_ble_eq_true rfl) dL_areLots_413 ⟨Nat.le_of_ble_eq_true rfl, Nat.le_of_ble_eq_true rfl⟩ (fun r9 w1 H locs h9 w => ?_)
      obtain ⟨rfl, h9⟩ := h9
      have w := w.jn (L1 := [wXo G.2.1 (ad 0) (xF ad) svx K, wSh G.2.1 (ad 1) S]) (L' := [wXo G.2.1 (ad 0) (xF ad) svx K, wSh G.2.1 (ad 1) S]) h9 2 [0, 1] rfl rfl rfl
      refine lv_iload_n F.x F.b dL_areLots_416 rfl (lv_at hl 2 rfl) ?_
      refine lv_if_ne (tgt := 426) F.x F.b dL_areLots_417 (by decide) (fun c9 => absurd (show nI c = 0 by rw [hc0]; rfl) c9) (fun _ => ?_)
      refine lv_ldc2d F.x F.b (v := m74d) F.o (F.t _ (List.mem_of_getElem? (i := 1451) (by decide +kernel)) rfl _) dL_areLots_420 ?_
      refine lv_goto (tgt := 432) F.x F.b dL_areLots_423 (by decide) ?_
      refine rDc F.x F.b rfl (by decide +kernel) dL_areLots_432 ?_
      refine lv_if_ne (tgt := 462) F.x F.b dL_areLots_433 (by decide) (fun c9 => absurd rfl c9) (fun _ => ?_)
      refine lv_aload_n F.x F.b dL_areLots_436 rfl (lv_at hl 7 rfl) ?_
      refine kLf F w hst (LC := [wXo G.2.1 (ad 0) (xF ad) svx K, wSh G.2.1 (ad 1) S]) (LR := []) (As := [.ref ((ad 0) 0)]) (rest := []) (l_sealedFraction_no F.1 gM hNC h.c1 hc16 hc0) mh_sealedFraction vh_sealedFraction (List.mem_of_getElem? (i := 1452) (by decide +kernel)) 2 [0, 1] rfl rfl rfl ⟨Nat.le_of_ble_eq_true rfl, Nat.le_of_ble_eq_true rfl⟩ rfl hl.1 rfl (Nat.le_of_ble_eq_true rfl) dL_areLots_437 ⟨Nat.le_of_ble_eq_true rfl, Nat.le_of_ble_eq_true rfl⟩ (fun r9 w1 H locs h9 w => ?_)
      obtain ⟨rfl, h9⟩ := h9
      have w := w.jn (L1 := [wXo G.2.1 (ad 0) (xF ad) svx K, wSh G.2.1 (ad 1) S]) (L' := [wXo G.2.1 (ad 0) (xF ad) svx K, wSh G.2.1 (ad 1) S]) h9 2 [0, 1] rfl rfl rfl
      refine lv_iload_n F.x F.b dL_areLots_440 rfl (lv_at hl 2 rfl) ?_
      refine lv_if_ne (tgt := 449) F.x F.b dL_areLots_441 (by decide) (fun c9 => absurd (show nI c = 0 by rw [hc0]; rfl) c9) (fun _ => ?_)
      refine lv_ldcf F.x F.b (v := m74f) F.o (F.t _ (List.mem_of_getElem? (i := 1460) (by decide +kernel)) rfl _) dL_areLots_444 ?_
      refine lv_goto (tgt := 454) F.x F.b dL_areLots_446 (by decide) ?_
      refine rFc F.x F.b rfl (by decide +kernel) dL_areLots_454 ?_
      refine lv_if_ne (tgt := 462) F.x F.b dL_areLots_455 (by decide) (fun c9 => absurd rfl c9) (fun _ => ?_)
      refine lv_iconst (v := 1) F.x F.b dL_areLots_458 (by decide) ?_
      refine lv_goto (tgt := 463) F.x F.b dL_areLots_459 (by decide) ?_
      refine lv_istore (lv' := [(9, .int 1), (8, .int (sI (fun p => S.2 2 p) c)), (7, .int (sI (fun p => S.2 2 p) c)), (1, .int (nI c)), (2, .int (sI (fun p => S.2 6 p) c)), (3, .int (sI (fun p => S.2 5 p) c)), (4, .int (sI (fun p => nI (owe S t p)) c)), (5, .int (sI (vI S) c)), (0, .ref ((ad 0) 0))]) F.x F.b dL_areLots_463 hl (by decide) rfl (fun ls hl => ?_)
      exact KE _ _ H locs ls (by omega) (by omega) w (lv_sub hl [0, 1, 2, 3, 4, 6, 8] rfl)
    · refine lv_aload_n F.x F.b dL_areLots_412 rfl (lv_at hl 7 rfl) ?_
      refine kLd F w hst (LC := [wXo G.2.1 (ad 0) (xF ad) svx K, wSh G.2.1 (ad 1) S]) (LR := []) (As := [.ref ((ad 0) 0)]) (rest := []) (l_meanValue_ok F.1 h.c1 hc16 hc0 h.values) mh_meanValue vh_meanValue (List.mem_of_getElem? (i := 1423) (by decide +kernel)) 2 [0, 1] rfl rfl rfl ⟨Nat.le_of_ble_eq_true rfl, Nat.le_of_ble_eq_true rfl⟩ rfl hl.1 rfl (Nat.le_of_ble_eq_true rfl) dL_areLots_413 ⟨Nat.le_of_ble_eq_true rfl, Nat.le_of_ble_eq_true rfl⟩ (fun r9 w1 H locs h9 w => ?_)
      obtain ⟨e9, h9⟩ := h9
      have w := w.jn (L1 := [wXo G.2.1 (ad 0) (xF ad) svx K, wSh G.2.1 (ad 1) S]) (L' := [wXo G.2.1 (ad 0) (xF ad) svx K, wSh G.2.1 (ad 1) S]) h9 2 [0, 1] rfl rfl rfl
      have e9 : r9 = mnD (vI S) c := e9
      subst e9
      refine lv_iload_n F.x F.b dL_areLots_416 rfl (lv_at hl 2 rfl) ?_
      refine lv_if_ne (tgt := 426) F.x F.b dL_areLots_417 (by decide) (fun _ => ?_) (fun c9 => absurd c9 (fun z => hc0 ((nI_eq (a := c) (b := 0) (by omega) (by omega)).mp z)))
      refine lv_iload F.x F.b dL_areLots_426 (lv_at hl 6 rfl) ?_
      refine lv_i2d F.x F.b dL_areLots_428 ?_
      refine lv_iload_n F.x F.b dL_areLots_429 rfl (lv_at hl 2 rfl) ?_
      refine lv_i2d F.x F.b dL_areLots_430 ?_
      refine lv_ddiv F.x F.b dL_areLots_431 (n64_of (dd_ok _ _ (fun z => hc0 ((nI_eq (a := c) (b := 0) (by omega) (by omega)).mp z)))) ?_
      refine rDc F.x F.b rfl (dd_ok _ _ (fun z => hc0 ((nI_eq (a := c) (b := 0) (by omega) (by omega)).mp z))) dL_areLots_432 ?_
      refine lv_if_ne (tgt := 462) F.x F.b dL_areLots_433 (by decide) (fun c9 => absurd rfl c9) (fun _ => ?_)
      refine lv_aload_n F.x F.b dL_areLots_436 rfl (lv_at hl 7 rfl) ?_
      refine kLf F w hst (LC := [wXo G.2.1 (ad 0) (xF ad) svx K, wSh G.2.1 (ad 1) S]) (LR := []) (As := [.ref ((ad 0) 0)]) (rest := []) (l_sealedFraction_ok F.1 h.c1 hc16 hc0 h.seals) mh_sealedFraction vh_sealedFraction (List.mem_of_getElem? (i := 1452) (by decide +kernel)) 2 [0, 1] rfl rfl rfl ⟨Nat.le_of_ble_eq_true rfl, Nat.le_of_ble_eq_true rfl⟩ rfl hl.1 rfl (Nat.le_of_ble_eq_true rfl) dL_areLots_437 ⟨Nat.le_of_ble_eq_true rfl, Nat.le_of_ble_eq_true rfl⟩ (fun r9 w1 H locs h9 w => ?_)
      obtain ⟨e9, h9⟩ := h9
      have w := w.jn (L1 := [wXo G.2.1 (ad 0) (xF ad) svx K, wSh G.2.1 (ad 1) S]) (L' := [wXo G.2.1 (ad 0) (xF ad) svx K, wSh G.2.1 (ad 1) S]) h9 2 [0, 1] rfl rfl rfl
      have e9 : r9 = frF (fun p => S.2 5 p) c := e9
      subst e9
      refine lv_iload_n F.x F.b dL_areLots_440 rfl (lv_at hl 2 rfl) ?_
      refine lv_if_ne (tgt := 449) F.x F.b dL_areLots_441 (by decide) (fun _ => ?_) (fun c9 => absurd c9 (fun z => hc0 ((nI_eq (a := c) (b := 0) (by omega) (by omega)).mp z)))
      refine lv_iload_n F.x F.b dL_areLots_449 rfl (lv_at hl 4 rfl) ?_
      refine lv_i2f F.x F.b dL_areLots_450 ?_
      refine lv_iload_n F.x F.b dL_areLots_451 rfl (lv_at hl 2 rfl) ?_
      refine lv_i2f F.x F.b dL_areLots_452 ?_
      refine lv_fdiv F.x F.b dL_areLots_453 (n32_of (ff_ok _ _ (fun z => hc0 ((nI_eq (a := c) (b := 0) (by omega) (by omega)).mp z)))) ?_
      refine rFc F.x F.b rfl (ff_ok _ _ (fun z => hc0 ((nI_eq (a := c) (b := 0) (by omega) (by omega)).mp z))) dL_areLots_454 ?_
      refine lv_if_ne (tgt := 462) F.x F.b dL_areLots_455 (by decide) (fun c9 => absurd rfl c9) (fun _ => ?_)
      refine lv_iconst (v := 1) F.x F.b dL_areLots_458 (by decide) ?_
      refine lv_goto (tgt := 463) F.x F.b dL_areLots_459 (by decide) ?_
      refine lv_istore (lv' := [(9, .int 1), (8, .int (sI (fun p => S.2 2 p) c)), (7, .int (sI (fun p => S.2 2 p) c)), (1, .int (nI c)), (2, .int (sI (fun p => S.2 6 p) c)), (3, .int (sI (fun p => S.2 5 p) c)), (4, .int (sI (fun p => nI (owe S t p)) c)), (5, .int (sI (vI S) c)), (0, .ref ((ad 0) 0))]) F.x F.b dL_areLots_463 hl (by decide) rfl (fun ls hl => ?_)
      exact KE _ _ H locs ls (by omega) (by omega) w (lv_sub hl [0, 1, 2, 3, 4, 6, 8] rfl)
  have LQ : ∀ (d i : Nat), i + d = c → ∀ (H : Heap) (locs : List Loc) (ls : Array Slot), Wd G A s.heap (fl [wXo G.2.1 (ad 0) (xF ad) svx K, wSh G.2.1 (ad 1) S]) H locs → lv_has ls 14 [(9, .int (nI i)), (8, .int (sI (fun p => S.2 2 p) i)), (7, .int (sI (fun p => S.2 2 p) c)), (1, .int (nI c)), (2, .int (sI (fun p => S.2 6 p) c)), (3, .int (sI (fun p => S.2 5 p) c)), (4, .int (sI (fun p => nI (owe S t p)) c)), (5, .int (sI (vI S) c)), (0, .ref ((ad 0) 0))] → W p l e { frames := 8, cells := 2, slots := 12, locals := 124 } s m args below meth cm H locs 0 0 (XI G A (fun r9 w1 => r9 = 1 ∧ w1 = fl [wXo G.2.1 (ad 0) (xF ad) svx K, wSh G.2.1 (ad 1) S]) NX 2 12 below args s) (F0 m 385 ls []) := by
    intro d
    induction d with
    | zero =>
      intro i hi H locs ls w hl
      refine lv_iload F.x F.b dL_areLots_385 (lv_at hl 0 rfl) ?_
      refine lv_iload_n F.x F.b dL_areLots_387 rfl (lv_at hl 3 rfl) ?_
      refine lv_icmp_ge (tgt := 412) F.x F.b dL_areLots_388 (by decide) (fun _ => ?_) (fun c9 => absurd (nI_le (a := c) (b := i) (by omega) (by omega)) c9)
      rw [show i = c by omega] at hl
      exact KM H locs ls w (lv_sub hl [1, 2, 3, 4, 5, 6, 7, 8] rfl)
    | succ d ih =>
      intro i hi H locs ls w hl
      refine lv_iload F.x F.b dL_areLots_385 (lv_at hl 0 rfl) ?_
      refine lv_iload_n F.x F.b dL_areLots_387 rfl (lv_at hl 3 rfl) ?_
      refine lv_icmp_ge (tgt := 412) F.x F.b dL_areLots_388 (by decide) (fun c9 => absurd c9 (nI_ge (a := i) (b := c) (by omega) (by omega))) (fun _ => ?_)
      refine lv_iload F.x F.b dL_areLots_391 (lv_at hl 1 rfl) ?_
      refine lv_aload_n F.x F.b dL_areLots_393 rfl (lv_at hl 8 rfl) ?_
      refine lv_aload_n F.x F.b dL_areLots_394 rfl (lv_at hl 8 rfl) ?_
      refine lv_iload F.x F.b dL_areLots_395 (lv_at hl 0 rfl) ?_
      refine kLi F w hst (LC := [wXo G.2.1 (ad 0) (xF ad) svx K, wSh G.2.1 (ad 1) S]) (LR := []) (As := [.ref ((ad 0) 0), .int (nI i)]) (rest := [.ref ((ad 0) 0), .int (sI (fun p => S.2 2 p) i)]) (l_lot_ok F.1 h.c1 (kk := i) (by omega) hc16) mh_lot vh_lot (List.mem_of_getElem? (i := 360) (by decide +kernel)) 2 [0, 1] rfl rfl rfl ⟨Nat.le_of_ble_eq_true rfl, Nat.le_of_ble_eq_true rfl⟩ rfl hl.1 rfl (Nat.le_of_ble_eq_true rfl) dL_areLots_397 ⟨Nat.le_of_ble_eq_true rfl, Nat.le_of_ble_eq_true rfl⟩ (fun r9 w1 H locs h9 w => ?_)
      obtain ⟨rfl, h9⟩ := h9
      have w := w.jn (L1 := [wXo G.2.1 (ad 0) (xF ad) svx K, wSh G.2.1 (ad 1) S]) (L' := [wXo G.2.1 (ad 0) (xF ad) svx K, wSh G.2.1 (ad 1) S]) h9 2 [0, 1] rfl rfl rfl
      refine kLi F w hst (LC := [wXo G.2.1 (ad 0) (xF ad) svx K, wSh G.2.1 (ad 1) S]) (LR := []) (As := [.ref ((ad 0) 0), .int (S.2 0 i)]) (rest := [.int (sI (fun p => S.2 2 p) i)]) (l_quantity_ok F.1 (h.slot (p := i) (by omega)) (by omega)) mh_quantity vh_quantity (List.mem_of_getElem? (i := 471) (by decide +kernel)) 2 [0, 1] rfl rfl rfl ⟨Nat.le_of_ble_eq_true rfl, Nat.le_of_ble_eq_true rfl⟩ rfl hl.1 rfl (Nat.le_of_ble_eq_true rfl) dL_areLots_400 ⟨Nat.le_of_ble_eq_true rfl, Nat.le_of_ble_eq_true rfl⟩ (fun r9 w1 H locs h9 w => ?_)
      obtain ⟨rfl, h9⟩ := h9
      have w := w.jn (L1 := [wXo G.2.1 (ad 0) (xF ad) svx K, wSh G.2.1 (ad 1) S]) (L' := [wXo G.2.1 (ad 0) (xF ad) svx K, wSh G.2.1 (ad 1) S]) h9 2 [0, 1] rfl rfl rfl
      refine lv_iadd F.x F.b dL_areLots_403 ?_
      refine lv_istore (lv' := [(8, .int ((sI (fun p => S.2 2 p) i) + (S.2 2 i))), (9, .int (nI i)), (7, .int (sI (fun p => S.2 2 p) c)), (1, .int (nI c)), (2, .int (sI (fun p => S.2 6 p) c)), (3, .int (sI (fun p => S.2 5 p) c)), (4, .int (sI (fun p => nI (owe S t p)) c)), (5, .int (sI (vI S) c)), (0, .ref ((ad 0) 0))]) F.x F.b dL_areLots_404 hl (by decide) rfl (fun ls hl => ?_)
      refine lv_iinc (v := (nI (i + 1))) (lv' := [(9, .int (nI (i + 1))), (8, .int ((sI (fun p => S.2 2 p) i) + (S.2 2 i))), (7, .int (sI (fun p => S.2 2 p) c)), (1, .int (nI c)), (2, .int (sI (fun p => S.2 6 p) c)), (3, .int (sI (fun p => S.2 5 p) c)), (4, .int (sI (fun p => nI (owe S t p)) c)), (5, .int (sI (vI S) c)), (0, .ref ((ad 0) 0))]) F.x F.b dL_areLots_406 hl (k := 1) rfl (nI_1 i) (by decide) rfl (fun ls hl => ?_)
      refine lv_goto (tgt := 385) F.x F.b dL_areLots_409 (by decide) ?_
      exact ih (i + 1) (by omega) H locs ls w (lv_sub hl [0, 1, 2, 3, 4, 5, 6, 7, 8] rfl)
  have LK : ∀ (d i : Nat), i + d = 5 → ∀ (H : Heap) (locs : List Loc) (ls : Array Slot), Wd G A s.heap (fl [wXo G.2.1 (ad 0) (xF ad) svx K, wSh G.2.1 (ad 1) S]) H locs → lv_has ls 14 [(8, .int (nI i)), (7, .int (sI (fun k => sI (fun p => if S.2 1 p = nI (97 + k) then S.2 2 p else 0) c) i)), (1, .int (nI c)), (2, .int (sI (fun p => S.2 6 p) c)), (3, .int (sI (fun p => S.2 5 p) c)), (4, .int (sI (fun p => nI (owe S t p)) c)), (5, .int (sI (vI S) c)), (0, .ref ((ad 0) 0))] → W p l e { frames := 8, cells := 2, slots := 12, locals := 124 } s m args below meth cm H locs 0 0 (XI G A (fun r9 w1 => r9 = 1 ∧ w1 = fl [wXo G.2.1 (ad 0) (xF ad) svx K, wSh G.2.1 (ad 1) S]) NX 2 12 below args s) (F0 m 352 ls []) := by
    intro d
    induction d with
    | zero =>
      intro i hi H locs ls w hl
      refine lv_iload F.x F.b dL_areLots_352 (lv_at hl 0 rfl) ?_
      refine lv_iconst (v := 5) F.x F.b dL_areLots_354 (by decide) ?_
      refine lv_icmp_ge (tgt := 379) F.x F.b dL_areLots_355 (by decide) (fun _ => ?_) (fun c9 => absurd (show (5 : Int32) ≤ nI i by rw [show i = 5 by omega]; decide) c9)
      rw [show i = 5 by omega, kinds_sum c (fun p hp => (h.L.1 p hp).1)] at hl
      refine lv_iconst (v := 0) F.x F.b dL_areLots_379 (by decide) ?_
      refine lv_istore (lv' := [(8, .int 0), (7, .int (sI (fun p => S.2 2 p) c)), (1, .int (nI c)), (2, .int (sI (fun p => S.2 6 p) c)), (3, .int (sI (fun p => S.2 5 p) c)), (4, .int (sI (fun p => nI (owe S t p)) c)), (5, .int (sI (vI S) c)), (0, .ref ((ad 0) 0))]) F.x F.b dL_areLots_380 hl (by decide) rfl (fun ls hl => ?_)
      refine lv_iconst (v := 0) F.x F.b dL_areLots_382 (by decide) ?_
      refine lv_istore (lv' := [(9, .int 0), (8, .int 0), (7, .int (sI (fun p => S.2 2 p) c)), (1, .int (nI c)), (2, .int (sI (fun p => S.2 6 p) c)), (3, .int (sI (fun p => S.2 5 p) c)), (4, .int (sI (fun p => nI (owe S t p)) c)), (5, .int (sI (vI S) c)), (0, .ref ((ad 0) 0))]) F.x F.b dL_areLots_383 hl (by decide) rfl (fun ls hl => ?_)
      exact LQ c 0 (by omega) H locs ls w (lv_sub hl [0, 1, 2, 3, 4, 5, 6, 7, 8] rfl)
    | succ d ih =>
      intro i hi H locs ls w hl
      refine lv_iload F.x F.b dL_areLots_352 (lv_at hl 0 rfl) ?_
      refine lv_iconst (v := 5) F.x F.b dL_areLots_354 (by decide) ?_
      refine lv_icmp_ge (tgt := 379) F.x F.b dL_areLots_355 (by decide) (fun c9 => absurd c9 (show ¬ (5 : Int32) ≤ nI i from nI_ge (a := i) (b := 5) (by omega) (by omega))) (fun _ => ?_)
      refine lv_iload F.x F.b dL_areLots_358 (lv_at hl 1 rfl) ?_
      refine lv_aload_n F.x F.b dL_areLots_360 rfl (lv_at hl 7 rfl) ?_
      refine lv_bipush (v := 97) F.x F.b dL_areLots_361 (by decide) ?_
      refine lv_iload F.x F.b dL_areLots_363 (lv_at hl 0 rfl) ?_
      refine lv_iadd F.x F.b dL_areLots_365 ?_
      refine lv_i2c (v := nI (97 + i)) F.x F.b dL_areLots_366 (kc_ok i (by omega)) ?_
      have hkd : f_X6_isKind (nI (97 + i)) = some 1 := kd_ok (by omega)
      refine kLi F w hst (LC := [wXo G.2.1 (ad 0) (xF ad) svx K, wSh G.2.1 (ad 1) S]) (LR := []) (As := [.ref ((ad 0) 0), .int (nI (97 + i))]) (rest := [.int (sI (fun k => sI (fun p => if S.2 1 p = nI (97 + k) then S.2 2 p else 0) c) i)]) (l_quantityOfKind_ok F.1 hkd (h.ofKind _)) mh_quantityOfKind vh_quantityOfKind (List.mem_of_getElem? (i := 1410) (by decide +kernel)) 2 [0, 1] rfl rfl rfl ⟨Nat.le_of_ble_eq_true rfl, Nat.le_of_ble_eq_true rfl⟩ rfl hl.1 rfl (Nat.le_of_ble_eq_true rfl) dL_areLots_367 ⟨Nat.le_of_ble_eq_true rfl, Nat.le_of_ble_eq_true rfl⟩ (fun r9 w1 H locs h9 w => ?_)
      obtain ⟨rfl, h9⟩ := h9
      have w := w.jn (L1 := [wXo G.2.1 (ad 0) (xF ad) svx K, wSh G.2.1 (ad 1) S]) (L' := [wXo G.2.1 (ad 0) (xF ad) svx K, wSh G.2.1 (ad 1) S]) h9 2 [0, 1] rfl rfl rfl
      refine lv_iadd F.x F.b dL_areLots_370 ?_
      refine lv_istore (lv' := [(7, .int ((sI (fun k => sI (fun p => if S.2 1 p = nI (97 + k) then S.2 2 p else 0) c) i) + (sI (fun p => if S.2 1 p = nI (97 + i) then S.2 2 p else 0) c))), (8, .int (nI i)), (1, .int (nI c)), (2, .int (sI (fun p => S.2 6 p) c)), (3, .int (sI (fun p => S.2 5 p) c)), (4, .int (sI (fun p => nI (owe S t p)) c)), (5, .int (sI (vI S) c)), (0, .ref ((ad 0) 0))]) F.x F.b dL_areLots_371 hl (by decide) rfl (fun ls hl => ?_)
      refine lv_iinc (v := (nI (i + 1))) (lv' := [(8, .int (nI (i + 1))), (7, .int ((sI (fun k => sI (fun p => if S.2 1 p = nI (97 + k) then S.2 2 p else 0) c) i) + (sI (fun p => if S.2 1 p = nI (97 + i) then S.2 2 p else 0) c))), (1, .int (nI c)), (2, .int (sI (fun p => S.2 6 p) c)), (3, .int (sI (fun p => S.2 5 p) c)), (4, .int (sI (fun p => nI (owe S t p)) c)), (5, .int (sI (vI S) c)), (0, .ref ((ad 0) 0))]) F.x F.b dL_areLots_373 hl (k := 1) rfl (nI_1 i) (by decide) rfl (fun ls hl => ?_)
      refine lv_goto (tgt := 352) F.x F.b dL_areLots_376 (by decide) ?_
      exact ih (i + 1) (by omega) H locs ls w (lv_sub hl [0, 1, 2, 3, 4, 5, 6, 7] rfl)
  have L1 : ∀ (d i : Nat), i + d = c → ∀ (X : Int32), (∀ b, b < 24 → bt X b = true → ∃ p, p < i ∧ S.2 4 p = nI b) → ∀ (H : Heap) (locs : List Loc) (ls : Array Slot), Wd G A s.heap (fl [wXo G.2.1 (ad 0) (xF ad) svx K, wSh G.2.1 (ad 1) S]) H locs → lv_has ls 14 [(7, .int (nI i)), (1, .int (nI c)), (2, .int (sI (fun p => S.2 6 p) i)), (3, .int (sI (fun p => S.2 5 p) i)), (4, .int (sI (fun p => nI (owe S t p)) i)), (5, .int (sI (vI S) i)), (6, .int X), (0, .ref ((ad 0) 0))] → W p l e { frames := 8, cells := 2, slots := 12, locals := 124 } s m args below meth cm H locs 0 0 (XI G A (fun r9 w1 => r9 = 1 ∧ w1 = fl [wXo G.2.1 (ad 0) (xF ad) svx K, wSh G.2.1 (ad 1) S]) NX 2 12 below args s) (F0 m 21 ls []) := by
    intro d
    induction d with
    | zero =>
      intro i hi X hX H locs ls w hl
      refine lv_iload F.x F.b dL_areLots_21 (lv_at hl 0 rfl) ?_
      refine lv_iload_n F.x F.b dL_areLots_23 rfl (lv_at hl 1 rfl) ?_
      refine lv_icmp_ge (tgt := 346) F.x F.b dL_areLots_24 (by decide) (fun _ => ?_) (fun c9 => absurd (nI_le (a := c) (b := i) (by omega) (by omega)) c9)
      rw [show i = c by omega] at hl
      refine lv_iconst (v := 0) F.x F.b dL_areLots_346 (by decide) ?_
      refine lv_istore (lv' := [(7, .int 0), (1, .int (nI c)), (2, .int (sI (fun p => S.2 6 p) c)), (3, .int (sI (fun p => S.2 5 p) c)), (4, .int (sI (fun p => nI (owe S t p)) c)), (5, .int (sI (vI S) c)), (6, .int X), (0, .ref ((ad 0) 0))]) F.x F.b dL_areLots_347 hl (by decide) rfl (fun ls hl => ?_)
      refine lv_iconst (v := 0) F.x F.b dL_areLots_349 (by decide) ?_
      refine lv_istore (lv' := [(8, .int 0), (7, .int 0), (1, .int (nI c)), (2, .int (sI (fun p => S.2 6 p) c)), (3, .int (sI (fun p => S.2 5 p) c)), (4, .int (sI (fun p => nI (owe S t p)) c)), (5, .int (sI (vI S) c)), (6, .int X), (0, .ref ((ad 0) 0))]) F.x F.b dL_areLots_350 hl (by decide) rfl (fun ls hl => ?_)
      exact LK 5 0 (by omega) H locs ls w (lv_sub hl [0, 1, 2, 3, 4, 5, 6, 8] rfl)
    | succ d ih =>
      intro i hi X hX H locs ls w hl
      have hic : i < c := by omega
      have hp16 : i < 16 := by omega
      have hs := h.slot hic
      obtain ⟨b, hb24, eb⟩ := h.bay hic
      have hat : f_X3_slotAt S (nI b) = some (nI i) := by rw [← eb]; exact h.at hic
      obtain ⟨hv, hv1, hv2⟩ := h.val hic
      have hd := h.dutyOf hic
      obtain ⟨kq, k1, k99, ek⟩ := h.qty hic
      have hpt := h.parts (v := vlu S i) (by omega)
      obtain ⟨sa, hsa, ra, ea⟩ := h.rank hic
      have hxb : (X >>> (nI b &&& 31)) &&& 1 = 0 := bt_no (fun z => by
        obtain ⟨p, hp, ep⟩ := hX b hb24 z
        exact absurd (h.L.2 p i (by omega) hic (ep.trans eb.symm)) (by omega))
      have hX2 : ∀ b2, b2 < 24 → bt (X ||| ((1 : Int32) <<< (nI b &&& 31))) b2 = true → ∃ p, p < i + 1 ∧ S.2 4 p = nI b2 := fun b2 h2 z => by
        rw [bt_or hb24 h2, Bool.or_eq_true] at z
        rcases z with z | z
        · obtain ⟨p, hp, ep⟩ := hX b2 h2 z
          exact ⟨p, by omega, ep⟩
        · exact ⟨i, by omega, by rw [eb, of_decide_eq_true z]⟩
      have K340 : ∀ (H : Heap) (locs : List Loc) (ls : Array Slot), Wd G A s.heap (fl [wXo G.2.1 (ad 0) (xF ad) svx K, wSh G.2.1 (ad 1) S]) H locs → lv_has ls 14 [(7, .int (nI i)), (1, .int (nI c)), (2, .int (sI (fun p => S.2 6 p) (i + 1))), (3, .int (sI (fun p => S.2 5 p) (i + 1))), (4, .int (sI (fun p => nI (owe S t p)) (i + 1))), (5, .int (sI (vI S) (i + 1))), (6, .int (X ||| ((1 : Int32) <<< (nI b &&& 31)))), (0, .ref ((ad 0) 0))] → W p l e { frames := 8, cells := 2, slots := 12, locals := 124 } s m args below meth cm H locs 0 0 (XI G A (fun r9 w1 => r9 = 1 ∧ w1 = fl [wXo G.2.1 (ad 0) (xF ad) svx K, wSh G.2.1 (ad 1) S]) NX 2 12 below args s) (F0 m 340 ls []) := by
        intro H locs ls w hl
        refine lv_iinc (v := (nI (i + 1))) (lv' := [(7, .int (nI (i + 1))), (1, .int (nI c)), (2, .int (sI (fun p => S.2 6 p) (i + 1))), (3, .int (sI (fun p => S.2 5 p) (i + 1))), (4, .int (sI (fun p => nI (owe S t p)) (i + 1))), (5, .int (sI (vI S) (i + 1))), (6, .int (X ||| ((1 : Int32) <<< (nI b &&& 31)))), (0, .ref ((ad 0) 0))]) F.x F.b dL_areLots_340 hl (k := 0) rfl (nI_1 i) (by decide) rfl (fun ls hl => ?_)
        refine lv_goto (tgt := 21) F.x F.b dL_areLots_343 (by decide) ?_
        exact ih (i + 1) (by omega) (X ||| ((1 : Int32) <<< (nI b &&& 31))) hX2 H locs ls w (lv_sub hl [0, 1, 2, 3, 4, 5, 6, 7] rfl)
      have K219 : ∀ (H : Heap) (locs : List Loc) (ls : Array Slot), Wd G A s.heap (fl [wXo G.2.1 (ad 0) (xF ad) svx K, wSh G.2.1 (ad 1) S]) H locs → lv_has ls 14 [(9, .int (nI (vlu S i))), (8, .int (S.2 0 i)), (7, .int (nI i)), (1, .int (nI c)), (2, .int (sI (fun p => S.2 6 p) i)), (3, .int (sI (fun p => S.2 5 p) i)), (4, .int (sI (fun p => nI (owe S t p)) i)), (5, .int (sI (vI S) i)), (6, .int X), (0, .ref ((ad 0) 0))] → W p l e { frames := 8, cells := 2, slots := 12, locals := 124 } s m args below meth cm H locs 0 0 (XI G A (fun r9 w1 => r9 = 1 ∧ w1 = fl [wXo G.2.1 (ad 0) (xF ad) svx K, wSh G.2.1 (ad 1) S]) NX 2 12 below args s) (F0 m 219 ls []) := by
        intro H locs ls w hl
        refine lv_iload F.x F.b dL_areLots_219 (lv_at hl 8 rfl) ?_
        refine lv_iconst (v := 1) F.x F.b dL_areLots_221 (by decide) ?_
        refine lv_aload_n F.x F.b dL_areLots_222 rfl (lv_at hl 9 rfl) ?_
        refine lv_iload F.x F.b dL_areLots_223 (lv_at hl 1 rfl) ?_
        refine kLi F w hst (LC := [wXo G.2.1 (ad 0) (xF ad) svx K, wSh G.2.1 (ad 1) S]) (LR := []) (As := [.ref ((ad 0) 0), .int (S.2 0 i)]) (rest := [.int 1, .int X]) (l_bay_ok F.1 hs hp16) mh_bay vh_bay (List.mem_of_getElem? (i := 1359) (by decide +kernel)) 2 [0, 1] rfl rfl rfl ⟨Nat.le_of_ble_eq_true rfl, Nat.le_of_ble_eq_true rfl⟩ rfl hl.1 rfl (Nat.le_of_ble_eq_true rfl) dL_areLots_225 ⟨Nat.le_of_ble_eq_true rfl, Nat.le_of_ble_eq_true rfl⟩ (fun r9 w1 H locs h9 w => ?_)
        obtain ⟨rfl, h9⟩ := h9
        have w := w.jn (L1 := [wXo G.2.1 (ad 0) (xF ad) svx K, wSh G.2.1 (ad 1) S]) (L' := [wXo G.2.1 (ad 0) (xF ad) svx K, wSh G.2.1 (ad 1) S]) h9 2 [0, 1] rfl rfl rfl
        rw [show (S.2 4 i) = (nI b) from eb]
        refine lv_ishl F.x F.b dL_areLots_228 ?_
        refine lv_ior F.x F.b dL_areLots_229 ?_
        refine lv_istore (lv' := [(6, .int (X ||| (1 <<< ((nI b) &&& 31)))), (9, .int (nI (vlu S i))), (8, .int (S.2 0 i)), (7, .int (nI i)), (1, .int (nI c)), (2, .int (sI (fun p => S.2 6 p) i)), (3, .int (sI (fun p => S.2 5 p) i)), (4, .int (sI (fun p => nI (owe S t p)) i)), (5, .int (sI (vI S) i)), (0, .ref ((ad 0) 0))]) F.x F.b dL_areLots_230 hl (by decide) rfl (fun ls hl => ?_)
        refine lv_iload_n F.x F.b dL_areLots_232 rfl (lv_at hl 5 rfl) ?_
        refine lv_aload_n F.x F.b dL_areLots_233 rfl (lv_at hl 9 rfl) ?_
        refine lv_iload F.x F.b dL_areLots_234 (lv_at hl 2 rfl) ?_
        refine kLi F w hst (LC := [wXo G.2.1 (ad 0) (xF ad) svx K, wSh G.2.1 (ad 1) S]) (LR := []) (As := [.ref ((ad 0) 0), .int (S.2 0 i)]) (rest := [.int (sI (fun p => S.2 6 p) i)]) (l_isDamp_ok F.1 hs hp16 (h.f6 hic)) mh_isDamp vh_isDamp (List.mem_of_getElem? (i := 1385) (by decide +kernel)) 2 [0, 1] rfl rfl rfl ⟨Nat.le_of_ble_eq_true rfl, Nat.le_of_ble_eq_true rfl⟩ rfl hl.1 rfl (Nat.le_of_ble_eq_true rfl) dL_areLots_236 ⟨Nat.le_of_ble_eq_true rfl, Nat.le_of_ble_eq_true rfl⟩ (fun r9 w1 H locs h9 w => ?_)
        obtain ⟨rfl, h9⟩ := h9
        have w := w.jn (L1 := [wXo G.2.1 (ad 0) (xF ad) svx K, wSh G.2.1 (ad 1) S]) (L' := [wXo G.2.1 (ad 0) (xF ad) svx K, wSh G.2.1 (ad 1) S]) h9 2 [0, 1] rfl rfl rfl
        refine lv_iadd F.x F.b dL_areLots_239 ?_
        refine lv_istore_n (lv' := [(2, .int ((sI (fun p => S.2 6 p) i) + (S.2 6 i))), (6, .int (X ||| (1 <<< ((nI b) &&& 31)))), (9, .int (nI (vlu S i))), (8, .int (S.2 0 i)), (7, .int (nI i)), (1, .int (nI c)), (3, .int (sI (fun p => S.2 5 p) i)), (4, .int (sI (fun p => nI (owe S t p)) i)), (5, .int (sI (vI S) i)), (0, .ref ((ad 0) 0))]) F.x F.b dL_areLots_240 rfl hl (by decide) rfl (fun ls hl => ?_)
        refine lv_iload_n F.x F.b dL_areLots_241 rfl (lv_at hl 6 rfl) ?_
        refine lv_aload_n F.x F.b dL_areLots_242 rfl (lv_at hl 9 rfl) ?_
        refine lv_iload F.x F.b dL_areLots_243 (lv_at hl 3 rfl) ?_
        refine kLi F w hst (LC := [wXo G.2.1 (ad 0) (xF ad) svx K, wSh G.2.1 (ad 1) S]) (LR := []) (As := [.ref ((ad 0) 0), .int (S.2 0 i)]) (rest := [.int (sI (fun p => S.2 5 p) i)]) (l_isSealed_ok F.1 hs hp16 (h.f5 hic)) mh_isSealed vh_isSealed (List.mem_of_getElem? (i := 503) (by decide +kernel)) 2 [0, 1] rfl rfl rfl ⟨Nat.le_of_ble_eq_true rfl, Nat.le_of_ble_eq_true rfl⟩ rfl hl.1 rfl (Nat.le_of_ble_eq_true rfl) dL_areLots_245 ⟨Nat.le_of_ble_eq_true rfl, Nat.le_of_ble_eq_true rfl⟩ (fun r9 w1 H locs h9 w => ?_)
        obtain ⟨rfl, h9⟩ := h9
        have w := w.jn (L1 := [wXo G.2.1 (ad 0) (xF ad) svx K, wSh G.2.1 (ad 1) S]) (L' := [wXo G.2.1 (ad 0) (xF ad) svx K, wSh G.2.1 (ad 1) S]) h9 2 [0, 1] rfl rfl rfl
        refine lv_iadd F.x F.b dL_areLots_248 ?_
        refine lv_istore_n (lv' := [(3, .int ((sI (fun p => S.2 5 p) i) + (S.2 5 i))), (2, .int ((sI (fun p => S.2 6 p) i) + (S.2 6 i))), (6, .int (X ||| (1 <<< ((nI b) &&& 31)))), (9, .int (nI (vlu S i))), (8, .int (S.2 0 i)), (7, .int (nI i)), (1, .int (nI c)), (4, .int (sI (fun p => nI (owe S t p)) i)), (5, .int (sI (vI S) i)), (0, .ref ((ad 0) 0))]) F.x F.b dL_areLots_249 rfl hl (by decide) rfl (fun ls hl => ?_)
        refine lv_iload F.x F.b dL_areLots_250 (lv_at hl 7 rfl) ?_
        refine lv_aload_n F.x F.b dL_areLots_252 rfl (lv_at hl 9 rfl) ?_
        refine lv_iload F.x F.b dL_areLots_253 (lv_at hl 4 rfl) ?_
        refine kLi F w hst (LC := [wXo G.2.1 (ad 0) (xF ad) svx K, wSh G.2.1 (ad 1) S]) (LR := []) (As := [.ref ((ad 0) 0), .int (S.2 0 i)]) (rest := [.int (sI (fun p => nI (owe S t p)) i)]) (l_duty_ok F.1 hs hp16 hd) mh_duty vh_duty (List.mem_of_getElem? (i := 510) (by decide +kernel)) 2 [0, 1] rfl rfl rfl ⟨Nat.le_of_ble_eq_true rfl, Nat.le_of_ble_eq_true rfl⟩ rfl hl.1 rfl (Nat.le_of_ble_eq_true rfl) dL_areLots_255 ⟨Nat.le_of_ble_eq_true rfl, Nat.le_of_ble_eq_true rfl⟩ (fun r9 w1 H locs h9 w => ?_)
        obtain ⟨rfl, h9⟩ := h9
        have w := w.jn (L1 := [wXo G.2.1 (ad 0) (xF ad) svx K, wSh G.2.1 (ad 1) S]) (L' := [wXo G.2.1 (ad 0) (xF ad) svx K, wSh G.2.1 (ad 1) S]) h9 2 [0, 1] rfl rfl rfl
        refine lv_iadd F.x F.b dL_areLots_258 ?_
        refine lv_istore (lv' := [(4, .int ((sI (fun p => nI (owe S t p)) i) + (nI (owe S t i)))), (3, .int ((sI (fun p => S.2 5 p) i) + (S.2 5 i))), (2, .int ((sI (fun p => S.2 6 p) i) + (S.2 6 i))), (6, .int (X ||| (1 <<< ((nI b) &&& 31)))), (9, .int (nI (vlu S i))), (8, .int (S.2 0 i)), (7, .int (nI i)), (1, .int (nI c)), (5, .int (sI (vI S) i)), (0, .ref ((ad 0) 0))]) F.x F.b dL_areLots_259 hl (by decide) rfl (fun ls hl => ?_)
        refine lv_iload F.x F.b dL_areLots_261 (lv_at hl 8 rfl) ?_
        refine lv_iload F.x F.b dL_areLots_263 (lv_at hl 4 rfl) ?_
        refine lv_iadd F.x F.b dL_areLots_265 ?_
        refine lv_istore (lv' := [(5, .int ((sI (vI S) i) + (nI (vlu S i)))), (4, .int ((sI (fun p => nI (owe S t p)) i) + (nI (owe S t i)))), (3, .int ((sI (fun p => S.2 5 p) i) + (S.2 5 i))), (2, .int ((sI (fun p => S.2 6 p) i) + (S.2 6 i))), (6, .int (X ||| (1 <<< ((nI b) &&& 31)))), (9, .int (nI (vlu S i))), (8, .int (S.2 0 i)), (7, .int (nI i)), (1, .int (nI c)), (0, .ref ((ad 0) 0))]) F.x F.b dL_areLots_266 hl (by decide) rfl (fun ls hl => ?_)
        refine lv_aload_n F.x F.b dL_areLots_268 rfl (lv_at hl 9 rfl) ?_
        refine lv_iload F.x F.b dL_areLots_269 (lv_at hl 7 rfl) ?_
        refine kLi F w hst (LC := [wXo G.2.1 (ad 0) (xF ad) svx K, wSh G.2.1 (ad 1) S]) (LR := []) (As := [.ref ((ad 0) 0), .int (nI i)]) (rest := []) (l_lotByValue_ok F.1 ea (by omega)) mh_lotByValue vh_lotByValue (List.mem_of_getElem? (i := 1392) (by decide +kernel)) 2 [0, 1] rfl rfl rfl ⟨Nat.le_of_ble_eq_true rfl, Nat.le_of_ble_eq_true rfl⟩ rfl hl.1 rfl (Nat.le_of_ble_eq_true rfl) dL_areLots_271 ⟨Nat.le_of_ble_eq_true rfl, Nat.le_of_ble_eq_true rfl⟩ (fun r9 w1 H locs h9 w => ?_)
        obtain ⟨rfl, h9⟩ := h9
        have w := w.jn (L1 := [wXo G.2.1 (ad 0) (xF ad) svx K, wSh G.2.1 (ad 1) S]) (L' := [wXo G.2.1 (ad 0) (xF ad) svx K, wSh G.2.1 (ad 1) S]) h9 2 [0, 1] rfl rfl rfl
        refine lv_istore (lv' := [(12, .int (S.2 0 sa)), (5, .int ((sI (vI S) i) + (nI (vlu S i)))), (4, .int ((sI (fun p => nI (owe S t p)) i) + (nI (owe S t i)))), (3, .int ((sI (fun p => S.2 5 p) i) + (S.2 5 i))), (2, .int ((sI (fun p => S.2 6 p) i) + (S.2 6 i))), (6, .int (X ||| (1 <<< ((nI b) &&& 31)))), (9, .int (nI (vlu S i))), (8, .int (S.2 0 i)), (7, .int (nI i)), (1, .int (nI c)), (0, .ref ((ad 0) 0))]) F.x F.b dL_areLots_274 hl (by decide) rfl (fun ls hl => ?_)
        refine lv_iload F.x F.b dL_areLots_276 (lv_at hl 8 rfl) ?_
        rw [← hv] at hl
        rcases Nat.eq_zero_or_pos i with hi0 | hi0
        · refine lv_if_ne (tgt := 286) F.x F.b dL_areLots_278 (by decide) (fun c9 => absurd (show nI i = 0 by rw [hi0]; rfl) c9) (fun _ => ?_)
          refine lv_iload F.x F.b dL_areLots_281 (lv_at hl 0 rfl) ?_
          refine lv_goto (tgt := 294) F.x F.b dL_areLots_283 (by decide) ?_
          refine lv_istore (lv' := [(13, .int (S.2 0 sa)), (12, .int (S.2 0 sa)), (5, .int ((sI (vI S) i) + (S.2 2 i * S.2 3 i))), (4, .int ((sI (fun p => nI (owe S t p)) i) + (nI (owe S t i)))), (3, .int ((sI (fun p => S.2 5 p) i) + (S.2 5 i))), (2, .int ((sI (fun p => S.2 6 p) i) + (S.2 6 i))), (6, .int (X ||| (1 <<< ((nI b) &&& 31)))), (9, .int (S.2 2 i * S.2 3 i)), (8, .int (S.2 0 i)), (7, .int (nI i)), (1, .int (nI c)), (0, .ref ((ad 0) 0))]) F.x F.b dL_areLots_294 hl (by decide) rfl (fun ls hl => ?_)
          refine lv_aload_n F.x F.b dL_areLots_296 rfl (lv_at hl 11 rfl) ?_
          refine lv_iload F.x F.b dL_areLots_297 (lv_at hl 0 rfl) ?_
          refine kLi F w hst (LC := [wXo G.2.1 (ad 0) (xF ad) svx K, wSh G.2.1 (ad 1) S]) (LR := []) (As := [.ref ((ad 0) 0), .int (S.2 0 sa)]) (rest := []) (l_value_ok F.1 (h.slot hsa) (by omega)) mh_value vh_value (List.mem_of_getElem? (i := 1366) (by decide +kernel)) 2 [0, 1] rfl rfl rfl ⟨Nat.le_of_ble_eq_true rfl, Nat.le_of_ble_eq_true rfl⟩ rfl hl.1 rfl (Nat.le_of_ble_eq_true rfl) dL_areLots_299 ⟨Nat.le_of_ble_eq_true rfl, Nat.le_of_ble_eq_true rfl⟩ (fun r9 w1 H locs h9 w => ?_)
          obtain ⟨rfl, h9⟩ := h9
          have w := w.jn (L1 := [wXo G.2.1 (ad 0) (xF ad) svx K, wSh G.2.1 (ad 1) S]) (L' := [wXo G.2.1 (ad 0) (xF ad) svx K, wSh G.2.1 (ad 1) S]) h9 2 [0, 1] rfl rfl rfl
          refine lv_aload_n F.x F.b dL_areLots_302 rfl (lv_at hl 11 rfl) ?_
          refine lv_iload F.x F.b dL_areLots_303 (lv_at hl 1 rfl) ?_
          refine kLi F w hst (LC := [wXo G.2.1 (ad 0) (xF ad) svx K, wSh G.2.1 (ad 1) S]) (LR := []) (As := [.ref ((ad 0) 0), .int (S.2 0 sa)]) (rest := [.int (S.2 2 sa * S.2 3 sa)]) (l_value_ok F.1 (h.slot hsa) (by omega)) mh_value vh_value (List.mem_of_getElem? (i := 1366) (by decide +kernel)) 2 [0, 1] rfl rfl rfl ⟨Nat.le_of_ble_eq_true rfl, Nat.le_of_ble_eq_true rfl⟩ rfl hl.1 rfl (Nat.le_of_ble_eq_true rfl) dL_areLots_305 ⟨Nat.le_of_ble_eq_true rfl, Nat.le_of_ble_eq_true rfl⟩ (fun r9 w1 H locs h9 w => ?_)
          obtain ⟨rfl, h9⟩ := h9
          have w := w.jn (L1 := [wXo G.2.1 (ad 0) (xF ad) svx K, wSh G.2.1 (ad 1) S]) (L' := [wXo G.2.1 (ad 0) (xF ad) svx K, wSh G.2.1 (ad 1) S]) h9 2 [0, 1] rfl rfl rfl
          refine lv_icmp_lt (tgt := 338) F.x F.b dL_areLots_308 (by decide) (fun c9 => absurd c9 (Int32.lt_irrefl : ¬ (S.2 2 sa * S.2 3 sa) < (S.2 2 sa * S.2 3 sa))) (fun _ => ?_)
          refine lv_iload F.x F.b dL_areLots_311 (lv_at hl 9 rfl) ?_
          refine lv_if_le (tgt := 340) F.x F.b dL_areLots_313 (by decide) (fun _ => ?_) (fun c9 => absurd (show nI i ≤ 0 by rw [hi0]; decide) c9)
          exact K340 H locs ls w (lv_sub hl [9, 10, 5, 4, 3, 2, 6, 11] rfl)
        · obtain ⟨sc, hsc, rc, ec⟩ := h.rank (r := i - 1) (by omega)
          have hah := rk_ahead hsc hsa (show rk (vI S) c sc < rk (vI S) c sa by omega)
          refine lv_if_ne (tgt := 286) F.x F.b dL_areLots_278 (by decide) (fun _ => ?_) (fun c9 => absurd c9 (fun z => absurd ((nI_eq (a := i) (b := 0) (by omega) (by omega)).mp z) (by omega)))
          refine lv_aload_n F.x F.b dL_areLots_286 rfl (lv_at hl 10 rfl) ?_
          refine lv_iload F.x F.b dL_areLots_287 (lv_at hl 8 rfl) ?_
          refine lv_iconst (v := 1) F.x F.b dL_areLots_289 (by decide) ?_
          refine lv_isub F.x F.b dL_areLots_290 ?_
          rw [show ((nI i) - 1) = (nI (i - 1)) from (pk_sub (a := i) (b := 1) (by omega))]
          refine kLi F w hst (LC := [wXo G.2.1 (ad 0) (xF ad) svx K, wSh G.2.1 (ad 1) S]) (LR := []) (As := [.ref ((ad 0) 0), .int (nI (i - 1))]) (rest := []) (l_lotByValue_ok F.1 ec (by omega)) mh_lotByValue vh_lotByValue (List.mem_of_getElem? (i := 1392) (by decide +kernel)) 2 [0, 1] rfl rfl rfl ⟨Nat.le_of_ble_eq_true rfl, Nat.le_of_ble_eq_true rfl⟩ rfl hl.1 rfl (Nat.le_of_ble_eq_true rfl) dL_areLots_291 ⟨Nat.le_of_ble_eq_true rfl, Nat.le_of_ble_eq_true rfl⟩ (fun r9 w1 H locs h9 w => ?_)
          obtain ⟨rfl, h9⟩ := h9
          have w := w.jn (L1 := [wXo G.2.1 (ad 0) (xF ad) svx K, wSh G.2.1 (ad 1) S]) (L' := [wXo G.2.1 (ad 0) (xF ad) svx K, wSh G.2.1 (ad 1) S]) h9 2 [0, 1] rfl rfl rfl
          refine lv_istore (lv' := [(13, .int (S.2 0 sc)), (12, .int (S.2 0 sa)), (5, .int ((sI (vI S) i) + (S.2 2 i * S.2 3 i))), (4, .int ((sI (fun p => nI (owe S t p)) i) + (nI (owe S t i)))), (3, .int ((sI (fun p => S.2 5 p) i) + (S.2 5 i))), (2, .int ((sI (fun p => S.2 6 p) i) + (S.2 6 i))), (6, .int (X ||| (1 <<< ((nI b) &&& 31)))), (9, .int (S.2 2 i * S.2 3 i)), (8, .int (S.2 0 i)), (7, .int (nI i)), (1, .int (nI c)), (0, .ref ((ad 0) 0))]) F.x F.b dL_areLots_294 hl (by decide) rfl (fun ls hl => ?_)
          refine lv_aload_n F.x F.b dL_areLots_296 rfl (lv_at hl 11 rfl) ?_
          refine lv_iload F.x F.b dL_areLots_297 (lv_at hl 0 rfl) ?_
          refine kLi F w hst (LC := [wXo G.2.1 (ad 0) (xF ad) svx K, wSh G.2.1 (ad 1) S]) (LR := []) (As := [.ref ((ad 0) 0), .int (S.2 0 sc)]) (rest := []) (l_value_ok F.1 (h.slot hsc) (by omega)) mh_value vh_value (List.mem_of_getElem? (i := 1366) (by decide +kernel)) 2 [0, 1] rfl rfl rfl ⟨Nat.le_of_ble_eq_true rfl, Nat.le_of_ble_eq_true rfl⟩ rfl hl.1 rfl (Nat.le_of_ble_eq_true rfl) dL_areLots_299 ⟨Nat.le_of_ble_eq_true rfl, Nat.le_of_ble_eq_true rfl⟩ (fun r9 w1 H locs h9 w => ?_)
          obtain ⟨rfl, h9⟩ := h9
          have w := w.jn (L1 := [wXo G.2.1 (ad 0) (xF ad) svx K, wSh G.2.1 (ad 1) S]) (L' := [wXo G.2.1 (ad 0) (xF ad) svx K, wSh G.2.1 (ad 1) S]) h9 2 [0, 1] rfl rfl rfl
          refine lv_aload_n F.x F.b dL_areLots_302 rfl (lv_at hl 11 rfl) ?_
          refine lv_iload F.x F.b dL_areLots_303 (lv_at hl 1 rfl) ?_
          refine kLi F w hst (LC := [wXo G.2.1 (ad 0) (xF ad) svx K, wSh G.2.1 (ad 1) S]) (LR := []) (As := [.ref ((ad 0) 0), .int (S.2 0 sa)]) (rest := [.int (S.2 2 sc * S.2 3 sc)]) (l_value_ok F.1 (h.slot hsa) (by omega)) mh_value vh_value (List.mem_of_getElem? (i := 1366) (by decide +kernel)) 2 [0, 1] rfl rfl rfl ⟨Nat.le_of_ble_eq_true rfl, Nat.le_of_ble_eq_true rfl⟩ rfl hl.1 rfl (Nat.le_of_ble_eq_true rfl) dL_areLots_305 ⟨Nat.le_of_ble_eq_true rfl, Nat.le_of_ble_eq_true rfl⟩ (fun r9 w1 H locs h9 w => ?_)
          obtain ⟨rfl, h9⟩ := h9
          have w := w.jn (L1 := [wXo G.2.1 (ad 0) (xF ad) svx K, wSh G.2.1 (ad 1) S]) (L' := [wXo G.2.1 (ad 0) (xF ad) svx K, wSh G.2.1 (ad 1) S]) h9 2 [0, 1] rfl rfl rfl
          refine lv_icmp_lt (tgt := 338) F.x F.b dL_areLots_308 (by decide) (fun c9 => absurd c9 (ah_ge hah)) (fun _ => ?_)
          refine lv_iload F.x F.b dL_areLots_311 (lv_at hl 9 rfl) ?_
          refine lv_if_le (tgt := 340) F.x F.b dL_areLots_313 (by decide) (fun c9 => absurd c9 (show ¬ nI i ≤ 0 from nI_nle (n := i) hi0 (by omega))) (fun _ => ?_)
          refine lv_aload_n F.x F.b dL_areLots_316 rfl (lv_at hl 11 rfl) ?_
          refine lv_iload F.x F.b dL_areLots_317 (lv_at hl 0 rfl) ?_
          refine kLi F w hst (LC := [wXo G.2.1 (ad 0) (xF ad) svx K, wSh G.2.1 (ad 1) S]) (LR := []) (As := [.ref ((ad 0) 0), .int (S.2 0 sc)]) (rest := []) (l_value_ok F.1 (h.slot hsc) (by omega)) mh_value vh_value (List.mem_of_getElem? (i := 1366) (by decide +kernel)) 2 [0, 1] rfl rfl rfl ⟨Nat.le_of_ble_eq_true rfl, Nat.le_of_ble_eq_true rfl⟩ rfl hl.1 rfl (Nat.le_of_ble_eq_true rfl) dL_areLots_319 ⟨Nat.le_of_ble_eq_true rfl, Nat.le_of_ble_eq_true rfl⟩ (fun r9 w1 H locs h9 w => ?_)
          obtain ⟨rfl, h9⟩ := h9
          have w := w.jn (L1 := [wXo G.2.1 (ad 0) (xF ad) svx K, wSh G.2.1 (ad 1) S]) (L' := [wXo G.2.1 (ad 0) (xF ad) svx K, wSh G.2.1 (ad 1) S]) h9 2 [0, 1] rfl rfl rfl
          refine lv_aload_n F.x F.b dL_areLots_322 rfl (lv_at hl 11 rfl) ?_
          refine lv_iload F.x F.b dL_areLots_323 (lv_at hl 1 rfl) ?_
          refine kLi F w hst (LC := [wXo G.2.1 (ad 0) (xF ad) svx K, wSh G.2.1 (ad 1) S]) (LR := []) (As := [.ref ((ad 0) 0), .int (S.2 0 sa)]) (rest := [.int (S.2 2 sc * S.2 3 sc)]) (l_value_ok F.1 (h.slot hsa) (by omega)) mh_value vh_value (List.mem_of_getElem? (i := 1366) (by decide +kernel)) 2 [0, 1] rfl rfl rfl ⟨Nat.le_of_ble_eq_true rfl, Nat.le_of_ble_eq_true rfl⟩ rfl hl.1 rfl (Nat.le_of_ble_eq_true rfl) dL_areLots_325 ⟨Nat.le_of_ble_eq_true rfl, Nat.le_of_ble_eq_true rfl⟩ (fun r9 w1 H locs h9 w => ?_)
          obtain ⟨rfl, h9⟩ := h9
          have w := w.jn (L1 := [wXo G.2.1 (ad 0) (xF ad) svx K, wSh G.2.1 (ad 1) S]) (L' := [wXo G.2.1 (ad 0) (xF ad) svx K, wSh G.2.1 (ad 1) S]) h9 2 [0, 1] rfl rfl rfl
          by_cases hvv : (S.2 2 sc * S.2 3 sc) = (S.2 2 sa * S.2 3 sa)
          · refine lv_icmp_ne (tgt := 340) F.x F.b dL_areLots_328 (by decide) (fun c9 => absurd hvv c9) (fun _ => ?_)
            refine lv_iload F.x F.b dL_areLots_331 (lv_at hl 0 rfl) ?_
            refine lv_iload F.x F.b dL_areLots_333 (lv_at hl 1 rfl) ?_
            refine lv_icmp_le (tgt := 340) F.x F.b dL_areLots_335 (by decide) (fun _ => ?_) (fun c9 => absurd (ah_id h hN hah hvv hsa) c9)
            exact K340 H locs ls w (lv_sub hl [9, 10, 5, 4, 3, 2, 6, 11] rfl)
          · refine lv_icmp_ne (tgt := 340) F.x F.b dL_areLots_328 (by decide) (fun _ => ?_) (fun c9 => absurd c9 hvv)
            exact K340 H locs ls w (lv_sub hl [9, 10, 5, 4, 3, 2, 6, 11] rfl)
      have K187 : ∀ (H : Heap) (locs : List Loc) (ls : Array Slot), Wd G A s.heap (fl [wXo G.2.1 (ad 0) (xF ad) svx K, wSh G.2.1 (ad 1) S]) H locs → lv_has ls 14 [(11, .int 1), (10, .int 1), (9, .int (nI (vlu S i))), (8, .int (S.2 0 i)), (7, .int (nI i)), (1, .int (nI c)), (2, .int (sI (fun p => S.2 6 p) i)), (3, .int (sI (fun p => S.2 5 p) i)), (4, .int (sI (fun p => nI (owe S t p)) i)), (5, .int (sI (vI S) i)), (6, .int X), (0, .ref ((ad 0) 0))] → W p l e { frames := 8, cells := 2, slots := 12, locals := 124 } s m args below meth cm H locs 0 0 (XI G A (fun r9 w1 => r9 = 1 ∧ w1 = fl [wXo G.2.1 (ad 0) (xF ad) svx K, wSh G.2.1 (ad 1) S]) NX 2 12 below args s) (F0 m 187 ls []) := by
        intro H locs ls w hl
        refine lv_iload F.x F.b dL_areLots_187 (lv_at hl 1 rfl) ?_
        refine lv_if_eq (tgt := 217) F.x F.b dL_areLots_189 (by decide) (fun c9 => absurd c9 (by decide)) (fun _ => ?_)
        refine lv_iload F.x F.b dL_areLots_192 (lv_at hl 0 rfl) ?_
        refine lv_if_eq (tgt := 217) F.x F.b dL_areLots_194 (by decide) (fun c9 => absurd c9 (by decide)) (fun _ => ?_)
        refine lv_aload_n F.x F.b dL_areLots_197 rfl (lv_at hl 11 rfl) ?_
        refine lv_iload F.x F.b dL_areLots_198 (lv_at hl 3 rfl) ?_
        refine kLi F w hst (LC := [wXo G.2.1 (ad 0) (xF ad) svx K, wSh G.2.1 (ad 1) S]) (LR := []) (As := [.ref ((ad 0) 0), .int (S.2 0 i)]) (rest := []) (l_isSealed_ok F.1 hs hp16 (h.f5 hic)) mh_isSealed vh_isSealed (List.mem_of_getElem? (i := 503) (by decide +kernel)) 2 [0, 1] rfl rfl rfl ⟨Nat.le_of_ble_eq_true rfl, Nat.le_of_ble_eq_true rfl⟩ rfl hl.1 rfl (Nat.le_of_ble_eq_true rfl) dL_areLots_200 ⟨Nat.le_of_ble_eq_true rfl, Nat.le_of_ble_eq_true rfl⟩ (fun r9 w1 H locs h9 w => ?_)
        obtain ⟨rfl, h9⟩ := h9
        have w := w.jn (L1 := [wXo G.2.1 (ad 0) (xF ad) svx K, wSh G.2.1 (ad 1) S]) (L' := [wXo G.2.1 (ad 0) (xF ad) svx K, wSh G.2.1 (ad 1) S]) h9 2 [0, 1] rfl rfl rfl
        refine lv_iconst (v := 1) F.x F.b dL_areLots_203 (by decide) ?_
        rcases h.f5 hic with z5 | z5
        · refine lv_icmp_ne (tgt := 219) F.x F.b dL_areLots_204 (by decide) (fun _ => ?_) (fun c9 => absurd c9 (by rw [z5]; decide))
          exact K219 H locs ls w (lv_sub hl [2, 3, 4, 5, 6, 7, 8, 9, 10, 11] rfl)
        · refine lv_icmp_ne (tgt := 219) F.x F.b dL_areLots_204 (by decide) (fun c9 => absurd z5 c9) (fun _ => ?_)
          refine lv_aload_n F.x F.b dL_areLots_207 rfl (lv_at hl 11 rfl) ?_
          refine lv_iload F.x F.b dL_areLots_208 (lv_at hl 3 rfl) ?_
          refine kLi F w hst (LC := [wXo G.2.1 (ad 0) (xF ad) svx K, wSh G.2.1 (ad 1) S]) (LR := []) (As := [.ref ((ad 0) 0), .int (S.2 0 i)]) (rest := []) (l_isDamp_ok F.1 hs hp16 (h.f6 hic)) mh_isDamp vh_isDamp (List.mem_of_getElem? (i := 1385) (by decide +kernel)) 2 [0, 1] rfl rfl rfl ⟨Nat.le_of_ble_eq_true rfl, Nat.le_of_ble_eq_true rfl⟩ rfl hl.1 rfl (Nat.le_of_ble_eq_true rfl) dL_areLots_210 ⟨Nat.le_of_ble_eq_true rfl, Nat.le_of_ble_eq_true rfl⟩ (fun r9 w1 H locs h9 w => ?_)
          obtain ⟨rfl, h9⟩ := h9
          have w := w.jn (L1 := [wXo G.2.1 (ad 0) (xF ad) svx K, wSh G.2.1 (ad 1) S]) (L' := [wXo G.2.1 (ad 0) (xF ad) svx K, wSh G.2.1 (ad 1) S]) h9 2 [0, 1] rfl rfl rfl
          refine lv_iconst (v := 1) F.x F.b dL_areLots_213 (by decide) ?_
          refine lv_icmp_ne (tgt := 219) F.x F.b dL_areLots_214 (by decide) (fun _ => ?_) (fun c9 => absurd c9 (by rw [h.f56 hic z5]; decide))
          exact K219 H locs ls w (lv_sub hl [2, 3, 4, 5, 6, 7, 8, 9, 10, 11] rfl)
      have K165 : ∀ (H : Heap) (locs : List Loc) (ls : Array Slot), Wd G A s.heap (fl [wXo G.2.1 (ad 0) (xF ad) svx K, wSh G.2.1 (ad 1) S]) H locs → lv_has ls 14 [(10, .int 1), (9, .int (nI (vlu S i))), (8, .int (S.2 0 i)), (7, .int (nI i)), (1, .int (nI c)), (2, .int (sI (fun p => S.2 6 p) i)), (3, .int (sI (fun p => S.2 5 p) i)), (4, .int (sI (fun p => nI (owe S t p)) i)), (5, .int (sI (vI S) i)), (6, .int X), (0, .ref ((ad 0) 0))] → W p l e { frames := 8, cells := 2, slots := 12, locals := 124 } s m args below meth cm H locs 0 0 (XI G A (fun r9 w1 => r9 = 1 ∧ w1 = fl [wXo G.2.1 (ad 0) (xF ad) svx K, wSh G.2.1 (ad 1) S]) NX 2 12 below args s) (F0 m 165 ls []) := by
        intro H locs ls w hl
        refine lv_aload_n F.x F.b dL_areLots_165 rfl (lv_at hl 10 rfl) ?_
        refine lv_iload F.x F.b dL_areLots_166 (lv_at hl 1 rfl) ?_
        refine kLi F w hst (LC := [wXo G.2.1 (ad 0) (xF ad) svx K, wSh G.2.1 (ad 1) S]) (LR := []) (As := [.ref ((ad 0) 0), .int (nI (vlu S i))]) (rest := []) (l_dutyOnByCoins_ok F.1 (rng99 (by omega)) hpt.2) mh_dutyOnByCoins vh_dutyOnByCoins (List.mem_of_getElem? (i := 1374) (by decide +kernel)) 2 [0, 1] rfl rfl rfl ⟨Nat.le_of_ble_eq_true rfl, Nat.le_of_ble_eq_true rfl⟩ rfl hl.1 rfl (Nat.le_of_ble_eq_true rfl) dL_areLots_168 ⟨Nat.le_of_ble_eq_true rfl, Nat.le_of_ble_eq_true rfl⟩ (fun r9 w1 H locs h9 w => ?_)
        obtain ⟨rfl, h9⟩ := h9
        have w := w.jn (L1 := [wXo G.2.1 (ad 0) (xF ad) svx K, wSh G.2.1 (ad 1) S]) (L' := [wXo G.2.1 (ad 0) (xF ad) svx K, wSh G.2.1 (ad 1) S]) h9 2 [0, 1] rfl rfl rfl
        refine lv_aload_n F.x F.b dL_areLots_171 rfl (lv_at hl 10 rfl) ?_
        refine lv_iload F.x F.b dL_areLots_172 (lv_at hl 1 rfl) ?_
        refine kLi F w hst (LC := [wXo G.2.1 (ad 0) (xF ad) svx K, wSh G.2.1 (ad 1) S]) (LR := []) (As := [.ref ((ad 0) 0), .int (nI (vlu S i))]) (rest := [.int (nI (dty S t (vlu S i)))]) (l_dutyOn_ok F.1 (rng99 (by omega)) hpt.1) mh_dutyOn vh_dutyOn (List.mem_of_getElem? (i := 1312) (by decide +kernel)) 2 [0, 1] rfl rfl rfl ⟨Nat.le_of_ble_eq_true rfl, Nat.le_of_ble_eq_true rfl⟩ rfl hl.1 rfl (Nat.le_of_ble_eq_true rfl) dL_areLots_174 ⟨Nat.le_of_ble_eq_true rfl, Nat.le_of_ble_eq_true rfl⟩ (fun r9 w1 H locs h9 w => ?_)
        obtain ⟨rfl, h9⟩ := h9
        have w := w.jn (L1 := [wXo G.2.1 (ad 0) (xF ad) svx K, wSh G.2.1 (ad 1) S]) (L' := [wXo G.2.1 (ad 0) (xF ad) svx K, wSh G.2.1 (ad 1) S]) h9 2 [0, 1] rfl rfl rfl
        refine lv_icmp_ne (tgt := 184) F.x F.b dL_areLots_177 (by decide) (fun c9 => absurd rfl c9) (fun _ => ?_)
        refine lv_iconst (v := 1) F.x F.b dL_areLots_180 (by decide) ?_
        refine lv_goto (tgt := 185) F.x F.b dL_areLots_181 (by decide) ?_
        refine lv_istore (lv' := [(11, .int 1), (10, .int 1), (9, .int (nI (vlu S i))), (8, .int (S.2 0 i)), (7, .int (nI i)), (1, .int (nI c)), (2, .int (sI (fun p => S.2 6 p) i)), (3, .int (sI (fun p => S.2 5 p) i)), (4, .int (sI (fun p => nI (owe S t p)) i)), (5, .int (sI (vI S) i)), (6, .int X), (0, .ref ((ad 0) 0))]) F.x F.b dL_areLots_185 hl (by decide) rfl (fun ls hl => ?_)
        exact K187 H locs ls w (lv_sub hl [0, 1, 2, 3, 4, 5, 6, 7, 8, 9, 10, 11] rfl)
      have K104 : ∀ (H : Heap) (locs : List Loc) (ls : Array Slot), Wd G A s.heap (fl [wXo G.2.1 (ad 0) (xF ad) svx K, wSh G.2.1 (ad 1) S]) H locs → lv_has ls 14 [(10, .int 1), (9, .int (nI (vlu S i))), (8, .int (S.2 0 i)), (7, .int (nI i)), (1, .int (nI c)), (2, .int (sI (fun p => S.2 6 p) i)), (3, .int (sI (fun p => S.2 5 p) i)), (4, .int (sI (fun p => nI (owe S t p)) i)), (5, .int (sI (vI S) i)), (6, .int X), (0, .ref ((ad 0) 0))] → W p l e { frames := 8, cells := 2, slots := 12, locals := 124 } s m args below meth cm H locs 0 0 (XI G A (fun r9 w1 => r9 = 1 ∧ w1 = fl [wXo G.2.1 (ad 0) (xF ad) svx K, wSh G.2.1 (ad 1) S]) NX 2 12 below args s) (F0 m 104 ls []) := by
        intro H locs ls w hl
        refine lv_aload_n F.x F.b dL_areLots_104 rfl (lv_at hl 10 rfl) ?_
        refine lv_iload F.x F.b dL_areLots_105 (lv_at hl 2 rfl) ?_
        refine kLi F w hst (LC := [wXo G.2.1 (ad 0) (xF ad) svx K, wSh G.2.1 (ad 1) S]) (LR := []) (As := [.ref ((ad 0) 0), .int (S.2 0 i)]) (rest := []) (l_value_ok F.1 hs hp16) mh_value vh_value (List.mem_of_getElem? (i := 1366) (by decide +kernel)) 2 [0, 1] rfl rfl rfl ⟨Nat.le_of_ble_eq_true rfl, Nat.le_of_ble_eq_true rfl⟩ rfl hl.1 rfl (Nat.le_of_ble_eq_true rfl) dL_areLots_107 ⟨Nat.le_of_ble_eq_true rfl, Nat.le_of_ble_eq_true rfl⟩ (fun r9 w1 H locs h9 w => ?_)
        obtain ⟨rfl, h9⟩ := h9
        have w := w.jn (L1 := [wXo G.2.1 (ad 0) (xF ad) svx K, wSh G.2.1 (ad 1) S]) (L' := [wXo G.2.1 (ad 0) (xF ad) svx K, wSh G.2.1 (ad 1) S]) h9 2 [0, 1] rfl rfl rfl
        rw [show (S.2 2 i * S.2 3 i) = (nI (vlu S i)) from hv]
        refine lv_iload F.x F.b dL_areLots_110 (lv_at hl 1 rfl) ?_
        refine lv_icmp_ne (tgt := 184) F.x F.b dL_areLots_112 (by decide) (fun c9 => absurd rfl c9) (fun _ => ?_)
        refine lv_aload_n F.x F.b dL_areLots_115 rfl (lv_at hl 10 rfl) ?_
        refine lv_iload F.x F.b dL_areLots_116 (lv_at hl 2 rfl) ?_
        refine kLi F w hst (LC := [wXo G.2.1 (ad 0) (xF ad) svx K, wSh G.2.1 (ad 1) S]) (LR := []) (As := [.ref ((ad 0) 0), .int (S.2 0 i)]) (rest := []) (l_quantity_ok F.1 hs hp16) mh_quantity vh_quantity (List.mem_of_getElem? (i := 471) (by decide +kernel)) 2 [0, 1] rfl rfl rfl ⟨Nat.le_of_ble_eq_true rfl, Nat.le_of_ble_eq_true rfl⟩ rfl hl.1 rfl (Nat.le_of_ble_eq_true rfl) dL_areLots_118 ⟨Nat.le_of_ble_eq_true rfl, Nat.le_of_ble_eq_true rfl⟩ (fun r9 w1 H locs h9 w => ?_)
        obtain ⟨rfl, h9⟩ := h9
        have w := w.jn (L1 := [wXo G.2.1 (ad 0) (xF ad) svx K, wSh G.2.1 (ad 1) S]) (L' := [wXo G.2.1 (ad 0) (xF ad) svx K, wSh G.2.1 (ad 1) S]) h9 2 [0, 1] rfl rfl rfl
        rw [show (S.2 2 i) = (nI kq) from ek]
        refine lv_iconst (v := 1) F.x F.b dL_areLots_121 (by decide) ?_
        refine lv_icmp_lt (tgt := 184) F.x F.b dL_areLots_122 (by decide) (fun c9 => absurd c9 (show ¬ nI kq < 1 from nI_nlt (a := kq) (b := 1) (by omega) (by omega))) (fun _ => ?_)
        refine lv_aload_n F.x F.b dL_areLots_125 rfl (lv_at hl 10 rfl) ?_
        refine lv_iload F.x F.b dL_areLots_126 (lv_at hl 2 rfl) ?_
        refine kLi F w hst (LC := [wXo G.2.1 (ad 0) (xF ad) svx K, wSh G.2.1 (ad 1) S]) (LR := []) (As := [.ref ((ad 0) 0), .int (S.2 0 i)]) (rest := []) (l_quantity_ok F.1 hs hp16) mh_quantity vh_quantity (List.mem_of_getElem? (i := 471) (by decide +kernel)) 2 [0, 1] rfl rfl rfl ⟨Nat.le_of_ble_eq_true rfl, Nat.le_of_ble_eq_true rfl⟩ rfl hl.1 rfl (Nat.le_of_ble_eq_true rfl) dL_areLots_128 ⟨Nat.le_of_ble_eq_true rfl, Nat.le_of_ble_eq_true rfl⟩ (fun r9 w1 H locs h9 w => ?_)
        obtain ⟨rfl, h9⟩ := h9
        have w := w.jn (L1 := [wXo G.2.1 (ad 0) (xF ad) svx K, wSh G.2.1 (ad 1) S]) (L' := [wXo G.2.1 (ad 0) (xF ad) svx K, wSh G.2.1 (ad 1) S]) h9 2 [0, 1] rfl rfl rfl
        rw [show (S.2 2 i) = (nI kq) from ek]
        refine lv_bipush (v := 99) F.x F.b dL_areLots_131 (by decide) ?_
        refine lv_icmp_gt (tgt := 184) F.x F.b dL_areLots_133 (by decide) (fun c9 => absurd c9 (show ¬ (99 : Int32) < nI kq from nI_nlt (a := 99) (b := kq) (by omega) (by omega))) (fun _ => ?_)
        refine lv_aload_n F.x F.b dL_areLots_136 rfl (lv_at hl 10 rfl) ?_
        refine lv_iload F.x F.b dL_areLots_137 (lv_at hl 2 rfl) ?_
        refine kLi F w hst (LC := [wXo G.2.1 (ad 0) (xF ad) svx K, wSh G.2.1 (ad 1) S]) (LR := []) (As := [.ref ((ad 0) 0), .int (S.2 0 i)]) (rest := []) (l_duty_ok F.1 hs hp16 hd) mh_duty vh_duty (List.mem_of_getElem? (i := 510) (by decide +kernel)) 2 [0, 1] rfl rfl rfl ⟨Nat.le_of_ble_eq_true rfl, Nat.le_of_ble_eq_true rfl⟩ rfl hl.1 rfl (Nat.le_of_ble_eq_true rfl) dL_areLots_139 ⟨Nat.le_of_ble_eq_true rfl, Nat.le_of_ble_eq_true rfl⟩ (fun r9 w1 H locs h9 w => ?_)
        obtain ⟨rfl, h9⟩ := h9
        have w := w.jn (L1 := [wXo G.2.1 (ad 0) (xF ad) svx K, wSh G.2.1 (ad 1) S]) (L' := [wXo G.2.1 (ad 0) (xF ad) svx K, wSh G.2.1 (ad 1) S]) h9 2 [0, 1] rfl rfl rfl
        refine lv_aload_n F.x F.b dL_areLots_142 rfl (lv_at hl 10 rfl) ?_
        refine lv_iload F.x F.b dL_areLots_143 (lv_at hl 2 rfl) ?_
        refine kLi F w hst (LC := [wXo G.2.1 (ad 0) (xF ad) svx K, wSh G.2.1 (ad 1) S]) (LR := []) (As := [.ref ((ad 0) 0), .int (S.2 0 i)]) (rest := [.int (nI (owe S t i))]) (l_isSealed_ok F.1 hs hp16 (h.f5 hic)) mh_isSealed vh_isSealed (List.mem_of_getElem? (i := 503) (by decide +kernel)) 2 [0, 1] rfl rfl rfl ⟨Nat.le_of_ble_eq_true rfl, Nat.le_of_ble_eq_true rfl⟩ rfl hl.1 rfl (Nat.le_of_ble_eq_true rfl) dL_areLots_145 ⟨Nat.le_of_ble_eq_true rfl, Nat.le_of_ble_eq_true rfl⟩ (fun r9 w1 H locs h9 w => ?_)
        obtain ⟨rfl, h9⟩ := h9
        have w := w.jn (L1 := [wXo G.2.1 (ad 0) (xF ad) svx K, wSh G.2.1 (ad 1) S]) (L' := [wXo G.2.1 (ad 0) (xF ad) svx K, wSh G.2.1 (ad 1) S]) h9 2 [0, 1] rfl rfl rfl
        refine lv_iconst (v := 1) F.x F.b dL_areLots_148 (by decide) ?_
        rcases h.f5 hic with z5 | z5
        · refine lv_icmp_ne (tgt := 156) F.x F.b dL_areLots_149 (by decide) (fun _ => ?_) (fun c9 => absurd c9 (by rw [z5]; decide))
          refine lv_aload_n F.x F.b dL_areLots_156 rfl (lv_at hl 10 rfl) ?_
          refine lv_iload F.x F.b dL_areLots_157 (lv_at hl 1 rfl) ?_
          refine kLi F w hst (LC := [wXo G.2.1 (ad 0) (xF ad) svx K, wSh G.2.1 (ad 1) S]) (LR := []) (As := [.ref ((ad 0) 0), .int (nI (vlu S i))]) (rest := [.int (nI (owe S t i))]) (l_dutyOn_ok F.1 (rng99 (by omega)) hpt.1) mh_dutyOn vh_dutyOn (List.mem_of_getElem? (i := 1312) (by decide +kernel)) 2 [0, 1] rfl rfl rfl ⟨Nat.le_of_ble_eq_true rfl, Nat.le_of_ble_eq_true rfl⟩ rfl hl.1 rfl (Nat.le_of_ble_eq_true rfl) dL_areLots_159 ⟨Nat.le_of_ble_eq_true rfl, Nat.le_of_ble_eq_true rfl⟩ (fun r9 w1 H locs h9 w => ?_)
          obtain ⟨rfl, h9⟩ := h9
          have w := w.jn (L1 := [wXo G.2.1 (ad 0) (xF ad) svx K, wSh G.2.1 (ad 1) S]) (L' := [wXo G.2.1 (ad 0) (xF ad) svx K, wSh G.2.1 (ad 1) S]) h9 2 [0, 1] rfl rfl rfl
          refine lv_icmp_ne (tgt := 184) F.x F.b dL_areLots_162 (by decide) (fun c9 => absurd (show nI (owe S t i) = nI (dty S t (vlu S i)) by rw [owe, if_pos z5]) c9) (fun _ => ?_)
          exact K165 H locs ls w (lv_sub hl [0, 1, 2, 3, 4, 5, 6, 7, 8, 9, 10] rfl)
        · refine lv_icmp_ne (tgt := 156) F.x F.b dL_areLots_149 (by decide) (fun c9 => absurd z5 c9) (fun _ => ?_)
          refine lv_iconst (v := 0) F.x F.b dL_areLots_152 (by decide) ?_
          refine lv_goto (tgt := 162) F.x F.b dL_areLots_153 (by decide) ?_
          refine lv_icmp_ne (tgt := 184) F.x F.b dL_areLots_162 (by decide) (fun c9 => absurd (show nI (owe S t i) = 0 by rw [owe, if_neg (by rw [z5]; decide)]; rfl) c9) (fun _ => ?_)
          exact K165 H locs ls w (lv_sub hl [0, 1, 2, 3, 4, 5, 6, 7, 8, 9, 10] rfl)
      have K83 : ∀ (H : Heap) (locs : List Loc) (ls : Array Slot), Wd G A s.heap (fl [wXo G.2.1 (ad 0) (xF ad) svx K, wSh G.2.1 (ad 1) S]) H locs → lv_has ls 14 [(9, .int (nI (vlu S i))), (8, .int (S.2 0 i)), (7, .int (nI i)), (1, .int (nI c)), (2, .int (sI (fun p => S.2 6 p) i)), (3, .int (sI (fun p => S.2 5 p) i)), (4, .int (sI (fun p => nI (owe S t p)) i)), (5, .int (sI (vI S) i)), (6, .int X), (0, .ref ((ad 0) 0))] → W p l e { frames := 8, cells := 2, slots := 12, locals := 124 } s m args below meth cm H locs 0 0 (XI G A (fun r9 w1 => r9 = 1 ∧ w1 = fl [wXo G.2.1 (ad 0) (xF ad) svx K, wSh G.2.1 (ad 1) S]) NX 2 12 below args s) (F0 m 83 ls []) := by
        intro H locs ls w hl
        refine lv_iload F.x F.b dL_areLots_83 (lv_at hl 8 rfl) ?_
        refine lv_aload_n F.x F.b dL_areLots_85 rfl (lv_at hl 9 rfl) ?_
        refine lv_iload F.x F.b dL_areLots_86 (lv_at hl 1 rfl) ?_
        refine kLi F w hst (LC := [wXo G.2.1 (ad 0) (xF ad) svx K, wSh G.2.1 (ad 1) S]) (LR := []) (As := [.ref ((ad 0) 0), .int (S.2 0 i)]) (rest := [.int X]) (l_bay_ok F.1 hs hp16) mh_bay vh_bay (List.mem_of_getElem? (i := 1359) (by decide +kernel)) 2 [0, 1] rfl rfl rfl ⟨Nat.le_of_ble_eq_true rfl, Nat.le_of_ble_eq_true rfl⟩ rfl hl.1 rfl (Nat.le_of_ble_eq_true rfl) dL_areLots_88 ⟨Nat.le_of_ble_eq_true rfl, Nat.le_of_ble_eq_true rfl⟩ (fun r9 w1 H locs h9 w => ?_)
        obtain ⟨rfl, h9⟩ := h9
        have w := w.jn (L1 := [wXo G.2.1 (ad 0) (xF ad) svx K, wSh G.2.1 (ad 1) S]) (L' := [wXo G.2.1 (ad 0) (xF ad) svx K, wSh G.2.1 (ad 1) S]) h9 2 [0, 1] rfl rfl rfl
        rw [show (S.2 4 i) = (nI b) from eb]
        refine lv_ishr F.x F.b dL_areLots_91 ?_
        refine lv_iconst (v := 1) F.x F.b dL_areLots_92 (by decide) ?_
        refine lv_iand F.x F.b dL_areLots_93 ?_
        refine lv_if_ne (tgt := 101) F.x F.b dL_areLots_94 (by decide) (fun c9 => absurd hxb c9) (fun _ => ?_)
        refine lv_iconst (v := 1) F.x F.b dL_areLots_97 (by decide) ?_
        refine lv_goto (tgt := 102) F.x F.b dL_areLots_98 (by decide) ?_
        refine lv_istore (lv' := [(10, .int 1), (9, .int (nI (vlu S i))), (8, .int (S.2 0 i)), (7, .int (nI i)), (1, .int (nI c)), (2, .int (sI (fun p => S.2 6 p) i)), (3, .int (sI (fun p => S.2 5 p) i)), (4, .int (sI (fun p => nI (owe S t p)) i)), (5, .int (sI (vI S) i)), (6, .int X), (0, .ref ((ad 0) 0))]) F.x F.b dL_areLots_102 hl (by decide) rfl (fun ls hl => ?_)
        exact K104 H locs ls w (lv_sub hl [0, 1, 2, 3, 4, 5, 6, 7, 8, 9, 10] rfl)
      refine lv_iload F.x F.b dL_areLots_21 (lv_at hl 0 rfl) ?_
      refine lv_iload_n F.x F.b dL_areLots_23 rfl (lv_at hl 1 rfl) ?_
      refine lv_icmp_ge (tgt := 346) F.x F.b dL_areLots_24 (by decide) (fun c9 => absurd c9 (nI_ge (a := i) (b := c) (by omega) (by omega))) (fun _ => ?_)
      refine lv_aload_n F.x F.b dL_areLots_27 rfl (lv_at hl 7 rfl) ?_
      refine lv_iload F.x F.b dL_areLots_28 (lv_at hl 0 rfl) ?_
      refine kLi F w hst (LC := [wXo G.2.1 (ad 0) (xF ad) svx K, wSh G.2.1 (ad 1) S]) (LR := []) (As := [.ref ((ad 0) 0), .int (nI i)]) (rest := []) (l_lot_ok F.1 h.c1 (kk := i) hic hc16) mh_lot vh_lot (List.mem_of_getElem? (i := 360) (by decide +kernel)) 2 [0, 1] rfl rfl rfl ⟨Nat.le_of_ble_eq_true rfl, Nat.le_of_ble_eq_true rfl⟩ rfl hl.1 rfl (Nat.le_of_ble_eq_true rfl) dL_areLots_30 ⟨Nat.le_of_ble_eq_true rfl, Nat.le_of_ble_eq_true rfl⟩ (fun r9 w1 H locs h9 w => ?_)
      obtain ⟨rfl, h9⟩ := h9
      have w := w.jn (L1 := [wXo G.2.1 (ad 0) (xF ad) svx K, wSh G.2.1 (ad 1) S]) (L' := [wXo G.2.1 (ad 0) (xF ad) svx K, wSh G.2.1 (ad 1) S]) h9 2 [0, 1] rfl rfl rfl
      refine lv_istore (lv' := [(8, .int (S.2 0 i)), (7, .int (nI i)), (1, .int (nI c)), (2, .int (sI (fun p => S.2 6 p) i)), (3, .int (sI (fun p => S.2 5 p) i)), (4, .int (sI (fun p => nI (owe S t p)) i)), (5, .int (sI (vI S) i)), (6, .int X), (0, .ref ((ad 0) 0))]) F.x F.b dL_areLots_33 hl (by decide) rfl (fun ls hl => ?_)
      refine lv_aload_n F.x F.b dL_areLots_35 rfl (lv_at hl 8 rfl) ?_
      refine lv_iload F.x F.b dL_areLots_36 (lv_at hl 0 rfl) ?_
      refine kLi F w hst (LC := [wXo G.2.1 (ad 0) (xF ad) svx K, wSh G.2.1 (ad 1) S]) (LR := []) (As := [.ref ((ad 0) 0), .int (S.2 0 i)]) (rest := []) (l_quantity_ok F.1 hs hp16) mh_quantity vh_quantity (List.mem_of_getElem? (i := 471) (by decide +kernel)) 2 [0, 1] rfl rfl rfl ⟨Nat.le_of_ble_eq_true rfl, Nat.le_of_ble_eq_true rfl⟩ rfl hl.1 rfl (Nat.le_of_ble_eq_true rfl) dL_areLots_38 ⟨Nat.le_of_ble_eq_true rfl, Nat.le_of_ble_eq_true rfl⟩ (fun r9 w1 H locs h9 w => ?_)
      obtain ⟨rfl, h9⟩ := h9
      have w := w.jn (L1 := [wXo G.2.1 (ad 0) (xF ad) svx K, wSh G.2.1 (ad 1) S]) (L' := [wXo G.2.1 (ad 0) (xF ad) svx K, wSh G.2.1 (ad 1) S]) h9 2 [0, 1] rfl rfl rfl
      refine lv_aload_n F.x F.b dL_areLots_41 rfl (lv_at hl 8 rfl) ?_
      refine lv_iload F.x F.b dL_areLots_42 (lv_at hl 0 rfl) ?_
      refine kLi F w hst (LC := [wXo G.2.1 (ad 0) (xF ad) svx K, wSh G.2.1 (ad 1) S]) (LR := []) (As := [.ref ((ad 0) 0), .int (S.2 0 i)]) (rest := [.int (S.2 2 i)]) (l_price_ok F.1 hs hp16) mh_price vh_price (List.mem_of_getElem? (i := 1352) (by decide +kernel)) 2 [0, 1] rfl rfl rfl ⟨Nat.le_of_ble_eq_true rfl, Nat.le_of_ble_eq_true rfl⟩ rfl hl.1 rfl (Nat.le_of_ble_eq_true rfl) dL_areLots_44 ⟨Nat.le_of_ble_eq_true rfl, Nat.le_of_ble_eq_true rfl⟩ (fun r9 w1 H locs h9 w => ?_)
      obtain ⟨rfl, h9⟩ := h9
      have w := w.jn (L1 := [wXo G.2.1 (ad 0) (xF ad) svx K, wSh G.2.1 (ad 1) S]) (L' := [wXo G.2.1 (ad 0) (xF ad) svx K, wSh G.2.1 (ad 1) S]) h9 2 [0, 1] rfl rfl rfl
      refine lv_imul F.x F.b dL_areLots_47 ?_
      rw [show ((S.2 2 i) * (S.2 3 i)) = (nI (vlu S i)) from hv]
      refine lv_istore (lv' := [(9, .int (nI (vlu S i))), (8, .int (S.2 0 i)), (7, .int (nI i)), (1, .int (nI c)), (2, .int (sI (fun p => S.2 6 p) i)), (3, .int (sI (fun p => S.2 5 p) i)), (4, .int (sI (fun p => nI (owe S t p)) i)), (5, .int (sI (vI S) i)), (6, .int X), (0, .ref ((ad 0) 0))]) F.x F.b dL_areLots_48 hl (by decide) rfl (fun ls hl => ?_)
      refine lv_aload_n F.x F.b dL_areLots_50 rfl (lv_at hl 9 rfl) ?_
      refine lv_aload_n F.x F.b dL_areLots_51 rfl (lv_at hl 9 rfl) ?_
      refine lv_iload F.x F.b dL_areLots_52 (lv_at hl 1 rfl) ?_
      refine kLi F w hst (LC := [wXo G.2.1 (ad 0) (xF ad) svx K, wSh G.2.1 (ad 1) S]) (LR := []) (As := [.ref ((ad 0) 0), .int (S.2 0 i)]) (rest := [.ref ((ad 0) 0)]) (l_bay_ok F.1 hs hp16) mh_bay vh_bay (List.mem_of_getElem? (i := 1359) (by decide +kernel)) 2 [0, 1] rfl rfl rfl ⟨Nat.le_of_ble_eq_true rfl, Nat.le_of_ble_eq_true rfl⟩ rfl hl.1 rfl (Nat.le_of_ble_eq_true rfl) dL_areLots_54 ⟨Nat.le_of_ble_eq_true rfl, Nat.le_of_ble_eq_true rfl⟩ (fun r9 w1 H locs h9 w => ?_)
      obtain ⟨rfl, h9⟩ := h9
      have w := w.jn (L1 := [wXo G.2.1 (ad 0) (xF ad) svx K, wSh G.2.1 (ad 1) S]) (L' := [wXo G.2.1 (ad 0) (xF ad) svx K, wSh G.2.1 (ad 1) S]) h9 2 [0, 1] rfl rfl rfl
      rw [show (S.2 4 i) = (nI b) from eb]
      refine kLi F w hst (LC := [wXo G.2.1 (ad 0) (xF ad) svx K, wSh G.2.1 (ad 1) S]) (LR := []) (As := [.ref ((ad 0) 0), .int (nI b)]) (rest := []) (l_lotAt_ok F.1 hb24 hat hp16) mh_lotAt vh_lotAt (List.mem_of_getElem? (i := 1341) (by decide +kernel)) 2 [0, 1] rfl rfl rfl ⟨Nat.le_of_ble_eq_true rfl, Nat.le_of_ble_eq_true rfl⟩ rfl hl.1 rfl (Nat.le_of_ble_eq_true rfl) dL_areLots_57 ⟨Nat.le_of_ble_eq_true rfl, Nat.le_of_ble_eq_true rfl⟩ (fun r9 w1 H locs h9 w => ?_)
      obtain ⟨rfl, h9⟩ := h9
      have w := w.jn (L1 := [wXo G.2.1 (ad 0) (xF ad) svx K, wSh G.2.1 (ad 1) S]) (L' := [wXo G.2.1 (ad 0) (xF ad) svx K, wSh G.2.1 (ad 1) S]) h9 2 [0, 1] rfl rfl rfl
      refine lv_iload F.x F.b dL_areLots_60 (lv_at hl 1 rfl) ?_
      refine lv_icmp_ne (tgt := 101) F.x F.b dL_areLots_62 (by decide) (fun c9 => absurd rfl c9) (fun _ => ?_)
      refine lv_iload F.x F.b dL_areLots_65 (lv_at hl 2 rfl) ?_
      rcases Nat.eq_zero_or_pos i with hi0 | hi0
      · refine lv_if_eq (tgt := 83) F.x F.b dL_areLots_67 (by decide) (fun _ => ?_) (fun c9 => absurd (show nI i = 0 by rw [hi0]; rfl) c9)
        exact K83 H locs ls w (lv_sub hl [0, 1, 2, 3, 4, 5, 6, 7, 8, 9] rfl)
      · refine lv_if_eq (tgt := 83) F.x F.b dL_areLots_67 (by decide) (fun c9 => absurd c9 (fun z => absurd ((nI_eq (a := i) (b := 0) (by omega) (by omega)).mp z) (by omega))) (fun _ => ?_)
        refine lv_aload_n F.x F.b dL_areLots_70 rfl (lv_at hl 9 rfl) ?_
        refine lv_iload F.x F.b dL_areLots_71 (lv_at hl 2 rfl) ?_
        refine lv_iconst (v := 1) F.x F.b dL_areLots_73 (by decide) ?_
        refine lv_isub F.x F.b dL_areLots_74 ?_
        rw [show ((nI i) - 1) = (nI (i - 1)) from (pk_sub (a := i) (b := 1) (by omega))]
        refine kLi F w hst (LC := [wXo G.2.1 (ad 0) (xF ad) svx K, wSh G.2.1 (ad 1) S]) (LR := []) (As := [.ref ((ad 0) 0), .int (nI (i - 1))]) (rest := []) (l_lot_ok F.1 h.c1 (kk := i - 1) (by omega) hc16) mh_lot vh_lot (List.mem_of_getElem? (i := 360) (by decide +kernel)) 2 [0, 1] rfl rfl rfl ⟨Nat.le_of_ble_eq_true rfl, Nat.le_of_ble_eq_true rfl⟩ rfl hl.1 rfl (Nat.le_of_ble_eq_true rfl) dL_areLots_75 ⟨Nat.le_of_ble_eq_true rfl, Nat.le_of_ble_eq_true rfl⟩ (fun r9 w1 H locs h9 w => ?_)
        obtain ⟨rfl, h9⟩ := h9
        have w := w.jn (L1 := [wXo G.2.1 (ad 0) (xF ad) svx K, wSh G.2.1 (ad 1) S]) (L' := [wXo G.2.1 (ad 0) (xF ad) svx K, wSh G.2.1 (ad 1) S]) h9 2 [0, 1] rfl rfl rfl
        refine lv_iload F.x F.b dL_areLots_78 (lv_at hl 1 rfl) ?_
        refine lv_icmp_ge (tgt := 101) F.x F.b dL_areLots_80 (by decide) (fun c9 => absurd c9 (Int32.not_le.mpr (h.idlt hN (p := i - 1) (p' := i) (by omega) hic))) (fun _ => ?_)
        exact K83 H locs ls w (lv_sub hl [0, 1, 2, 3, 4, 5, 6, 7, 8, 9] rfl)
  refine lv_aload_n F.x F.b dL_areLots_0 rfl (lv_at hl 0 rfl) ?_
  refine kXi F w hst (LC := [wXo G.2.1 (ad 0) (xF ad) svx K, wSh G.2.1 (ad 1) S]) (LR := []) (As := []) (rest := []) ((t_X6_lotCount F.1 (x := ad 0) (a := ad 1) (rf := xF ad) (sv := svx) rfl (show f_X6_lotCount K S = some (S.1 0) from rfl)).toX : CX G yX6_lotCount cX6_lotCount 1 .int 0 0 0 0 [.ref ((ad 0) 0)] (fl [wXo G.2.1 (ad 0) (xF ad) svx K, wSh G.2.1 (ad 1) S]) _ _) m_X6_lotCount v_X6_lotCount q291 (ci := 10) (q0 := 0) rfl rfl rfl 2 [0, 1] rfl rfl rfl ⟨Nat.le_of_ble_eq_true rfl, Nat.le_of_ble_eq_true rfl⟩ rfl hl.1 rfl (Nat.le_of_ble_eq_true rfl) dL_areLots_1 ⟨Nat.le_of_ble_eq_true rfl, Nat.le_of_ble_eq_true rfl⟩ (fun _ _ _ _ _ _ hx => False.elim hx) (fun r9 w1 H locs h9 w => ?_)
  obtain ⟨rfl, h9⟩ := h9
  have w := w.jn (L1 := [wXo G.2.1 (ad 0) (xF ad) svx K, wSh G.2.1 (ad 1) S]) (L' := [wXo G.2.1 (ad 0) (xF ad) svx K, wSh G.2.1 (ad 1) S]) h9 2 [0, 1] rfl rfl rfl
  rw [show (S.1 0) = (nI c) from h.c1]
  refine lv_istore_n (lv' := [(1, .int (nI c)), (0, .ref ((ad 0) 0))]) F.x F.b dL_areLots_4 rfl hl (by decide) rfl (fun ls hl => ?_)
  refine lv_iconst (v := 0) F.x F.b dL_areLots_5 (by decide) ?_
  refine lv_istore_n (lv' := [(2, .int 0), (1, .int (nI c)), (0, .ref ((ad 0) 0))]) F.x F.b dL_areLots_6 rfl hl (by decide) rfl (fun ls hl => ?_)
  refine lv_iconst (v := 0) F.x F.b dL_areLots_7 (by decide) ?_
  refine lv_istore_n (lv' := [(3, .int 0), (2, .int 0), (1, .int (nI c)), (0, .ref ((ad 0) 0))]) F.x F.b dL_areLots_8 rfl hl (by decide) rfl (fun ls hl => ?_)
  refine lv_iconst (v := 0) F.x F.b dL_areLots_9 (by decide) ?_
  refine lv_istore (lv' := [(4, .int 0), (3, .int 0), (2, .int 0), (1, .int (nI c)), (0, .ref ((ad 0) 0))]) F.x F.b dL_areLots_10 hl (by decide) rfl (fun ls hl => ?_)
  refine lv_iconst (v := 0) F.x F.b dL_areLots_12 (by decide) ?_
  refine lv_istore (lv' := [(5, .int 0), (4, .int 0), (3, .int 0), (2, .int 0), (1, .int (nI c)), (0, .ref ((ad 0) 0))]) F.x F.b dL_areLots_13 hl (by decide) rfl (fun ls hl => ?_)
  refine lv_iconst (v := 0) F.x F.b dL_areLots_15 (by decide) ?_
  refine lv_istore (lv' := [(6, .int 0), (5, .int 0), (4, .int 0), (3, .int 0), (2, .int 0), (1, .int (nI c)), (0, .ref ((ad 0) 0))]) F.x F.b dL_areLots_16 hl (by decide) rfl (fun ls hl => ?_)
  refine lv_iconst (v := 0) F.x F.b dL_areLots_18 (by decide) ?_
  refine lv_istore (lv' := [(7, .int 0), (6, .int 0), (5, .int 0), (4, .int 0), (3, .int 0), (2, .int 0), (1, .int (nI c)), (0, .ref ((ad 0) 0))]) F.x F.b dL_areLots_19 hl (by decide) rfl (fun ls hl => ?_)
  exact L1 c 0 (by omega) 0 (fun b hb z => by rw [bt_0 b hb] at z; cases z) H locs ls w (lv_sub hl [0, 6, 5, 4, 3, 2, 1, 7] rfl)

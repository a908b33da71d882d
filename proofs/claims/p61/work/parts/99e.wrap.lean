/-! printed by wip/p61/tools/gen99d.py: the law's wrappers -/
set_option maxRecDepth 100000 in
set_option maxHeartbeats 4000000 in
theorem l_seal_ok {G : cG} (g : GOK G) {ad : Nat → Nat → Nat} {svx : Value} {K S S' : Mem} {cu ct : Nat} {hs : hS} {x1 : Int32} {r : Nat} (k1 : cu < 9) (hcp : ∀ P0, ∃ P, f_X4_copyFrom P0 S = some P) (k2 : ct ≤ 8) (hr9 : r < 2 ^ 31) (e1 : f_X4_sealLot S x1 = some (nI r, S')) : CXH G yL_seal cL_seal 3 [(0, 5, 6, 32), (0, 5, 10, 24), (0, 5, 14, 26)] 5 109 14 161 [.ref ((ad 0) 0), .int x1] (fl [wXo G.2.1 (ad 0) (xF ad) svx K, wSh G.2.1 (ad 1) S, wHo G.2.1 (ad 3) cu ct hs, hsL G.2.1 hs]) (fun r9 w1 => r9 = nI r ∧ YeW G ad svx K S S' cu ct hs w1) := by
  refine CXH.of g (by decide) rfl (Nat.le_of_ble_eq_true rfl) (List.mem_of_getElem? (i := 712) (by decide +kernel)) (by rfl) ?_
  intro p l e s m below meth cm A ls hst htab F hr hlocks w hl
  generalize ([.ref ((ad 0) 0), .int x1] : List Value).toArray = args
  have hl : lv_has ls 3 [(0, .ref ((ad 0) 0)), (1, .int x1)] := hl
  have w : Wd G A s.heap (fl [wXo G.2.1 (ad 0) (xF ad) svx K, wSh G.2.1 (ad 1) S, wHo G.2.1 (ad 3) cu ct hs, hsL G.2.1 hs]) _ _ := w
  refine lv_aload_n F.x F.b dL_seal_0 rfl (lv_at hl 0 rfl) ?_
  refine lv_iload_n F.x F.b dL_seal_1 rfl (lv_at hl 1 rfl) ?_
  refine kXi F w hst (LC := [wXo G.2.1 (ad 0) (xF ad) svx K, wSh G.2.1 (ad 1) S, wHo G.2.1 (ad 3) cu ct hs, hsL G.2.1 hs]) (LR := []) (As := [.int x1]) (rest := []) (k_seal_ok F.1 k1 hcp k2 hr9 e1) m_X6_seal v_X6_seal q713 (ci := 10) (q0 := 0) rfl rfl rfl 4 [0, 1, 2, 3] rfl rfl rfl ⟨Nat.le_of_ble_eq_true rfl, Nat.le_of_ble_eq_true rfl⟩ rfl hl.1 rfl (Nat.le_of_ble_eq_true rfl) dL_seal_2 ⟨Nat.le_of_ble_eq_true rfl, Nat.le_of_ble_eq_true rfl⟩ (fun _ _ _ _ _ _ hx => False.elim hx) (fun r9 w1 H locs h9 w => ?_)
  rw [show fl ([] : List va_W) = [] from rfl, List.append_nil] at w
  exact eiX F w hr hlocks rfl h9 (Nat.le_of_ble_eq_true rfl) (Nat.le_of_ble_eq_true rfl) dL_seal_5
set_option maxRecDepth 100000 in
set_option maxHeartbeats 4000000 in
theorem l_open_no {G : cG} (g : GOK G) (gM : MG G) (hNC : NcG G) {ad : Nat → Nat → Nat} {svx : Value} {K S : Mem} {cu ct : Nat} {hs : hS} {x1 : Int32} {E : String} (k1 : cu < 9) (hcp : ∀ P0, ∃ P, f_X4_copyFrom P0 S = some P) (e1 : f_X4_openLot S x1 = some (numE E, S)) (hE : E ∈ [eNSE, eISE]) : CXH G yL_open cL_open 3 [(0, 5, 6, 32), (0, 5, 10, 24)] 9 144 15 167 [.ref ((ad 0) 0), .int x1] (fl [wXo G.2.1 (ad 0) (xF ad) svx K, wSh G.2.1 (ad 1) S, wHo G.2.1 (ad 3) cu ct hs, hsL G.2.1 hs]) (fun r9 w1 => r9 = cdE E ∧ NoW G ad svx K S cu ct hs w1) := by
  refine CXH.of g (by decide) rfl (Nat.le_of_ble_eq_true rfl) (List.mem_of_getElem? (i := 760) (by decide +kernel)) (by rfl) ?_
  intro p l e s m below meth cm A ls hst htab F hr hlocks w hl
  generalize ([.ref ((ad 0) 0), .int x1] : List Value).toArray = args
  have hl : lv_has ls 3 [(0, .ref ((ad 0) 0)), (1, .int x1)] := hl
  have w : Wd G A s.heap (fl [wXo G.2.1 (ad 0) (xF ad) svx K, wSh G.2.1 (ad 1) S, wHo G.2.1 (ad 3) cu ct hs, hsL G.2.1 hs]) _ _ := w
  refine lv_aload_n F.x F.b dL_open_0 rfl (lv_at hl 0 rfl) ?_
  refine lv_iload_n F.x F.b dL_open_1 rfl (lv_at hl 1 rfl) ?_
  refine kXi F w hst (LC := [wXo G.2.1 (ad 0) (xF ad) svx K, wSh G.2.1 (ad 1) S, wHo G.2.1 (ad 3) cu ct hs, hsL G.2.1 hs]) (LR := []) (As := [.int x1]) (rest := []) (k_open_no F.1 gM k1 hcp e1 (by revert hE; exact fun hE => (by decide +kernel : ∀ x ∈ ([eNSE, eISE] : List String), x ∈ excL) _ hE)) m_X6_open v_X6_open q761 (ci := 10) (q0 := 0) rfl rfl rfl 4 [0, 1, 2, 3] rfl rfl rfl ⟨Nat.le_of_ble_eq_true rfl, Nat.le_of_ble_eq_true rfl⟩ rfl hl.1 rfl (Nat.le_of_ble_eq_true rfl) dL_open_2 ⟨Nat.le_of_ble_eq_true rfl, Nat.le_of_ble_eq_true rfl⟩ (fun E9 w1 ce q H locs hx w hce hcv hcl => ?_) (fun r9 w1 H locs h9 w => ?_)
  · obtain ⟨rfl, hx⟩ := hx
    rw [show fl ([] : List va_W) = [] from rfl, List.append_nil] at w
    simp only [List.mem_cons, List.not_mem_nil, or_false] at hE
    rcases hE with rfl | rfl
    · refine vx_catch F.o (name := eNSE) (tableOf []) ⟨0, 5, 6, 32⟩ (tableOf [(0, 5, 10, 24)]) htab pass_nil rfl (by decide) (F.t _ (List.mem_of_getElem? (i := 474) (by decide +kernel)) rfl _) (F.t _ (List.mem_of_getElem? (i := 489) (by decide +kernel)) rfl _) hce hcv hcl ?_
      refine lv_astore_n (lv' := [(2, .ref q), (0, .ref ((ad 0) 0)), (1, .int x1)]) F.x F.b dL_open_6 rfl hl (by decide) rfl (fun ls hl => ?_)
      refine lv_bipush (v := (-75)) F.x F.b dL_open_7 (by decide) ?_
      exact eiX F w hr hlocks rfl ⟨by decide +kernel, hx⟩ (Nat.le_of_ble_eq_true rfl) (Nat.le_of_ble_eq_true rfl) dL_open_9
    · refine vx_catch F.o (name := eISE) (tableOf [(0, 5, 6, 32)]) ⟨0, 5, 10, 24⟩ (tableOf []) htab (pass_cons F hNC (by decide) (T := eNSE) (List.mem_of_getElem? (i := 474) (by decide +kernel)) (by decide +kernel : eISE ∈ allE) (by decide +kernel : eNSE ∈ allE) (by decide +kernel) pass_nil) rfl (by decide) (F.t _ (List.mem_of_getElem? (i := 610) (by decide +kernel)) rfl _) (F.t _ (List.mem_of_getElem? (i := 655) (by decide +kernel)) rfl _) hce hcv hcl ?_
      refine lv_astore_n (lv' := [(2, .ref q), (0, .ref ((ad 0) 0)), (1, .int x1)]) F.x F.b dL_open_10 rfl hl (by decide) rfl (fun ls hl => ?_)
      refine lv_bipush (v := (-79)) F.x F.b dL_open_11 (by decide) ?_
      exact eiX F w hr hlocks rfl ⟨by decide +kernel, hx⟩ (Nat.le_of_ble_eq_true rfl) (Nat.le_of_ble_eq_true rfl) dL_open_13
  · exact False.elim h9
set_option maxRecDepth 100000 in
set_option maxHeartbeats 4000000 in
theorem l_open_ok {G : cG} (g : GOK G) {ad : Nat → Nat → Nat} {svx : Value} {K S S' : Mem} {cu ct : Nat} {hs : hS} {x1 : Int32} {r : Nat} (k1 : cu < 9) (hcp : ∀ P0, ∃ P, f_X4_copyFrom P0 S = some P) (k2 : ct ≤ 8) (hr9 : r < 2 ^ 31) (e1 : f_X4_openLot S x1 = some (nI r, S')) : CXH G yL_open cL_open 3 [(0, 5, 6, 32), (0, 5, 10, 24)] 5 109 14 161 [.ref ((ad 0) 0), .int x1] (fl [wXo G.2.1 (ad 0) (xF ad) svx K, wSh G.2.1 (ad 1) S, wHo G.2.1 (ad 3) cu ct hs, hsL G.2.1 hs]) (fun r9 w1 => r9 = nI r ∧ YeW G ad svx K S S' cu ct hs w1) := by
  refine CXH.of g (by decide) rfl (Nat.le_of_ble_eq_true rfl) (List.mem_of_getElem? (i := 760) (by decide +kernel)) (by rfl) ?_
  intro p l e s m below meth cm A ls hst htab F hr hlocks w hl
  generalize ([.ref ((ad 0) 0), .int x1] : List Value).toArray = args
  have hl : lv_has ls 3 [(0, .ref ((ad 0) 0)), (1, .int x1)] := hl
  have w : Wd G A s.heap (fl [wXo G.2.1 (ad 0) (xF ad) svx K, wSh G.2.1 (ad 1) S, wHo G.2.1 (ad 3) cu ct hs, hsL G.2.1 hs]) _ _ := w
  refine lv_aload_n F.x F.b dL_open_0 rfl (lv_at hl 0 rfl) ?_
  refine lv_iload_n F.x F.b dL_open_1 rfl (lv_at hl 1 rfl) ?_
  refine kXi F w hst (LC := [wXo G.2.1 (ad 0) (xF ad) svx K, wSh G.2.1 (ad 1) S, wHo G.2.1 (ad 3) cu ct hs, hsL G.2.1 hs]) (LR := []) (As := [.int x1]) (rest := []) (k_open_ok F.1 k1 hcp k2 hr9 e1) m_X6_open v_X6_open q761 (ci := 10) (q0 := 0) rfl rfl rfl 4 [0, 1, 2, 3] rfl rfl rfl ⟨Nat.le_of_ble_eq_true rfl, Nat.le_of_ble_eq_true rfl⟩ rfl hl.1 rfl (Nat.le_of_ble_eq_true rfl) dL_open_2 ⟨Nat.le_of_ble_eq_true rfl, Nat.le_of_ble_eq_true rfl⟩ (fun _ _ _ _ _ _ hx => False.elim hx) (fun r9 w1 H locs h9 w => ?_)
  rw [show fl ([] : List va_W) = [] from rfl, List.append_nil] at w
  exact eiX F w hr hlocks rfl h9 (Nat.le_of_ble_eq_true rfl) (Nat.le_of_ble_eq_true rfl) dL_open_5
set_option maxRecDepth 100000 in
set_option maxHeartbeats 4000000 in
theorem l_wet_no {G : cG} (g : GOK G) (gM : MG G) (hNC : NcG G) {ad : Nat → Nat → Nat} {svx : Value} {K S : Mem} {cu ct : Nat} {hs : hS} {x1 : Int32} {E : String} (k1 : cu < 9) (hcp : ∀ P0, ∃ P, f_X4_copyFrom P0 S = some P) (e1 : f_X4_wetLot S x1 = some (numE E, S)) (hE : E ∈ [eNSE, eISE]) : CXH G yL_wet cL_wet 3 [(0, 5, 6, 32), (0, 5, 10, 24)] 9 144 15 167 [.ref ((ad 0) 0), .int x1] (fl [wXo G.2.1 (ad 0) (xF ad) svx K, wSh G.2.1 (ad 1) S, wHo G.2.1 (ad 3) cu ct hs, hsL G.2.1 hs]) (fun r9 w1 => r9 = cdE E ∧ NoW G ad svx K S cu ct hs w1) := by
  refine CXH.of g (by decide) rfl (Nat.le_of_ble_eq_true rfl) (List.mem_of_getElem? (i := 771) (by decide +kernel)) (by rfl) ?_
  intro p l e s m below meth cm A ls hst htab F hr hlocks w hl
  generalize ([.ref ((ad 0) 0), .int x1] : List Value).toArray = args
  have hl : lv_has ls 3 [(0, .ref ((ad 0) 0)), (1, .int x1)] := hl
  have w : Wd G A s.heap (fl [wXo G.2.1 (ad 0) (xF ad) svx K, wSh G.2.1 (ad 1) S, wHo G.2.1 (ad 3) cu ct hs, hsL G.2.1 hs]) _ _ := w
  refine lv_aload_n F.x F.b dL_wet_0 rfl (lv_at hl 0 rfl) ?_
  refine lv_iload_n F.x F.b dL_wet_1 rfl (lv_at hl 1 rfl) ?_
  refine kXi F w hst (LC := [wXo G.2.1 (ad 0) (xF ad) svx K, wSh G.2.1 (ad 1) S, wHo G.2.1 (ad 3) cu ct hs, hsL G.2.1 hs]) (LR := []) (As := [.int x1]) (rest := []) (k_wet_no F.1 gM k1 hcp e1 (by revert hE; exact fun hE => (by decide +kernel : ∀ x ∈ ([eNSE, eISE] : List String), x ∈ excL) _ hE)) m_X6_wet v_X6_wet q772 (ci := 10) (q0 := 0) rfl rfl rfl 4 [0, 1, 2, 3] rfl rfl rfl ⟨Nat.le_of_ble_eq_true rfl, Nat.le_of_ble_eq_true rfl⟩ rfl hl.1 rfl (Nat.le_of_ble_eq_true rfl) dL_wet_2 ⟨Nat.le_of_ble_eq_true rfl, Nat.le_of_ble_eq_true rfl⟩ (fun E9 w1 ce q H locs hx w hce hcv hcl => ?_) (fun r9 w1 H locs h9 w => ?_)
  · obtain ⟨rfl, hx⟩ := hx
    rw [show fl ([] : List va_W) = [] from rfl, List.append_nil] at w
    simp only [List.mem_cons, List.not_mem_nil, or_false] at hE
    rcases hE with rfl | rfl
    · refine vx_catch F.o (name := eNSE) (tableOf []) ⟨0, 5, 6, 32⟩ (tableOf [(0, 5, 10, 24)]) htab pass_nil rfl (by decide) (F.t _ (List.mem_of_getElem? (i := 474) (by decide +kernel)) rfl _) (F.t _ (List.mem_of_getElem? (i := 489) (by decide +kernel)) rfl _) hce hcv hcl ?_
      refine lv_astore_n (lv' := [(2, .ref q), (0, .ref ((ad 0) 0)), (1, .int x1)]) F.x F.b dL_wet_6 rfl hl (by decide) rfl (fun ls hl => ?_)
      refine lv_bipush (v := (-75)) F.x F.b dL_wet_7 (by decide) ?_
      exact eiX F w hr hlocks rfl ⟨by decide +kernel, hx⟩ (Nat.le_of_ble_eq_true rfl) (Nat.le_of_ble_eq_true rfl) dL_wet_9
    · refine vx_catch F.o (name := eISE) (tableOf [(0, 5, 6, 32)]) ⟨0, 5, 10, 24⟩ (tableOf []) htab (pass_cons F hNC (by decide) (T := eNSE) (List.mem_of_getElem? (i := 474) (by decide +kernel)) (by decide +kernel : eISE ∈ allE) (by decide +kernel : eNSE ∈ allE) (by decide +kernel) pass_nil) rfl (by decide) (F.t _ (List.mem_of_getElem? (i := 610) (by decide +kernel)) rfl _) (F.t _ (List.mem_of_getElem? (i := 655) (by decide +kernel)) rfl _) hce hcv hcl ?_
      refine lv_astore_n (lv' := [(2, .ref q), (0, .ref ((ad 0) 0)), (1, .int x1)]) F.x F.b dL_wet_10 rfl hl (by decide) rfl (fun ls hl => ?_)
      refine lv_bipush (v := (-79)) F.x F.b dL_wet_11 (by decide) ?_
      exact eiX F w hr hlocks rfl ⟨by decide +kernel, hx⟩ (Nat.le_of_ble_eq_true rfl) (Nat.le_of_ble_eq_true rfl) dL_wet_13
  · exact False.elim h9
set_option maxRecDepth 100000 in
set_option maxHeartbeats 4000000 in
theorem l_wet_ok {G : cG} (g : GOK G) {ad : Nat → Nat → Nat} {svx : Value} {K S S' : Mem} {cu ct : Nat} {hs : hS} {x1 : Int32} {r : Nat} (k1 : cu < 9) (hcp : ∀ P0, ∃ P, f_X4_copyFrom P0 S = some P) (k2 : ct ≤ 8) (hr9 : r < 2 ^ 31) (e1 : f_X4_wetLot S x1 = some (nI r, S')) : CXH G yL_wet cL_wet 3 [(0, 5, 6, 32), (0, 5, 10, 24)] 5 109 14 161 [.ref ((ad 0) 0), .int x1] (fl [wXo G.2.1 (ad 0) (xF ad) svx K, wSh G.2.1 (ad 1) S, wHo G.2.1 (ad 3) cu ct hs, hsL G.2.1 hs]) (fun r9 w1 => r9 = nI r ∧ YeW G ad svx K S S' cu ct hs w1) := by
  refine CXH.of g (by decide) rfl (Nat.le_of_ble_eq_true rfl) (List.mem_of_getElem? (i := 771) (by decide +kernel)) (by rfl) ?_
  intro p l e s m below meth cm A ls hst htab F hr hlocks w hl
  generalize ([.ref ((ad 0) 0), .int x1] : List Value).toArray = args
  have hl : lv_has ls 3 [(0, .ref ((ad 0) 0)), (1, .int x1)] := hl
  have w : Wd G A s.heap (fl [wXo G.2.1 (ad 0) (xF ad) svx K, wSh G.2.1 (ad 1) S, wHo G.2.1 (ad 3) cu ct hs, hsL G.2.1 hs]) _ _ := w
  refine lv_aload_n F.x F.b dL_wet_0 rfl (lv_at hl 0 rfl) ?_
  refine lv_iload_n F.x F.b dL_wet_1 rfl (lv_at hl 1 rfl) ?_
  refine kXi F w hst (LC := [wXo G.2.1 (ad 0) (xF ad) svx K, wSh G.2.1 (ad 1) S, wHo G.2.1 (ad 3) cu ct hs, hsL G.2.1 hs]) (LR := []) (As := [.int x1]) (rest := []) (k_wet_ok F.1 k1 hcp k2 hr9 e1) m_X6_wet v_X6_wet q772 (ci := 10) (q0 := 0) rfl rfl rfl 4 [0, 1, 2, 3] rfl rfl rfl ⟨Nat.le_of_ble_eq_true rfl, Nat.le_of_ble_eq_true rfl⟩ rfl hl.1 rfl (Nat.le_of_ble_eq_true rfl) dL_wet_2 ⟨Nat.le_of_ble_eq_true rfl, Nat.le_of_ble_eq_true rfl⟩ (fun _ _ _ _ _ _ hx => False.elim hx) (fun r9 w1 H locs h9 w => ?_)
  rw [show fl ([] : List va_W) = [] from rfl, List.append_nil] at w
  exact eiX F w hr hlocks rfl h9 (Nat.le_of_ble_eq_true rfl) (Nat.le_of_ble_eq_true rfl) dL_wet_5
set_option maxRecDepth 100000 in
set_option maxHeartbeats 4000000 in
theorem l_move_no {G : cG} (g : GOK G) (gM : MG G) (hNC : NcG G) {ad : Nat → Nat → Nat} {svx : Value} {K S : Mem} {cu ct : Nat} {hs : hS} {x1 x2 : Int32} {E : String} (k1 : cu < 9) (hcp : ∀ P0, ∃ P, f_X4_copyFrom P0 S = some P) (e1 : f_X4_moveLot S x1 x2 = some (numE E, S)) (hE : E ∈ [eNSE, eIOB, eUOE]) : CXH G yL_move cL_move 4 [(0, 6, 7, 32), (0, 6, 11, 20), (0, 6, 15, 26)] 9 145 15 167 [.ref ((ad 0) 0), .int x1, .int x2] (fl [wXo G.2.1 (ad 0) (xF ad) svx K, wSh G.2.1 (ad 1) S, wHo G.2.1 (ad 3) cu ct hs, hsL G.2.1 hs]) (fun r9 w1 => r9 = cdE E ∧ NoW G ad svx K S cu ct hs w1) := by
  refine CXH.of g (by decide) rfl (Nat.le_of_ble_eq_true rfl) (List.mem_of_getElem? (i := 783) (by decide +kernel)) (by rfl) ?_
  intro p l e s m below meth cm A ls hst htab F hr hlocks w hl
  generalize ([.ref ((ad 0) 0), .int x1, .int x2] : List Value).toArray = args
  have hl : lv_has ls 4 [(0, .ref ((ad 0) 0)), (1, .int x1), (2, .int x2)] := hl
  have w : Wd G A s.heap (fl [wXo G.2.1 (ad 0) (xF ad) svx K, wSh G.2.1 (ad 1) S, wHo G.2.1 (ad 3) cu ct hs, hsL G.2.1 hs]) _ _ := w
  refine lv_aload_n F.x F.b dL_move_0 rfl (lv_at hl 0 rfl) ?_
  refine lv_iload_n F.x F.b dL_move_1 rfl (lv_at hl 1 rfl) ?_
  refine lv_iload_n F.x F.b dL_move_2 rfl (lv_at hl 2 rfl) ?_
  refine kXi F w hst (LC := [wXo G.2.1 (ad 0) (xF ad) svx K, wSh G.2.1 (ad 1) S, wHo G.2.1 (ad 3) cu ct hs, hsL G.2.1 hs]) (LR := []) (As := [.int x1, .int x2]) (rest := []) (k_move_no F.1 gM k1 hcp e1 (by revert hE; exact fun hE => (by decide +kernel : ∀ x ∈ ([eNSE, eIOB, eUOE] : List String), x ∈ excL) _ hE)) m_X6_move v_X6_move q784 (ci := 10) (q0 := 0) rfl rfl rfl 4 [0, 1, 2, 3] rfl rfl rfl ⟨Nat.le_of_ble_eq_true rfl, Nat.le_of_ble_eq_true rfl⟩ rfl hl.1 rfl (Nat.le_of_ble_eq_true rfl) dL_move_3 ⟨Nat.le_of_ble_eq_true rfl, Nat.le_of_ble_eq_true rfl⟩ (fun E9 w1 ce q H locs hx w hce hcv hcl => ?_) (fun r9 w1 H locs h9 w => ?_)
  · obtain ⟨rfl, hx⟩ := hx
    rw [show fl ([] : List va_W) = [] from rfl, List.append_nil] at w
    simp only [List.mem_cons, List.not_mem_nil, or_false] at hE
    rcases hE with rfl | rfl | rfl
    · refine vx_catch F.o (name := eNSE) (tableOf []) ⟨0, 6, 7, 32⟩ (tableOf [(0, 6, 11, 20), (0, 6, 15, 26)]) htab pass_nil rfl (by decide) (F.t _ (List.mem_of_getElem? (i := 474) (by decide +kernel)) rfl _) (F.t _ (List.mem_of_getElem? (i := 489) (by decide +kernel)) rfl _) hce hcv hcl ?_
      refine lv_astore_n (lv' := [(3, .ref q), (0, .ref ((ad 0) 0)), (1, .int x1), (2, .int x2)]) F.x F.b dL_move_7 rfl hl (by decide) rfl (fun ls hl => ?_)
      refine lv_bipush (v := (-75)) F.x F.b dL_move_8 (by decide) ?_
      exact eiX F w hr hlocks rfl ⟨by decide +kernel, hx⟩ (Nat.le_of_ble_eq_true rfl) (Nat.le_of_ble_eq_true rfl) dL_move_10
    · refine vx_catch F.o (name := eIOB) (tableOf [(0, 6, 7, 32)]) ⟨0, 6, 11, 20⟩ (tableOf [(0, 6, 15, 26)]) htab (pass_cons F hNC (by decide) (T := eNSE) (List.mem_of_getElem? (i := 474) (by decide +kernel)) (by decide +kernel : eIOB ∈ allE) (by decide +kernel : eNSE ∈ allE) (by decide +kernel) pass_nil) rfl (by decide) (F.t _ (List.mem_of_getElem? (i := 363) (by decide +kernel)) rfl _) (F.t _ (List.mem_of_getElem? (i := 452) (by decide +kernel)) rfl _) hce hcv hcl ?_
      refine lv_astore_n (lv' := [(3, .ref q), (0, .ref ((ad 0) 0)), (1, .int x1), (2, .int x2)]) F.x F.b dL_move_11 rfl hl (by decide) rfl (fun ls hl => ?_)
      refine lv_bipush (v := (-77)) F.x F.b dL_move_12 (by decide) ?_
      exact eiX F w hr hlocks rfl ⟨by decide +kernel, hx⟩ (Nat.le_of_ble_eq_true rfl) (Nat.le_of_ble_eq_true rfl) dL_move_14
    · refine vx_catch F.o (name := eUOE) (tableOf [(0, 6, 7, 32), (0, 6, 11, 20)]) ⟨0, 6, 15, 26⟩ (tableOf []) htab (pass_cons F hNC (by decide) (T := eNSE) (List.mem_of_getElem? (i := 474) (by decide +kernel)) (by decide +kernel : eUOE ∈ allE) (by decide +kernel : eNSE ∈ allE) (by decide +kernel) (pass_cons F hNC (by decide) (T := eIOB) (List.mem_of_getElem? (i := 363) (by decide +kernel)) (by decide +kernel : eUOE ∈ allE) (by decide +kernel : eIOB ∈ allE) (by decide +kernel) pass_nil)) rfl (by decide) (F.t _ (List.mem_of_getElem? (i := 611) (by decide +kernel)) rfl _) (F.t _ (List.mem_of_getElem? (i := 670) (by decide +kernel)) rfl _) hce hcv hcl ?_
      refine lv_astore_n (lv' := [(3, .ref q), (0, .ref ((ad 0) 0)), (1, .int x1), (2, .int x2)]) F.x F.b dL_move_15 rfl hl (by decide) rfl (fun ls hl => ?_)
      refine lv_bipush (v := (-76)) F.x F.b dL_move_16 (by decide) ?_
      exact eiX F w hr hlocks rfl ⟨by decide +kernel, hx⟩ (Nat.le_of_ble_eq_true rfl) (Nat.le_of_ble_eq_true rfl) dL_move_18
  · exact False.elim h9
set_option maxRecDepth 100000 in
set_option maxHeartbeats 4000000 in
theorem l_move_ok {G : cG} (g : GOK G) {ad : Nat → Nat → Nat} {svx : Value} {K S S' : Mem} {cu ct : Nat} {hs : hS} {x1 x2 : Int32} {r : Nat} (k1 : cu < 9) (hcp : ∀ P0, ∃ P, f_X4_copyFrom P0 S = some P) (k2 : ct ≤ 8) (hr9 : r < 2 ^ 31) (e1 : f_X4_moveLot S x1 x2 = some (nI r, S')) : CXH G yL_move cL_move 4 [(0, 6, 7, 32), (0, 6, 11, 20), (0, 6, 15, 26)] 5 110 14 161 [.ref ((ad 0) 0), .int x1, .int x2] (fl [wXo G.2.1 (ad 0) (xF ad) svx K, wSh G.2.1 (ad 1) S, wHo G.2.1 (ad 3) cu ct hs, hsL G.2.1 hs]) (fun r9 w1 => r9 = nI r ∧ YeW G ad svx K S S' cu ct hs w1) := by
  refine CXH.of g (by decide) rfl (Nat.le_of_ble_eq_true rfl) (List.mem_of_getElem? (i := 783) (by decide +kernel)) (by rfl) ?_
  intro p l e s m below meth cm A ls hst htab F hr hlocks w hl
  generalize ([.ref ((ad 0) 0), .int x1, .int x2] : List Value).toArray = args
  have hl : lv_has ls 4 [(0, .ref ((ad 0) 0)), (1, .int x1), (2, .int x2)] := hl
  have w : Wd G A s.heap (fl [wXo G.2.1 (ad 0) (xF ad) svx K, wSh G.2.1 (ad 1) S, wHo G.2.1 (ad 3) cu ct hs, hsL G.2.1 hs]) _ _ := w
  refine lv_aload_n F.x F.b dL_move_0 rfl (lv_at hl 0 rfl) ?_
  refine lv_iload_n F.x F.b dL_move_1 rfl (lv_at hl 1 rfl) ?_
  refine lv_iload_n F.x F.b dL_move_2 rfl (lv_at hl 2 rfl) ?_
  refine kXi F w hst (LC := [wXo G.2.1 (ad 0) (xF ad) svx K, wSh G.2.1 (ad 1) S, wHo G.2.1 (ad 3) cu ct hs, hsL G.2.1 hs]) (LR := []) (As := [.int x1, .int x2]) (rest := []) (k_move_ok F.1 k1 hcp k2 hr9 e1) m_X6_move v_X6_move q784 (ci := 10) (q0 := 0) rfl rfl rfl 4 [0, 1, 2, 3] rfl rfl rfl ⟨Nat.le_of_ble_eq_true rfl, Nat.le_of_ble_eq_true rfl⟩ rfl hl.1 rfl (Nat.le_of_ble_eq_true rfl) dL_move_3 ⟨Nat.le_of_ble_eq_true rfl, Nat.le_of_ble_eq_true rfl⟩ (fun _ _ _ _ _ _ hx => False.elim hx) (fun r9 w1 H locs h9 w => ?_)
  rw [show fl ([] : List va_W) = [] from rfl, List.append_nil] at w
  exact eiX F w hr hlocks rfl h9 (Nat.le_of_ble_eq_true rfl) (Nat.le_of_ble_eq_true rfl) dL_move_6
set_option maxRecDepth 100000 in
set_option maxHeartbeats 4000000 in
theorem l_addStep_no {G : cG} (g : GOK G) (gM : MG G) (hNC : NcG G) {ad : Nat → Nat → Nat} {svx : Value} {K S : Mem} {cu ct : Nat} {hs : hS} {x1 x2 : Int32} {E : String} (k1 : cu < 9) (hcp : ∀ P0, ∃ P, f_X4_copyFrom P0 S = some P) (e1 : f_X5_insert S x1 x2 = some (numE E, S)) (hE : E ∈ [eIAE, eUOE, eISE]) : CXH G yL_addStep cL_addStep 4 [(0, 6, 7, 22), (0, 6, 11, 26), (0, 6, 15, 24)] 9 145 15 167 [.ref ((ad 0) 0), .int x1, .int x2] (fl [wXo G.2.1 (ad 0) (xF ad) svx K, wSh G.2.1 (ad 1) S, wHo G.2.1 (ad 3) cu ct hs, hsL G.2.1 hs]) (fun r9 w1 => r9 = cdE E ∧ NoW G ad svx K S cu ct hs w1) := by
  refine CXH.of g (by decide) rfl (Nat.le_of_ble_eq_true rfl) (List.mem_of_getElem? (i := 734) (by decide +kernel)) (by rfl) ?_
  intro p l e s m below meth cm A ls hst htab F hr hlocks w hl
  generalize ([.ref ((ad 0) 0), .int x1, .int x2] : List Value).toArray = args
  have hl : lv_has ls 4 [(0, .ref ((ad 0) 0)), (1, .int x1), (2, .int x2)] := hl
  have w : Wd G A s.heap (fl [wXo G.2.1 (ad 0) (xF ad) svx K, wSh G.2.1 (ad 1) S, wHo G.2.1 (ad 3) cu ct hs, hsL G.2.1 hs]) _ _ := w
  refine lv_aload_n F.x F.b dL_addStep_0 rfl (lv_at hl 0 rfl) ?_
  refine lv_iload_n F.x F.b dL_addStep_1 rfl (lv_at hl 1 rfl) ?_
  refine lv_iload_n F.x F.b dL_addStep_2 rfl (lv_at hl 2 rfl) ?_
  refine kXi F w hst (LC := [wXo G.2.1 (ad 0) (xF ad) svx K, wSh G.2.1 (ad 1) S, wHo G.2.1 (ad 3) cu ct hs, hsL G.2.1 hs]) (LR := []) (As := [.int x1, .int x2]) (rest := []) (k_addStep_no F.1 gM k1 hcp e1 (by revert hE; exact fun hE => (by decide +kernel : ∀ x ∈ ([eIAE, eUOE, eISE] : List String), x ∈ excL) _ hE)) m_X6_addStep v_X6_addStep q735 (ci := 10) (q0 := 0) rfl rfl rfl 4 [0, 1, 2, 3] rfl rfl rfl ⟨Nat.le_of_ble_eq_true rfl, Nat.le_of_ble_eq_true rfl⟩ rfl hl.1 rfl (Nat.le_of_ble_eq_true rfl) dL_addStep_3 ⟨Nat.le_of_ble_eq_true rfl, Nat.le_of_ble_eq_true rfl⟩ (fun E9 w1 ce q H locs hx w hce hcv hcl => ?_) (fun r9 w1 H locs h9 w => ?_)
  · obtain ⟨rfl, hx⟩ := hx
    rw [show fl ([] : List va_W) = [] from rfl, List.append_nil] at w
    simp only [List.mem_cons, List.not_mem_nil, or_false] at hE
    rcases hE with rfl | rfl | rfl
    · refine vx_catch F.o (name := eIAE) (tableOf []) ⟨0, 6, 7, 22⟩ (tableOf [(0, 6, 11, 26), (0, 6, 15, 24)]) htab pass_nil rfl (by decide) (F.t _ (List.mem_of_getElem? (i := 521) (by decide +kernel)) rfl _) (F.t _ (List.mem_of_getElem? (i := 528) (by decide +kernel)) rfl _) hce hcv hcl ?_
      refine lv_astore_n (lv' := [(3, .ref q), (0, .ref ((ad 0) 0)), (1, .int x1), (2, .int x2)]) F.x F.b dL_addStep_7 rfl hl (by decide) rfl (fun ls hl => ?_)
      refine lv_bipush (v := (-78)) F.x F.b dL_addStep_8 (by decide) ?_
      exact eiX F w hr hlocks rfl ⟨by decide +kernel, hx⟩ (Nat.le_of_ble_eq_true rfl) (Nat.le_of_ble_eq_true rfl) dL_addStep_10
    · refine vx_catch F.o (name := eUOE) (tableOf [(0, 6, 7, 22)]) ⟨0, 6, 11, 26⟩ (tableOf [(0, 6, 15, 24)]) htab (pass_cons F hNC (by decide) (T := eIAE) (List.mem_of_getElem? (i := 521) (by decide +kernel)) (by decide +kernel : eUOE ∈ allE) (by decide +kernel : eIAE ∈ allE) (by decide +kernel) pass_nil) rfl (by decide) (F.t _ (List.mem_of_getElem? (i := 611) (by decide +kernel)) rfl _) (F.t _ (List.mem_of_getElem? (i := 670) (by decide +kernel)) rfl _) hce hcv hcl ?_
      refine lv_astore_n (lv' := [(3, .ref q), (0, .ref ((ad 0) 0)), (1, .int x1), (2, .int x2)]) F.x F.b dL_addStep_11 rfl hl (by decide) rfl (fun ls hl => ?_)
      refine lv_bipush (v := (-76)) F.x F.b dL_addStep_12 (by decide) ?_
      exact eiX F w hr hlocks rfl ⟨by decide +kernel, hx⟩ (Nat.le_of_ble_eq_true rfl) (Nat.le_of_ble_eq_true rfl) dL_addStep_14
    · refine vx_catch F.o (name := eISE) (tableOf [(0, 6, 7, 22), (0, 6, 11, 26)]) ⟨0, 6, 15, 24⟩ (tableOf []) htab (pass_cons F hNC (by decide) (T := eIAE) (List.mem_of_getElem? (i := 521) (by decide +kernel)) (by decide +kernel : eISE ∈ allE) (by decide +kernel : eIAE ∈ allE) (by decide +kernel) (pass_cons F hNC (by decide) (T := eUOE) (List.mem_of_getElem? (i := 611) (by decide +kernel)) (by decide +kernel : eISE ∈ allE) (by decide +kernel : eUOE ∈ allE) (by decide +kernel) pass_nil)) rfl (by decide) (F.t _ (List.mem_of_getElem? (i := 610) (by decide +kernel)) rfl _) (F.t _ (List.mem_of_getElem? (i := 655) (by decide +kernel)) rfl _) hce hcv hcl ?_
      refine lv_astore_n (lv' := [(3, .ref q), (0, .ref ((ad 0) 0)), (1, .int x1), (2, .int x2)]) F.x F.b dL_addStep_15 rfl hl (by decide) rfl (fun ls hl => ?_)
      refine lv_bipush (v := (-79)) F.x F.b dL_addStep_16 (by decide) ?_
      exact eiX F w hr hlocks rfl ⟨by decide +kernel, hx⟩ (Nat.le_of_ble_eq_true rfl) (Nat.le_of_ble_eq_true rfl) dL_addStep_18
  · exact False.elim h9
set_option maxRecDepth 100000 in
set_option maxHeartbeats 4000000 in
theorem l_addStep_ok {G : cG} (g : GOK G) {ad : Nat → Nat → Nat} {svx : Value} {K S S' : Mem} {cu ct : Nat} {hs : hS} {x1 x2 : Int32} {r : Nat} (k1 : cu < 9) (hcp : ∀ P0, ∃ P, f_X4_copyFrom P0 S = some P) (k2 : ct ≤ 8) (hr9 : r < 2 ^ 31) (e1 : f_X5_insert S x1 x2 = some (nI r, S')) : CXH G yL_addStep cL_addStep 4 [(0, 6, 7, 22), (0, 6, 11, 26), (0, 6, 15, 24)] 5 110 14 161 [.ref ((ad 0) 0), .int x1, .int x2] (fl [wXo G.2.1 (ad 0) (xF ad) svx K, wSh G.2.1 (ad 1) S, wHo G.2.1 (ad 3) cu ct hs, hsL G.2.1 hs]) (fun r9 w1 => r9 = nI r ∧ YeW G ad svx K S S' cu ct hs w1) := by
  refine CXH.of g (by decide) rfl (Nat.le_of_ble_eq_true rfl) (List.mem_of_getElem? (i := 734) (by decide +kernel)) (by rfl) ?_
  intro p l e s m below meth cm A ls hst htab F hr hlocks w hl
  generalize ([.ref ((ad 0) 0), .int x1, .int x2] : List Value).toArray = args
  have hl : lv_has ls 4 [(0, .ref ((ad 0) 0)), (1, .int x1), (2, .int x2)] := hl
  have w : Wd G A s.heap (fl [wXo G.2.1 (ad 0) (xF ad) svx K, wSh G.2.1 (ad 1) S, wHo G.2.1 (ad 3) cu ct hs, hsL G.2.1 hs]) _ _ := w
  refine lv_aload_n F.x F.b dL_addStep_0 rfl (lv_at hl 0 rfl) ?_
  refine lv_iload_n F.x F.b dL_addStep_1 rfl (lv_at hl 1 rfl) ?_
  refine lv_iload_n F.x F.b dL_addStep_2 rfl (lv_at hl 2 rfl) ?_
  refine kXi F w hst (LC := [wXo G.2.1 (ad 0) (xF ad) svx K, wSh G.2.1 (ad 1) S, wHo G.2.1 (ad 3) cu ct hs, hsL G.2.1 hs]) (LR := []) (As := [.int x1, .int x2]) (rest := []) (k_addStep_ok F.1 k1 hcp k2 hr9 e1) m_X6_addStep v_X6_addStep q735 (ci := 10) (q0 := 0) rfl rfl rfl 4 [0, 1, 2, 3] rfl rfl rfl ⟨Nat.le_of_ble_eq_true rfl, Nat.le_of_ble_eq_true rfl⟩ rfl hl.1 rfl (Nat.le_of_ble_eq_true rfl) dL_addStep_3 ⟨Nat.le_of_ble_eq_true rfl, Nat.le_of_ble_eq_true rfl⟩ (fun _ _ _ _ _ _ hx => False.elim hx) (fun r9 w1 H locs h9 w => ?_)
  rw [show fl ([] : List va_W) = [] from rfl, List.append_nil] at w
  exact eiX F w hr hlocks rfl h9 (Nat.le_of_ble_eq_true rfl) (Nat.le_of_ble_eq_true rfl) dL_addStep_6
set_option maxRecDepth 100000 in
set_option maxHeartbeats 4000000 in
theorem l_removeStep_no {G : cG} (g : GOK G) (gM : MG G) (hNC : NcG G) {ad : Nat → Nat → Nat} {svx : Value} {K S : Mem} {cu ct : Nat} {hs : hS} {x1 : Int32} {E : String} (k1 : cu < 9) (hcp : ∀ P0, ∃ P, f_X4_copyFrom P0 S = some P) (e1 : f_X5_remove S x1 = some (numE E, S)) (hE : E ∈ [eNSE]) : CXH G yL_removeStep cL_removeStep 3 [(0, 5, 6, 32)] 9 144 15 167 [.ref ((ad 0) 0), .int x1] (fl [wXo G.2.1 (ad 0) (xF ad) svx K, wSh G.2.1 (ad 1) S, wHo G.2.1 (ad 3) cu ct hs, hsL G.2.1 hs]) (fun r9 w1 => r9 = cdE E ∧ NoW G ad svx K S cu ct hs w1) := by
  refine CXH.of g (by decide) rfl (Nat.le_of_ble_eq_true rfl) (List.mem_of_getElem? (i := 749) (by decide +kernel)) (by rfl) ?_
  intro p l e s m below meth cm A ls hst htab F hr hlocks w hl
  generalize ([.ref ((ad 0) 0), .int x1] : List Value).toArray = args
  have hl : lv_has ls 3 [(0, .ref ((ad 0) 0)), (1, .int x1)] := hl
  have w : Wd G A s.heap (fl [wXo G.2.1 (ad 0) (xF ad) svx K, wSh G.2.1 (ad 1) S, wHo G.2.1 (ad 3) cu ct hs, hsL G.2.1 hs]) _ _ := w
  refine lv_aload_n F.x F.b dL_removeStep_0 rfl (lv_at hl 0 rfl) ?_
  refine lv_iload_n F.x F.b dL_removeStep_1 rfl (lv_at hl 1 rfl) ?_
  refine kXi F w hst (LC := [wXo G.2.1 (ad 0) (xF ad) svx K, wSh G.2.1 (ad 1) S, wHo G.2.1 (ad 3) cu ct hs, hsL G.2.1 hs]) (LR := []) (As := [.int x1]) (rest := []) (k_removeStep_no F.1 gM k1 hcp e1 (by revert hE; exact fun hE => (by decide +kernel : ∀ x ∈ ([eNSE] : List String), x ∈ excL) _ hE)) m_X6_removeStep v_X6_removeStep q750 (ci := 10) (q0 := 0) rfl rfl rfl 4 [0, 1, 2, 3] rfl rfl rfl ⟨Nat.le_of_ble_eq_true rfl, Nat.le_of_ble_eq_true rfl⟩ rfl hl.1 rfl (Nat.le_of_ble_eq_true rfl) dL_removeStep_2 ⟨Nat.le_of_ble_eq_true rfl, Nat.le_of_ble_eq_true rfl⟩ (fun E9 w1 ce q H locs hx w hce hcv hcl => ?_) (fun r9 w1 H locs h9 w => ?_)
  · obtain ⟨rfl, hx⟩ := hx
    rw [show fl ([] : List va_W) = [] from rfl, List.append_nil] at w
    simp only [List.mem_cons, List.not_mem_nil, or_false] at hE
    subst hE
    refine vx_catch F.o (name := eNSE) (tableOf []) ⟨0, 5, 6, 32⟩ (tableOf []) htab pass_nil rfl (by decide) (F.t _ (List.mem_of_getElem? (i := 474) (by decide +kernel)) rfl _) (F.t _ (List.mem_of_getElem? (i := 489) (by decide +kernel)) rfl _) hce hcv hcl ?_
    refine lv_astore_n (lv' := [(2, .ref q), (0, .ref ((ad 0) 0)), (1, .int x1)]) F.x F.b dL_removeStep_6 rfl hl (by decide) rfl (fun ls hl => ?_)
    refine lv_bipush (v := (-75)) F.x F.b dL_removeStep_7 (by decide) ?_
    exact eiX F w hr hlocks rfl ⟨by decide +kernel, hx⟩ (Nat.le_of_ble_eq_true rfl) (Nat.le_of_ble_eq_true rfl) dL_removeStep_9
  · exact False.elim h9
set_option maxRecDepth 100000 in
set_option maxHeartbeats 4000000 in
theorem l_removeStep_ok {G : cG} (g : GOK G) {ad : Nat → Nat → Nat} {svx : Value} {K S S' : Mem} {cu ct : Nat} {hs : hS} {x1 : Int32} {r : Nat} (k1 : cu < 9) (hcp : ∀ P0, ∃ P, f_X4_copyFrom P0 S = some P) (k2 : ct ≤ 8) (hr9 : r < 2 ^ 31) (e1 : f_X5_remove S x1 = some (nI r, S')) : CXH G yL_removeStep cL_removeStep 3 [(0, 5, 6, 32)] 5 109 14 161 [.ref ((ad 0) 0), .int x1] (fl [wXo G.2.1 (ad 0) (xF ad) svx K, wSh G.2.1 (ad 1) S, wHo G.2.1 (ad 3) cu ct hs, hsL G.2.1 hs]) (fun r9 w1 => r9 = nI r ∧ YeW G ad svx K S S' cu ct hs w1) := by
  refine CXH.of g (by decide) rfl (Nat.le_of_ble_eq_true rfl) (List.mem_of_getElem? (i := 749) (by decide +kernel)) (by rfl) ?_
  intro p l e s m below meth cm A ls hst htab F hr hlocks w hl
  generalize ([.ref ((ad 0) 0), .int x1] : List Value).toArray = args
  have hl : lv_has ls 3 [(0, .ref ((ad 0) 0)), (1, .int x1)] := hl
  have w : Wd G A s.heap (fl [wXo G.2.1 (ad 0) (xF ad) svx K, wSh G.2.1 (ad 1) S, wHo G.2.1 (ad 3) cu ct hs, hsL G.2.1 hs]) _ _ := w
  refine lv_aload_n F.x F.b dL_removeStep_0 rfl (lv_at hl 0 rfl) ?_
  refine lv_iload_n F.x F.b dL_removeStep_1 rfl (lv_at hl 1 rfl) ?_
  refine kXi F w hst (LC := [wXo G.2.1 (ad 0) (xF ad) svx K, wSh G.2.1 (ad 1) S, wHo G.2.1 (ad 3) cu ct hs, hsL G.2.1 hs]) (LR := []) (As := [.int x1]) (rest := []) (k_removeStep_ok F.1 k1 hcp k2 hr9 e1) m_X6_removeStep v_X6_removeStep q750 (ci := 10) (q0 := 0) rfl rfl rfl 4 [0, 1, 2, 3] rfl rfl rfl ⟨Nat.le_of_ble_eq_true rfl, Nat.le_of_ble_eq_true rfl⟩ rfl hl.1 rfl (Nat.le_of_ble_eq_true rfl) dL_removeStep_2 ⟨Nat.le_of_ble_eq_true rfl, Nat.le_of_ble_eq_true rfl⟩ (fun _ _ _ _ _ _ hx => False.elim hx) (fun r9 w1 H locs h9 w => ?_)
  rw [show fl ([] : List va_W) = [] from rfl, List.append_nil] at w
  exact eiX F w hr hlocks rfl h9 (Nat.le_of_ble_eq_true rfl) (Nat.le_of_ble_eq_true rfl) dL_removeStep_5
set_option maxRecDepth 100000 in
set_option maxHeartbeats 4000000 in
theorem l_passDays_no {G : cG} (g : GOK G) (gM : MG G) (hNC : NcG G) {ad : Nat → Nat → Nat} {svx : Value} {K S : Mem} {cu ct : Nat} {hs : hS} {x1 : Int32} {E : String} (k1 : cu < 9) (hcp : ∀ P0, ∃ P, f_X4_copyFrom P0 S = some P) (e1 : f_X4_letPass S x1 = some (numE E, S)) (hE : E ∈ [eIAE]) : CXH G yL_passDays cL_passDays 3 [(0, 5, 6, 22)] 9 144 15 167 [.ref ((ad 0) 0), .int x1] (fl [wXo G.2.1 (ad 0) (xF ad) svx K, wSh G.2.1 (ad 1) S, wHo G.2.1 (ad 3) cu ct hs, hsL G.2.1 hs]) (fun r9 w1 => r9 = cdE E ∧ NoW G ad svx K S cu ct hs w1) := by
  refine CXH.of g (by decide) rfl (Nat.le_of_ble_eq_true rfl) (List.mem_of_getElem? (i := 727) (by decide +kernel)) (by rfl) ?_
  intro p l e s m below meth cm A ls hst htab F hr hlocks w hl
  generalize ([.ref ((ad 0) 0), .int x1] : List Value).toArray = args
  have hl : lv_has ls 3 [(0, .ref ((ad 0) 0)), (1, .int x1)] := hl
  have w : Wd G A s.heap (fl [wXo G.2.1 (ad 0) (xF ad) svx K, wSh G.2.1 (ad 1) S, wHo G.2.1 (ad 3) cu ct hs, hsL G.2.1 hs]) _ _ := w
  refine lv_aload_n F.x F.b dL_passDays_0 rfl (lv_at hl 0 rfl) ?_
  refine lv_iload_n F.x F.b dL_passDays_1 rfl (lv_at hl 1 rfl) ?_
  refine kXi F w hst (LC := [wXo G.2.1 (ad 0) (xF ad) svx K, wSh G.2.1 (ad 1) S, wHo G.2.1 (ad 3) cu ct hs, hsL G.2.1 hs]) (LR := []) (As := [.int x1]) (rest := []) (k_passDays_no F.1 gM k1 hcp e1 (by revert hE; exact fun hE => (by decide +kernel : ∀ x ∈ ([eIAE] : List String), x ∈ excL) _ hE)) m_X6_passDays v_X6_passDays q728 (ci := 10) (q0 := 0) rfl rfl rfl 4 [0, 1, 2, 3] rfl rfl rfl ⟨Nat.le_of_ble_eq_true rfl, Nat.le_of_ble_eq_true rfl⟩ rfl hl.1 rfl (Nat.le_of_ble_eq_true rfl) dL_passDays_2 ⟨Nat.le_of_ble_eq_true rfl, Nat.le_of_ble_eq_true rfl⟩ (fun E9 w1 ce q H locs hx w hce hcv hcl => ?_) (fun r9 w1 H locs h9 w => ?_)
  · obtain ⟨rfl, hx⟩ := hx
    rw [show fl ([] : List va_W) = [] from rfl, List.append_nil] at w
    simp only [List.mem_cons, List.not_mem_nil, or_false] at hE
    subst hE
    refine vx_catch F.o (name := eIAE) (tableOf []) ⟨0, 5, 6, 22⟩ (tableOf []) htab pass_nil rfl (by decide) (F.t _ (List.mem_of_getElem? (i := 521) (by decide +kernel)) rfl _) (F.t _ (List.mem_of_getElem? (i := 528) (by decide +kernel)) rfl _) hce hcv hcl ?_
    refine lv_astore_n (lv' := [(2, .ref q), (0, .ref ((ad 0) 0)), (1, .int x1)]) F.x F.b dL_passDays_6 rfl hl (by decide) rfl (fun ls hl => ?_)
    refine lv_bipush (v := (-78)) F.x F.b dL_passDays_7 (by decide) ?_
    exact eiX F w hr hlocks rfl ⟨by decide +kernel, hx⟩ (Nat.le_of_ble_eq_true rfl) (Nat.le_of_ble_eq_true rfl) dL_passDays_9
  · exact False.elim h9
set_option maxRecDepth 100000 in
set_option maxHeartbeats 4000000 in
theorem l_passDays_ok {G : cG} (g : GOK G) {ad : Nat → Nat → Nat} {svx : Value} {K S S' : Mem} {cu ct : Nat} {hs : hS} {x1 : Int32} {r : Nat} (k1 : cu < 9) (hcp : ∀ P0, ∃ P, f_X4_copyFrom P0 S = some P) (k2 : ct ≤ 8) (hr9 : r < 2 ^ 31) (e1 : f_X4_letPass S x1 = some (nI r, S')) : CXH G yL_passDays cL_passDays 3 [(0, 5, 6, 22)] 6 132 14 161 [.ref ((ad 0) 0), .int x1] (fl [wXo G.2.1 (ad 0) (xF ad) svx K, wSh G.2.1 (ad 1) S, wHo G.2.1 (ad 3) cu ct hs, hsL G.2.1 hs]) (fun r9 w1 => r9 = nI r ∧ YeW G ad svx K S S' cu ct hs w1) := by
  refine CXH.of g (by decide) rfl (Nat.le_of_ble_eq_true rfl) (List.mem_of_getElem? (i := 727) (by decide +kernel)) (by rfl) ?_
  intro p l e s m below meth cm A ls hst htab F hr hlocks w hl
  generalize ([.ref ((ad 0) 0), .int x1] : List Value).toArray = args
  have hl : lv_has ls 3 [(0, .ref ((ad 0) 0)), (1, .int x1)] := hl
  have w : Wd G A s.heap (fl [wXo G.2.1 (ad 0) (xF ad) svx K, wSh G.2.1 (ad 1) S, wHo G.2.1 (ad 3) cu ct hs, hsL G.2.1 hs]) _ _ := w
  refine lv_aload_n F.x F.b dL_passDays_0 rfl (lv_at hl 0 rfl) ?_
  refine lv_iload_n F.x F.b dL_passDays_1 rfl (lv_at hl 1 rfl) ?_
  refine kXi F w hst (LC := [wXo G.2.1 (ad 0) (xF ad) svx K, wSh G.2.1 (ad 1) S, wHo G.2.1 (ad 3) cu ct hs, hsL G.2.1 hs]) (LR := []) (As := [.int x1]) (rest := []) (k_passDays_ok F.1 k1 hcp k2 hr9 e1) m_X6_passDays v_X6_passDays q728 (ci := 10) (q0 := 0) rfl rfl rfl 4 [0, 1, 2, 3] rfl rfl rfl ⟨Nat.le_of_ble_eq_true rfl, Nat.le_of_ble_eq_true rfl⟩ rfl hl.1 rfl (Nat.le_of_ble_eq_true rfl) dL_passDays_2 ⟨Nat.le_of_ble_eq_true rfl, Nat.le_of_ble_eq_true rfl⟩ (fun _ _ _ _ _ _ hx => False.elim hx) (fun r9 w1 H locs h9 w => ?_)
  rw [show fl ([] : List va_W) = [] from rfl, List.append_nil] at w
  exact eiX F w hr hlocks rfl h9 (Nat.le_of_ble_eq_true rfl) (Nat.le_of_ble_eq_true rfl) dL_passDays_5
set_option maxRecDepth 100000 in
set_option maxHeartbeats 4000000 in
theorem l_enqueue_no {G : cG} (g : GOK G) (gM : MG G) (hNC : NcG G) {ad : Nat → Nat → Nat} {svx : Value} {K S : Mem} {cu ct : Nat} {hs : hS} {x1 : Int32} {E : String} (k1 : cu < 9) (hcp : ∀ P0, ∃ P, f_X4_copyFrom P0 S = some P) (e1 : f_X4_queueLot S x1 = some (numE E, S)) (hE : E ∈ [eNSE, eISE]) : CXH G yL_enqueue cL_enqueue 3 [(0, 5, 6, 32), (0, 5, 10, 24)] 9 144 15 167 [.ref ((ad 0) 0), .int x1] (fl [wXo G.2.1 (ad 0) (xF ad) svx K, wSh G.2.1 (ad 1) S, wHo G.2.1 (ad 3) cu ct hs, hsL G.2.1 hs]) (fun r9 w1 => r9 = cdE E ∧ NoW G ad svx K S cu ct hs w1) := by
  refine CXH.of g (by decide) rfl (Nat.le_of_ble_eq_true rfl) (List.mem_of_getElem? (i := 1153) (by decide +kernel)) (by rfl) ?_
  intro p l e s m below meth cm A ls hst htab F hr hlocks w hl
  generalize ([.ref ((ad 0) 0), .int x1] : List Value).toArray = args
  have hl : lv_has ls 3 [(0, .ref ((ad 0) 0)), (1, .int x1)] := hl
  have w : Wd G A s.heap (fl [wXo G.2.1 (ad 0) (xF ad) svx K, wSh G.2.1 (ad 1) S, wHo G.2.1 (ad 3) cu ct hs, hsL G.2.1 hs]) _ _ := w
  refine lv_aload_n F.x F.b dL_enqueue_0 rfl (lv_at hl 0 rfl) ?_
  refine lv_iload_n F.x F.b dL_enqueue_1 rfl (lv_at hl 1 rfl) ?_
  refine kXi F w hst (LC := [wXo G.2.1 (ad 0) (xF ad) svx K, wSh G.2.1 (ad 1) S, wHo G.2.1 (ad 3) cu ct hs, hsL G.2.1 hs]) (LR := []) (As := [.int x1]) (rest := []) (k_enqueue_no F.1 gM k1 hcp e1 (by revert hE; exact fun hE => (by decide +kernel : ∀ x ∈ ([eNSE, eISE] : List String), x ∈ excL) _ hE)) m_X6_enqueue v_X6_enqueue q1154 (ci := 10) (q0 := 0) rfl rfl rfl 4 [0, 1, 2, 3] rfl rfl rfl ⟨Nat.le_of_ble_eq_true rfl, Nat.le_of_ble_eq_true rfl⟩ rfl hl.1 rfl (Nat.le_of_ble_eq_true rfl) dL_enqueue_2 ⟨Nat.le_of_ble_eq_true rfl, Nat.le_of_ble_eq_true rfl⟩ (fun E9 w1 ce q H locs hx w hce hcv hcl => ?_) (fun r9 w1 H locs h9 w => ?_)
  · obtain ⟨rfl, hx⟩ := hx
    rw [show fl ([] : List va_W) = [] from rfl, List.append_nil] at w
    simp only [List.mem_cons, List.not_mem_nil, or_false] at hE
    rcases hE with rfl | rfl
    · refine vx_catch F.o (name := eNSE) (tableOf []) ⟨0, 5, 6, 32⟩ (tableOf [(0, 5, 10, 24)]) htab pass_nil rfl (by decide) (F.t _ (List.mem_of_getElem? (i := 474) (by decide +kernel)) rfl _) (F.t _ (List.mem_of_getElem? (i := 489) (by decide +kernel)) rfl _) hce hcv hcl ?_
      refine lv_astore_n (lv' := [(2, .ref q), (0, .ref ((ad 0) 0)), (1, .int x1)]) F.x F.b dL_enqueue_6 rfl hl (by decide) rfl (fun ls hl => ?_)
      refine lv_bipush (v := (-75)) F.x F.b dL_enqueue_7 (by decide) ?_
      exact eiX F w hr hlocks rfl ⟨by decide +kernel, hx⟩ (Nat.le_of_ble_eq_true rfl) (Nat.le_of_ble_eq_true rfl) dL_enqueue_9
    · refine vx_catch F.o (name := eISE) (tableOf [(0, 5, 6, 32)]) ⟨0, 5, 10, 24⟩ (tableOf []) htab (pass_cons F hNC (by decide) (T := eNSE) (List.mem_of_getElem? (i := 474) (by decide +kernel)) (by decide +kernel : eISE ∈ allE) (by decide +kernel : eNSE ∈ allE) (by decide +kernel) pass_nil) rfl (by decide) (F.t _ (List.mem_of_getElem? (i := 610) (by decide +kernel)) rfl _) (F.t _ (List.mem_of_getElem? (i := 655) (by decide +kernel)) rfl _) hce hcv hcl ?_
      refine lv_astore_n (lv' := [(2, .ref q), (0, .ref ((ad 0) 0)), (1, .int x1)]) F.x F.b dL_enqueue_10 rfl hl (by decide) rfl (fun ls hl => ?_)
      refine lv_bipush (v := (-79)) F.x F.b dL_enqueue_11 (by decide) ?_
      exact eiX F w hr hlocks rfl ⟨by decide +kernel, hx⟩ (Nat.le_of_ble_eq_true rfl) (Nat.le_of_ble_eq_true rfl) dL_enqueue_13
  · exact False.elim h9
set_option maxRecDepth 100000 in
set_option maxHeartbeats 4000000 in
theorem l_enqueue_ok {G : cG} (g : GOK G) {ad : Nat → Nat → Nat} {svx : Value} {K S S' : Mem} {cu ct : Nat} {hs : hS} {x1 : Int32} {r : Nat} (k1 : cu < 9) (hcp : ∀ P0, ∃ P, f_X4_copyFrom P0 S = some P) (k2 : ct ≤ 8) (hr9 : r < 2 ^ 31) (e1 : f_X4_queueLot S x1 = some (nI r, S')) : CXH G yL_enqueue cL_enqueue 3 [(0, 5, 6, 32), (0, 5, 10, 24)] 5 109 14 161 [.ref ((ad 0) 0), .int x1] (fl [wXo G.2.1 (ad 0) (xF ad) svx K, wSh G.2.1 (ad 1) S, wHo G.2.1 (ad 3) cu ct hs, hsL G.2.1 hs]) (fun r9 w1 => r9 = nI r ∧ YeW G ad svx K S S' cu ct hs w1) := by
  refine CXH.of g (by decide) rfl (Nat.le_of_ble_eq_true rfl) (List.mem_of_getElem? (i := 1153) (by decide +kernel)) (by rfl) ?_
  intro p l e s m below meth cm A ls hst htab F hr hlocks w hl
  generalize ([.ref ((ad 0) 0), .int x1] : List Value).toArray = args
  have hl : lv_has ls 3 [(0, .ref ((ad 0) 0)), (1, .int x1)] := hl
  have w : Wd G A s.heap (fl [wXo G.2.1 (ad 0) (xF ad) svx K, wSh G.2.1 (ad 1) S, wHo G.2.1 (ad 3) cu ct hs, hsL G.2.1 hs]) _ _ := w
  refine lv_aload_n F.x F.b dL_enqueue_0 rfl (lv_at hl 0 rfl) ?_
  refine lv_iload_n F.x F.b dL_enqueue_1 rfl (lv_at hl 1 rfl) ?_
  refine kXi F w hst (LC := [wXo G.2.1 (ad 0) (xF ad) svx K, wSh G.2.1 (ad 1) S, wHo G.2.1 (ad 3) cu ct hs, hsL G.2.1 hs]) (LR := []) (As := [.int x1]) (rest := []) (k_enqueue_ok F.1 k1 hcp k2 hr9 e1) m_X6_enqueue v_X6_enqueue q1154 (ci := 10) (q0 := 0) rfl rfl rfl 4 [0, 1, 2, 3] rfl rfl rfl ⟨Nat.le_of_ble_eq_true rfl, Nat.le_of_ble_eq_true rfl⟩ rfl hl.1 rfl (Nat.le_of_ble_eq_true rfl) dL_enqueue_2 ⟨Nat.le_of_ble_eq_true rfl, Nat.le_of_ble_eq_true rfl⟩ (fun _ _ _ _ _ _ hx => False.elim hx) (fun r9 w1 H locs h9 w => ?_)
  rw [show fl ([] : List va_W) = [] from rfl, List.append_nil] at w
  exact eiX F w hr hlocks rfl h9 (Nat.le_of_ble_eq_true rfl) (Nat.le_of_ble_eq_true rfl) dL_enqueue_5
set_option maxRecDepth 100000 in
set_option maxHeartbeats 4000000 in
theorem l_audit_no {G : cG} (g : GOK G) (gM : MG G) (hNC : NcG G) {ad : Nat → Nat → Nat} {svx : Value} {K S : Mem} {cu ct : Nat} {hs : hS} {E : String} (k1 : cu < 9) (hcp : ∀ P0, ∃ P, f_X4_copyFrom P0 S = some P) (e1 : f_X4_auditFirst S = some (numE E, S)) (hE : E ∈ [eNSE]) : CXH G yL_audit cL_audit 2 [(0, 4, 5, 32)] 9 143 15 167 [.ref ((ad 0) 0)] (fl [wXo G.2.1 (ad 0) (xF ad) svx K, wSh G.2.1 (ad 1) S, wHo G.2.1 (ad 3) cu ct hs, hsL G.2.1 hs]) (fun r9 w1 => r9 = cdE E ∧ NoW G ad svx K S cu ct hs w1) := by
  refine CXH.of g (by decide) rfl (Nat.le_of_ble_eq_true rfl) (List.mem_of_getElem? (i := 689) (by decide +kernel)) (by rfl) ?_
  intro p l e s m below meth cm A ls hst htab F hr hlocks w hl
  generalize ([.ref ((ad 0) 0)] : List Value).toArray = args
  have hl : lv_has ls 2 [(0, .ref ((ad 0) 0))] := hl
  have w : Wd G A s.heap (fl [wXo G.2.1 (ad 0) (xF ad) svx K, wSh G.2.1 (ad 1) S, wHo G.2.1 (ad 3) cu ct hs, hsL G.2.1 hs]) _ _ := w
  refine lv_aload_n F.x F.b dL_audit_0 rfl (lv_at hl 0 rfl) ?_
  refine kXi F w hst (LC := [wXo G.2.1 (ad 0) (xF ad) svx K, wSh G.2.1 (ad 1) S, wHo G.2.1 (ad 3) cu ct hs, hsL G.2.1 hs]) (LR := []) (As := []) (rest := []) (k_audit_no F.1 gM k1 hcp e1 (by revert hE; exact fun hE => (by decide +kernel : ∀ x ∈ ([eNSE] : List String), x ∈ excL) _ hE)) m_X6_audit v_X6_audit q690 (ci := 10) (q0 := 0) rfl rfl rfl 4 [0, 1, 2, 3] rfl rfl rfl ⟨Nat.le_of_ble_eq_true rfl, Nat.le_of_ble_eq_true rfl⟩ rfl hl.1 rfl (Nat.le_of_ble_eq_true rfl) dL_audit_1 ⟨Nat.le_of_ble_eq_true rfl, Nat.le_of_ble_eq_true rfl⟩ (fun E9 w1 ce q H locs hx w hce hcv hcl => ?_) (fun r9 w1 H locs h9 w => ?_)
  · obtain ⟨rfl, hx⟩ := hx
    rw [show fl ([] : List va_W) = [] from rfl, List.append_nil] at w
    simp only [List.mem_cons, List.not_mem_nil, or_false] at hE
    subst hE
    refine vx_catch F.o (name := eNSE) (tableOf []) ⟨0, 4, 5, 32⟩ (tableOf []) htab pass_nil rfl (by decide) (F.t _ (List.mem_of_getElem? (i := 474) (by decide +kernel)) rfl _) (F.t _ (List.mem_of_getElem? (i := 489) (by decide +kernel)) rfl _) hce hcv hcl ?_
    refine lv_astore_n (lv' := [(1, .ref q), (0, .ref ((ad 0) 0))]) F.x F.b dL_audit_5 rfl hl (by decide) rfl (fun ls hl => ?_)
    refine lv_bipush (v := (-75)) F.x F.b dL_audit_6 (by decide) ?_
    exact eiX F w hr hlocks rfl ⟨by decide +kernel, hx⟩ (Nat.le_of_ble_eq_true rfl) (Nat.le_of_ble_eq_true rfl) dL_audit_8
  · exact False.elim h9
set_option maxRecDepth 100000 in
set_option maxHeartbeats 4000000 in
theorem l_audit_ok {G : cG} (g : GOK G) {ad : Nat → Nat → Nat} {svx : Value} {K S S' : Mem} {cu ct : Nat} {hs : hS} {r : Nat} (k1 : cu < 9) (hcp : ∀ P0, ∃ P, f_X4_copyFrom P0 S = some P) (k2 : ct ≤ 8) (hr9 : r < 2 ^ 31) (e1 : f_X4_auditFirst S = some (nI r, S')) : CXH G yL_audit cL_audit 2 [(0, 4, 5, 32)] 5 108 14 161 [.ref ((ad 0) 0)] (fl [wXo G.2.1 (ad 0) (xF ad) svx K, wSh G.2.1 (ad 1) S, wHo G.2.1 (ad 3) cu ct hs, hsL G.2.1 hs]) (fun r9 w1 => r9 = nI r ∧ YeW G ad svx K S S' cu ct hs w1) := by
  refine CXH.of g (by decide) rfl (Nat.le_of_ble_eq_true rfl) (List.mem_of_getElem? (i := 689) (by decide +kernel)) (by rfl) ?_
  intro p l e s m below meth cm A ls hst htab F hr hlocks w hl
  generalize ([.ref ((ad 0) 0)] : List Value).toArray = args
  have hl : lv_has ls 2 [(0, .ref ((ad 0) 0))] := hl
  have w : Wd G A s.heap (fl [wXo G.2.1 (ad 0) (xF ad) svx K, wSh G.2.1 (ad 1) S, wHo G.2.1 (ad 3) cu ct hs, hsL G.2.1 hs]) _ _ := w
  refine lv_aload_n F.x F.b dL_audit_0 rfl (lv_at hl 0 rfl) ?_
  refine kXi F w hst (LC := [wXo G.2.1 (ad 0) (xF ad) svx K, wSh G.2.1 (ad 1) S, wHo G.2.1 (ad 3) cu ct hs, hsL G.2.1 hs]) (LR := []) (As := []) (rest := []) (k_audit_ok F.1 k1 hcp k2 hr9 e1) m_X6_audit v_X6_audit q690 (ci := 10) (q0 := 0) rfl rfl rfl 4 [0, 1, 2, 3] rfl rfl rfl ⟨Nat.le_of_ble_eq_true rfl, Nat.le_of_ble_eq_true rfl⟩ rfl hl.1 rfl (Nat.le_of_ble_eq_true rfl) dL_audit_1 ⟨Nat.le_of_ble_eq_true rfl, Nat.le_of_ble_eq_true rfl⟩ (fun _ _ _ _ _ _ hx => False.elim hx) (fun r9 w1 H locs h9 w => ?_)
  rw [show fl ([] : List va_W) = [] from rfl, List.append_nil] at w
  exact eiX F w hr hlocks rfl h9 (Nat.le_of_ble_eq_true rfl) (Nat.le_of_ble_eq_true rfl) dL_audit_4
set_option maxRecDepth 100000 in
set_option maxHeartbeats 4000000 in
theorem l_deposit_no {G : cG} (g : GOK G) (gM : MG G) (hNC : NcG G) {ad : Nat → Nat → Nat} {svx : Value} {K S : Mem} {cu ct : Nat} {hs : hS} {x1 : Int32} {E : String} (k1 : cu < 9) (hcp : ∀ P0, ∃ P, f_X4_copyFrom P0 S = some P) (e1 : f_X4_takeCoins S x1 = some (numE E, S)) (hE : E ∈ [eIAE, eISE]) : CXH G yL_deposit cL_deposit 3 [(0, 5, 6, 22), (0, 5, 10, 24)] 9 144 15 167 [.ref ((ad 0) 0), .int x1] (fl [wXo G.2.1 (ad 0) (xF ad) svx K, wSh G.2.1 (ad 1) S, wHo G.2.1 (ad 3) cu ct hs, hsL G.2.1 hs]) (fun r9 w1 => r9 = cdE E ∧ NoW G ad svx K S cu ct hs w1) := by
  refine CXH.of g (by decide) rfl (Nat.le_of_ble_eq_true rfl) (List.mem_of_getElem? (i := 701) (by decide +kernel)) (by rfl) ?_
  intro p l e s m below meth cm A ls hst htab F hr hlocks w hl
  generalize ([.ref ((ad 0) 0), .int x1] : List Value).toArray = args
  have hl : lv_has ls 3 [(0, .ref ((ad 0) 0)), (1, .int x1)] := hl
  have w : Wd G A s.heap (fl [wXo G.2.1 (ad 0) (xF ad) svx K, wSh G.2.1 (ad 1) S, wHo G.2.1 (ad 3) cu ct hs, hsL G.2.1 hs]) _ _ := w
  refine lv_aload_n F.x F.b dL_deposit_0 rfl (lv_at hl 0 rfl) ?_
  refine lv_iload_n F.x F.b dL_deposit_1 rfl (lv_at hl 1 rfl) ?_
  refine kXi F w hst (LC := [wXo G.2.1 (ad 0) (xF ad) svx K, wSh G.2.1 (ad 1) S, wHo G.2.1 (ad 3) cu ct hs, hsL G.2.1 hs]) (LR := []) (As := [.int x1]) (rest := []) (k_deposit_no F.1 gM k1 hcp e1 (by revert hE; exact fun hE => (by decide +kernel : ∀ x ∈ ([eIAE, eISE] : List String), x ∈ excL) _ hE)) m_X6_deposit v_X6_deposit q702 (ci := 10) (q0 := 0) rfl rfl rfl 4 [0, 1, 2, 3] rfl rfl rfl ⟨Nat.le_of_ble_eq_true rfl, Nat.le_of_ble_eq_true rfl⟩ rfl hl.1 rfl (Nat.le_of_ble_eq_true rfl) dL_deposit_2 ⟨Nat.le_of_ble_eq_true rfl, Nat.le_of_ble_eq_true rfl⟩ (fun E9 w1 ce q H locs hx w hce hcv hcl => ?_) (fun r9 w1 H locs h9 w => ?_)
  · obtain ⟨rfl, hx⟩ := hx
    rw [show fl ([] : List va_W) = [] from rfl, List.append_nil] at w
    simp only [List.mem_cons, List.not_mem_nil, or_false] at hE
    rcases hE with rfl | rfl
    · refine vx_catch F.o (name := eIAE) (tableOf []) ⟨0, 5, 6, 22⟩ (tableOf [(0, 5, 10, 24)]) htab pass_nil rfl (by decide) (F.t _ (List.mem_of_getElem? (i := 521) (by decide +kernel)) rfl _) (F.t _ (List.mem_of_getElem? (i := 528) (by decide +kernel)) rfl _) hce hcv hcl ?_
      refine lv_astore_n (lv' := [(2, .ref q), (0, .ref ((ad 0) 0)), (1, .int x1)]) F.x F.b dL_deposit_6 rfl hl (by decide) rfl (fun ls hl => ?_)
      refine lv_bipush (v := (-78)) F.x F.b dL_deposit_7 (by decide) ?_
      exact eiX F w hr hlocks rfl ⟨by decide +kernel, hx⟩ (Nat.le_of_ble_eq_true rfl) (Nat.le_of_ble_eq_true rfl) dL_deposit_9
    · refine vx_catch F.o (name := eISE) (tableOf [(0, 5, 6, 22)]) ⟨0, 5, 10, 24⟩ (tableOf []) htab (pass_cons F hNC (by decide) (T := eIAE) (List.mem_of_getElem? (i := 521) (by decide +kernel)) (by decide +kernel : eISE ∈ allE) (by decide +kernel : eIAE ∈ allE) (by decide +kernel) pass_nil) rfl (by decide) (F.t _ (List.mem_of_getElem? (i := 610) (by decide +kernel)) rfl _) (F.t _ (List.mem_of_getElem? (i := 655) (by decide +kernel)) rfl _) hce hcv hcl ?_
      refine lv_astore_n (lv' := [(2, .ref q), (0, .ref ((ad 0) 0)), (1, .int x1)]) F.x F.b dL_deposit_10 rfl hl (by decide) rfl (fun ls hl => ?_)
      refine lv_bipush (v := (-79)) F.x F.b dL_deposit_11 (by decide) ?_
      exact eiX F w hr hlocks rfl ⟨by decide +kernel, hx⟩ (Nat.le_of_ble_eq_true rfl) (Nat.le_of_ble_eq_true rfl) dL_deposit_13
  · exact False.elim h9
set_option maxRecDepth 100000 in
set_option maxHeartbeats 4000000 in
theorem l_deposit_ok {G : cG} (g : GOK G) {ad : Nat → Nat → Nat} {svx : Value} {K S S' : Mem} {cu ct : Nat} {hs : hS} {x1 : Int32} {r : Nat} (k1 : cu < 9) (hcp : ∀ P0, ∃ P, f_X4_copyFrom P0 S = some P) (k2 : ct ≤ 8) (hr9 : r < 2 ^ 31) (e1 : f_X4_takeCoins S x1 = some (nI r, S')) : CXH G yL_deposit cL_deposit 3 [(0, 5, 6, 22), (0, 5, 10, 24)] 5 109 14 161 [.ref ((ad 0) 0), .int x1] (fl [wXo G.2.1 (ad 0) (xF ad) svx K, wSh G.2.1 (ad 1) S, wHo G.2.1 (ad 3) cu ct hs, hsL G.2.1 hs]) (fun r9 w1 => r9 = nI r ∧ YeW G ad svx K S S' cu ct hs w1) := by
  refine CXH.of g (by decide) rfl (Nat.le_of_ble_eq_true rfl) (List.mem_of_getElem? (i := 701) (by decide +kernel)) (by rfl) ?_
  intro p l e s m below meth cm A ls hst htab F hr hlocks w hl
  generalize ([.ref ((ad 0) 0), .int x1] : List Value).toArray = args
  have hl : lv_has ls 3 [(0, .ref ((ad 0) 0)), (1, .int x1)] := hl
  have w : Wd G A s.heap (fl [wXo G.2.1 (ad 0) (xF ad) svx K, wSh G.2.1 (ad 1) S, wHo G.2.1 (ad 3) cu ct hs, hsL G.2.1 hs]) _ _ := w
  refine lv_aload_n F.x F.b dL_deposit_0 rfl (lv_at hl 0 rfl) ?_
  refine lv_iload_n F.x F.b dL_deposit_1 rfl (lv_at hl 1 rfl) ?_
  refine kXi F w hst (LC := [wXo G.2.1 (ad 0) (xF ad) svx K, wSh G.2.1 (ad 1) S, wHo G.2.1 (ad 3) cu ct hs, hsL G.2.1 hs]) (LR := []) (As := [.int x1]) (rest := []) (k_deposit_ok F.1 k1 hcp k2 hr9 e1) m_X6_deposit v_X6_deposit q702 (ci := 10) (q0 := 0) rfl rfl rfl 4 [0, 1, 2, 3] rfl rfl rfl ⟨Nat.le_of_ble_eq_true rfl, Nat.le_of_ble_eq_true rfl⟩ rfl hl.1 rfl (Nat.le_of_ble_eq_true rfl) dL_deposit_2 ⟨Nat.le_of_ble_eq_true rfl, Nat.le_of_ble_eq_true rfl⟩ (fun _ _ _ _ _ _ hx => False.elim hx) (fun r9 w1 H locs h9 w => ?_)
  rw [show fl ([] : List va_W) = [] from rfl, List.append_nil] at w
  exact eiX F w hr hlocks rfl h9 (Nat.le_of_ble_eq_true rfl) (Nat.le_of_ble_eq_true rfl) dL_deposit_5
set_option maxRecDepth 100000 in
set_option maxHeartbeats 4000000 in
theorem l_release_no {G : cG} (g : GOK G) (gM : MG G) (hNC : NcG G) {ad : Nat → Nat → Nat} {svx : Value} {K S : Mem} {cu ct : Nat} {hs : hS} {x1 : Int32} {E : String} (k1 : cu < 9) (hcp : ∀ P0, ∃ P, f_X4_copyFrom P0 S = some P) (e1 : f_X4_releaseLot S x1 = some (numE E, S)) (hE : E ∈ [eNSE, eUOE]) : CXH G yL_release cL_release 3 [(0, 5, 6, 32), (0, 5, 10, 26)] 9 144 15 167 [.ref ((ad 0) 0), .int x1] (fl [wXo G.2.1 (ad 0) (xF ad) svx K, wSh G.2.1 (ad 1) S, wHo G.2.1 (ad 3) cu ct hs, hsL G.2.1 hs]) (fun r9 w1 => r9 = cdE E ∧ NoW G ad svx K S cu ct hs w1) := by
  refine CXH.of g (by decide) rfl (Nat.le_of_ble_eq_true rfl) (List.mem_of_getElem? (i := 1161) (by decide +kernel)) (by rfl) ?_
  intro p l e s m below meth cm A ls hst htab F hr hlocks w hl
  generalize ([.ref ((ad 0) 0), .int x1] : List Value).toArray = args
  have hl : lv_has ls 3 [(0, .ref ((ad 0) 0)), (1, .int x1)] := hl
  have w : Wd G A s.heap (fl [wXo G.2.1 (ad 0) (xF ad) svx K, wSh G.2.1 (ad 1) S, wHo G.2.1 (ad 3) cu ct hs, hsL G.2.1 hs]) _ _ := w
  refine lv_aload_n F.x F.b dL_release_0 rfl (lv_at hl 0 rfl) ?_
  refine lv_iload_n F.x F.b dL_release_1 rfl (lv_at hl 1 rfl) ?_
  refine kXi F w hst (LC := [wXo G.2.1 (ad 0) (xF ad) svx K, wSh G.2.1 (ad 1) S, wHo G.2.1 (ad 3) cu ct hs, hsL G.2.1 hs]) (LR := []) (As := [.int x1]) (rest := []) (k_release_no F.1 gM k1 hcp e1 (by revert hE; exact fun hE => (by decide +kernel : ∀ x ∈ ([eNSE, eUOE] : List String), x ∈ excL) _ hE)) m_X6_release v_X6_release q1162 (ci := 10) (q0 := 0) rfl rfl rfl 4 [0, 1, 2, 3] rfl rfl rfl ⟨Nat.le_of_ble_eq_true rfl, Nat.le_of_ble_eq_true rfl⟩ rfl hl.1 rfl (Nat.le_of_ble_eq_true rfl) dL_release_2 ⟨Nat.le_of_ble_eq_true rfl, Nat.le_of_ble_eq_true rfl⟩ (fun E9 w1 ce q H locs hx w hce hcv hcl => ?_) (fun r9 w1 H locs h9 w => ?_)
  · obtain ⟨rfl, hx⟩ := hx
    rw [show fl ([] : List va_W) = [] from rfl, List.append_nil] at w
    simp only [List.mem_cons, List.not_mem_nil, or_false] at hE
    rcases hE with rfl | rfl
    · refine vx_catch F.o (name := eNSE) (tableOf []) ⟨0, 5, 6, 32⟩ (tableOf [(0, 5, 10, 26)]) htab pass_nil rfl (by decide) (F.t _ (List.mem_of_getElem? (i := 474) (by decide +kernel)) rfl _) (F.t _ (List.mem_of_getElem? (i := 489) (by decide +kernel)) rfl _) hce hcv hcl ?_
      refine lv_astore_n (lv' := [(2, .ref q), (0, .ref ((ad 0) 0)), (1, .int x1)]) F.x F.b dL_release_6 rfl hl (by decide) rfl (fun ls hl => ?_)
      refine lv_bipush (v := (-75)) F.x F.b dL_release_7 (by decide) ?_
      exact eiX F w hr hlocks rfl ⟨by decide +kernel, hx⟩ (Nat.le_of_ble_eq_true rfl) (Nat.le_of_ble_eq_true rfl) dL_release_9
    · refine vx_catch F.o (name := eUOE) (tableOf [(0, 5, 6, 32)]) ⟨0, 5, 10, 26⟩ (tableOf []) htab (pass_cons F hNC (by decide) (T := eNSE) (List.mem_of_getElem? (i := 474) (by decide +kernel)) (by decide +kernel : eUOE ∈ allE) (by decide +kernel : eNSE ∈ allE) (by decide +kernel) pass_nil) rfl (by decide) (F.t _ (List.mem_of_getElem? (i := 611) (by decide +kernel)) rfl _) (F.t _ (List.mem_of_getElem? (i := 670) (by decide +kernel)) rfl _) hce hcv hcl ?_
      refine lv_astore_n (lv' := [(2, .ref q), (0, .ref ((ad 0) 0)), (1, .int x1)]) F.x F.b dL_release_10 rfl hl (by decide) rfl (fun ls hl => ?_)
      refine lv_bipush (v := (-76)) F.x F.b dL_release_11 (by decide) ?_
      exact eiX F w hr hlocks rfl ⟨by decide +kernel, hx⟩ (Nat.le_of_ble_eq_true rfl) (Nat.le_of_ble_eq_true rfl) dL_release_13
  · exact False.elim h9
set_option maxRecDepth 100000 in
set_option maxHeartbeats 4000000 in
theorem l_release_ok {G : cG} (g : GOK G) {ad : Nat → Nat → Nat} {svx : Value} {K S S' : Mem} {cu ct : Nat} {hs : hS} {x1 : Int32} {r : Nat} (k1 : cu < 9) (hcp : ∀ P0, ∃ P, f_X4_copyFrom P0 S = some P) (k2 : ct ≤ 8) (hr9 : r < 2 ^ 31) (e1 : f_X4_releaseLot S x1 = some (nI r, S')) : CXH G yL_release cL_release 3 [(0, 5, 6, 32), (0, 5, 10, 26)] 5 111 14 161 [.ref ((ad 0) 0), .int x1] (fl [wXo G.2.1 (ad 0) (xF ad) svx K, wSh G.2.1 (ad 1) S, wHo G.2.1 (ad 3) cu ct hs, hsL G.2.1 hs]) (fun r9 w1 => r9 = nI r ∧ YeW G ad svx K S S' cu ct hs w1) := by
  refine CXH.of g (by decide) rfl (Nat.le_of_ble_eq_true rfl) (List.mem_of_getElem? (i := 1161) (by decide +kernel)) (by rfl) ?_
  intro p l e s m below meth cm A ls hst htab F hr hlocks w hl
  generalize ([.ref ((ad 0) 0), .int x1] : List Value).toArray = args
  have hl : lv_has ls 3 [(0, .ref ((ad 0) 0)), (1, .int x1)] := hl
  have w : Wd G A s.heap (fl [wXo G.2.1 (ad 0) (xF ad) svx K, wSh G.2.1 (ad 1) S, wHo G.2.1 (ad 3) cu ct hs, hsL G.2.1 hs]) _ _ := w
  refine lv_aload_n F.x F.b dL_release_0 rfl (lv_at hl 0 rfl) ?_
  refine lv_iload_n F.x F.b dL_release_1 rfl (lv_at hl 1 rfl) ?_
  refine kXi F w hst (LC := [wXo G.2.1 (ad 0) (xF ad) svx K, wSh G.2.1 (ad 1) S, wHo G.2.1 (ad 3) cu ct hs, hsL G.2.1 hs]) (LR := []) (As := [.int x1]) (rest := []) (k_release_ok F.1 k1 hcp k2 hr9 e1) m_X6_release v_X6_release q1162 (ci := 10) (q0 := 0) rfl rfl rfl 4 [0, 1, 2, 3] rfl rfl rfl ⟨Nat.le_of_ble_eq_true rfl, Nat.le_of_ble_eq_true rfl⟩ rfl hl.1 rfl (Nat.le_of_ble_eq_true rfl) dL_release_2 ⟨Nat.le_of_ble_eq_true rfl, Nat.le_of_ble_eq_true rfl⟩ (fun _ _ _ _ _ _ hx => False.elim hx) (fun r9 w1 H locs h9 w => ?_)
  rw [show fl ([] : List va_W) = [] from rfl, List.append_nil] at w
  exact eiX F w hr hlocks rfl h9 (Nat.le_of_ble_eq_true rfl) (Nat.le_of_ble_eq_true rfl) dL_release_5
set_option maxRecDepth 100000 in
set_option maxHeartbeats 4000000 in
theorem l_feed_ok {G : cG} (g : GOK G) {ad : Nat → Nat → Nat} {svx : Value} {K C C' : Mem} {cc nn : Nat} (hq : f_X1_append C (nI cc) = some (1, C')) (hq1 : C'.1 0 = nI nn) : CXH G yL_feed cL_feed 3 [(0, 5, 6, 24)] 2 42 0 0 [.ref ((ad 0) 0), .int (nI cc)] (fl [wXo G.2.1 (ad 0) (xF ad) svx K, wTe G.2.1 (ad 4) C]) (fun r9 w1 => r9 = nI nn ∧ w1 = fl [wXo G.2.1 (ad 0) (xF ad) svx K, wTe G.2.1 (ad 4) C']) := by
  refine CXH.of g (by decide) rfl (Nat.le_of_ble_eq_true rfl) (List.mem_of_getElem? (i := 1032) (by decide +kernel)) (by rfl) ?_
  intro p l e s m below meth cm A ls hst htab F hr hlocks w hl
  generalize ([.ref ((ad 0) 0), .int (nI cc)] : List Value).toArray = args
  have hl : lv_has ls 3 [(0, .ref ((ad 0) 0)), (1, .int (nI cc))] := hl
  have w : Wd G A s.heap (fl [wXo G.2.1 (ad 0) (xF ad) svx K, wTe G.2.1 (ad 4) C]) _ _ := w
  refine lv_aload_n F.x F.b dL_feed_0 rfl (lv_at hl 0 rfl) ?_
  refine lv_iload_n F.x F.b dL_feed_1 rfl (lv_at hl 1 rfl) ?_
  refine kXi F w hst (LC := [wXo G.2.1 (ad 0) (xF ad) svx K, wTe G.2.1 (ad 4) C]) (LR := []) (As := [.int (nI cc)]) (rest := []) (k_feed_ok F.1 hq hq1) m_X6_feed v_X6_feed q1033 (ci := 10) (q0 := 0) rfl rfl rfl 2 [0, 1] rfl rfl rfl ⟨Nat.le_of_ble_eq_true rfl, Nat.le_of_ble_eq_true rfl⟩ rfl hl.1 rfl (Nat.le_of_ble_eq_true rfl) dL_feed_2 ⟨Nat.le_of_ble_eq_true rfl, Nat.le_of_ble_eq_true rfl⟩ (fun _ _ _ _ _ _ hx => False.elim hx) (fun r9 w1 H locs h9 w => ?_)
  rw [show fl ([] : List va_W) = [] from rfl, List.append_nil] at w
  exact eiX F w hr hlocks rfl h9 (Nat.le_of_ble_eq_true rfl) (Nat.le_of_ble_eq_true rfl) dL_feed_5
set_option maxRecDepth 100000 in
set_option maxHeartbeats 4000000 in
theorem l_undo_no {G : cG} (g : GOK G) (gM : MG G) (hNC : NcG G) {ad : Nat → Nat → Nat} {svx : Value} {K S : Mem} {cu ct : Nat} {hs : hS} (e0 : ct = 0) : CXH G yL_undo cL_undo 2 [(0, 4, 5, 24)] 7 102 1 6 [.ref ((ad 0) 0)] (fl [wXo G.2.1 (ad 0) (xF ad) svx K, wSh G.2.1 (ad 1) S, wHo G.2.1 (ad 3) cu ct hs, hsL G.2.1 hs]) (fun r9 w1 => r9 = (-79) ∧ w1 = fl [wXo G.2.1 (ad 0) (xF ad) svx K, wSh G.2.1 (ad 1) S, wHo G.2.1 (ad 3) cu ct hs, hsL G.2.1 hs]) := by
  refine CXH.of g (by decide) rfl (Nat.le_of_ble_eq_true rfl) (List.mem_of_getElem? (i := 1487) (by decide +kernel)) (by rfl) ?_
  intro p l e s m below meth cm A ls hst htab F hr hlocks w hl
  generalize ([.ref ((ad 0) 0)] : List Value).toArray = args
  have hl : lv_has ls 2 [(0, .ref ((ad 0) 0))] := hl
  have w : Wd G A s.heap (fl [wXo G.2.1 (ad 0) (xF ad) svx K, wSh G.2.1 (ad 1) S, wHo G.2.1 (ad 3) cu ct hs, hsL G.2.1 hs]) _ _ := w
  refine lv_aload_n F.x F.b dL_undo_0 rfl (lv_at hl 0 rfl) ?_
  refine kXi F w hst (LC := [wXo G.2.1 (ad 0) (xF ad) svx K, wSh G.2.1 (ad 1) S, wHo G.2.1 (ad 3) cu ct hs, hsL G.2.1 hs]) (LR := []) (As := []) (rest := []) (k_undo_no F.1 gM e0) m_X6_undo v_X6_undo q1488 (ci := 10) (q0 := 0) rfl rfl rfl 4 [0, 1, 2, 3] rfl rfl rfl ⟨Nat.le_of_ble_eq_true rfl, Nat.le_of_ble_eq_true rfl⟩ rfl hl.1 rfl (Nat.le_of_ble_eq_true rfl) dL_undo_1 ⟨Nat.le_of_ble_eq_true rfl, Nat.le_of_ble_eq_true rfl⟩ (fun E9 w1 ce q H locs hx w hce hcv hcl => ?_) (fun r9 w1 H locs h9 w => ?_)
  · obtain ⟨rfl, hx⟩ := hx
    rw [show fl ([] : List va_W) = [] from rfl, List.append_nil] at w
    refine vx_catch F.o (name := eISE) (tableOf []) ⟨0, 4, 5, 24⟩ (tableOf []) htab pass_nil rfl (by decide) (F.t _ (List.mem_of_getElem? (i := 610) (by decide +kernel)) rfl _) (F.t _ (List.mem_of_getElem? (i := 655) (by decide +kernel)) rfl _) hce hcv hcl ?_
    refine lv_astore_n (lv' := [(1, .ref q), (0, .ref ((ad 0) 0))]) F.x F.b dL_undo_5 rfl hl (by decide) rfl (fun ls hl => ?_)
    refine lv_bipush (v := (-79)) F.x F.b dL_undo_6 (by decide) ?_
    exact eiX F w hr hlocks rfl ⟨rfl, hx⟩ (Nat.le_of_ble_eq_true rfl) (Nat.le_of_ble_eq_true rfl) dL_undo_8
  · exact False.elim h9
set_option maxRecDepth 100000 in
set_option maxHeartbeats 4000000 in
theorem l_undo_ok {G : cG} (g : GOK G) {ad : Nat → Nat → Nat} {svx : Value} {K S P S' : Mem} {cu ct : Nat} {hs : hS} {b : Nat → Nat} (k1 : cu < 9) (k2 : ct ≤ 8) (e0 : ct ≠ 0) (hb : hs (prv cu) = some (b, P)) (hcp : f_X4_copyFrom S P = some S') : CXH G yL_undo cL_undo 2 [(0, 4, 5, 24)] 6 129 0 0 [.ref ((ad 0) 0)] (fl [wXo G.2.1 (ad 0) (xF ad) svx K, wSh G.2.1 (ad 1) S, wHo G.2.1 (ad 3) cu ct hs, hsL G.2.1 hs]) (fun r9 w1 => r9 = nI (ct - 1) ∧ w1 = fl [wXo G.2.1 (ad 0) (xF ad) svx K, wSh G.2.1 (ad 1) S', wHo G.2.1 (ad 3) (prv cu) (ct - 1) hs, hsL G.2.1 hs]) := by
  refine CXH.of g (by decide) rfl (Nat.le_of_ble_eq_true rfl) (List.mem_of_getElem? (i := 1487) (by decide +kernel)) (by rfl) ?_
  intro p l e s m below meth cm A ls hst htab F hr hlocks w hl
  generalize ([.ref ((ad 0) 0)] : List Value).toArray = args
  have hl : lv_has ls 2 [(0, .ref ((ad 0) 0))] := hl
  have w : Wd G A s.heap (fl [wXo G.2.1 (ad 0) (xF ad) svx K, wSh G.2.1 (ad 1) S, wHo G.2.1 (ad 3) cu ct hs, hsL G.2.1 hs]) _ _ := w
  refine lv_aload_n F.x F.b dL_undo_0 rfl (lv_at hl 0 rfl) ?_
  refine kXi F w hst (LC := [wXo G.2.1 (ad 0) (xF ad) svx K, wSh G.2.1 (ad 1) S, wHo G.2.1 (ad 3) cu ct hs, hsL G.2.1 hs]) (LR := []) (As := []) (rest := []) (k_undo_ok F.1 k1 k2 e0 hb hcp) m_X6_undo v_X6_undo q1488 (ci := 10) (q0 := 0) rfl rfl rfl 4 [0, 1, 2, 3] rfl rfl rfl ⟨Nat.le_of_ble_eq_true rfl, Nat.le_of_ble_eq_true rfl⟩ rfl hl.1 rfl (Nat.le_of_ble_eq_true rfl) dL_undo_1 ⟨Nat.le_of_ble_eq_true rfl, Nat.le_of_ble_eq_true rfl⟩ (fun _ _ _ _ _ _ hx => False.elim hx) (fun r9 w1 H locs h9 w => ?_)
  rw [show fl ([] : List va_W) = [] from rfl, List.append_nil] at w
  exact eiX F w hr hlocks rfl h9 (Nat.le_of_ble_eq_true rfl) (Nat.le_of_ble_eq_true rfl) dL_undo_4
set_option maxRecDepth 100000 in
set_option maxHeartbeats 4000000 in
theorem l_restore_ok {G : cG} (g : GOK G) {ad : Nat → Nat → Nat} {K S P S' : Mem} {cu ct : Nat} {hs : hS} {b : Nat → Nat} (hcp : f_X4_copyFrom S P = some S') : CXH G yL_restore cL_restore 2 [(0, 4, 5, 24)] 4 87 0 0 [.ref ((ad 0) 0)] (fl [wXo G.2.1 (ad 0) (xF ad) (.ref (b 0)) K, wSh G.2.1 (ad 1) S, wHo G.2.1 (ad 3) cu ct hs, wSh G.2.1 b P]) (fun r9 w1 => r9 = S'.1 0 ∧ w1 = fl [wXo G.2.1 (ad 0) (xF ad) (.ref (b 0)) K, wSh G.2.1 (ad 1) S', wHo G.2.1 (ad 3) cu 0 hs, wSh G.2.1 b P]) := by
  refine CXH.of g (by decide) rfl (Nat.le_of_ble_eq_true rfl) (List.mem_of_getElem? (i := 1500) (by decide +kernel)) (by rfl) ?_
  intro p l e s m below meth cm A ls hst htab F hr hlocks w hl
  generalize ([.ref ((ad 0) 0)] : List Value).toArray = args
  have hl : lv_has ls 2 [(0, .ref ((ad 0) 0))] := hl
  have w : Wd G A s.heap (fl [wXo G.2.1 (ad 0) (xF ad) (.ref (b 0)) K, wSh G.2.1 (ad 1) S, wHo G.2.1 (ad 3) cu ct hs, wSh G.2.1 b P]) _ _ := w
  refine lv_aload_n F.x F.b dL_restore_0 rfl (lv_at hl 0 rfl) ?_
  refine kXi F w hst (LC := [wXo G.2.1 (ad 0) (xF ad) (.ref (b 0)) K, wSh G.2.1 (ad 1) S, wHo G.2.1 (ad 3) cu ct hs, wSh G.2.1 b P]) (LR := []) (As := []) (rest := []) (k_restore_ok F.1 hcp) m_X6_restore v_X6_restore q1501 (ci := 10) (q0 := 0) rfl rfl rfl 4 [0, 1, 2, 3] rfl rfl rfl ⟨Nat.le_of_ble_eq_true rfl, Nat.le_of_ble_eq_true rfl⟩ rfl hl.1 rfl (Nat.le_of_ble_eq_true rfl) dL_restore_1 ⟨Nat.le_of_ble_eq_true rfl, Nat.le_of_ble_eq_true rfl⟩ (fun _ _ _ _ _ _ hx => False.elim hx) (fun r9 w1 H locs h9 w => ?_)
  rw [show fl ([] : List va_W) = [] from rfl, List.append_nil] at w
  exact eiX F w hr hlocks rfl h9 (Nat.le_of_ble_eq_true rfl) (Nat.le_of_ble_eq_true rfl) dL_restore_4
set_option maxRecDepth 100000 in
set_option maxHeartbeats 4000000 in
theorem l_execute_no {G : cG} (g : GOK G) (gM : MG G) (hNC : NcG G) {ad : Nat → Nat → Nat} {svx : Value} {ks kv : Nat → Nat} {K S S' C C1 C' : Mem} {cu ct : Nat} {hs : hS} {mm ii : Nat} (hSG : SG G ks kv) (hm : mm ≤ 60) (k1 : cu < 9) (hcp : ∀ P0, ∃ P, f_X4_copyFrom P0 S = some P) (hq : f_X1_countCommands C = some (nI mm, C1)) (hi : ii < mm) (hp : f_X6_performFirst K S C1 (nI mm) = some (nI ii, S', C')) (hbk : ∀ P, CpS S P → ∃ S'', f_X4_copyFrom S' P = some S'') : CXH G yL_execute cL_execute 2 [(0, 4, 5, 22), (0, 4, 9, 26)] 8 176 15 167 [.ref ((ad 0) 0)] (fl [wXo G.2.1 (ad 0) (xF ad) svx K, wSh G.2.1 (ad 1) S, wTe G.2.1 (ad 4) C, wHo G.2.1 (ad 3) cu ct hs, hsL G.2.1 hs]) (fun r9 w1 => r9 = (-76) ∧ ∃ (b : Nat → Nat) (P S'' : Mem), CpS S P ∧ f_X4_copyFrom S' P = some S'' ∧ w1 = fl [wXo G.2.1 (ad 0) (xF ad) svx (wrI K 1 (nI ii)), wSh G.2.1 (ad 1) S'', wTe G.2.1 (ad 4) (wrI C' 0 0), wHo G.2.1 (ad 3) cu ct (hput hs cu (b, P)), hsL G.2.1 (hput hs cu (b, P))]) := by
  refine CXH.of g (by decide) rfl (Nat.le_of_ble_eq_true rfl) (List.mem_of_getElem? (i := 1048) (by decide +kernel)) (by rfl) ?_
  intro p l e s m below meth cm A ls hst htab F hr hlocks w hl
  generalize ([.ref ((ad 0) 0)] : List Value).toArray = args
  have hl : lv_has ls 2 [(0, .ref ((ad 0) 0))] := hl
  have w : Wd G A s.heap (fl [wXo G.2.1 (ad 0) (xF ad) svx K, wSh G.2.1 (ad 1) S, wTe G.2.1 (ad 4) C, wHo G.2.1 (ad 3) cu ct hs, hsL G.2.1 hs]) _ _ := w
  refine lv_aload_n F.x F.b dL_execute_0 rfl (lv_at hl 0 rfl) ?_
  refine kXi F w hst (LC := [wXo G.2.1 (ad 0) (xF ad) svx K, wSh G.2.1 (ad 1) S, wTe G.2.1 (ad 4) C, wHo G.2.1 (ad 3) cu ct hs, hsL G.2.1 hs]) (LR := []) (As := []) (rest := []) (k_execute_no F.1 gM hSG hm k1 hcp hq hi hp hbk) m_X6_execute v_X6_execute q1049 (ci := 10) (q0 := 0) rfl rfl rfl 5 [0, 1, 2, 3, 4] rfl rfl rfl ⟨Nat.le_of_ble_eq_true rfl, Nat.le_of_ble_eq_true rfl⟩ rfl hl.1 rfl (Nat.le_of_ble_eq_true rfl) dL_execute_1 ⟨Nat.le_of_ble_eq_true rfl, Nat.le_of_ble_eq_true rfl⟩ (fun E9 w1 ce q H locs hx w hce hcv hcl => ?_) (fun r9 w1 H locs h9 w => ?_)
  · obtain ⟨rfl, hx⟩ := hx
    rw [show fl ([] : List va_W) = [] from rfl, List.append_nil] at w
    refine vx_catch F.o (name := eUOE) (tableOf [(0, 4, 5, 22)]) ⟨0, 4, 9, 26⟩ (tableOf []) htab (pass_cons F hNC (by decide) (T := eIAE) (List.mem_of_getElem? (i := 521) (by decide +kernel)) (by decide +kernel : eUOE ∈ allE) (by decide +kernel : eIAE ∈ allE) (by decide +kernel) pass_nil) rfl (by decide) (F.t _ (List.mem_of_getElem? (i := 611) (by decide +kernel)) rfl _) (F.t _ (List.mem_of_getElem? (i := 670) (by decide +kernel)) rfl _) hce hcv hcl ?_
    refine lv_astore_n (lv' := [(1, .ref q), (0, .ref ((ad 0) 0))]) F.x F.b dL_execute_9 rfl hl (by decide) rfl (fun ls hl => ?_)
    refine lv_bipush (v := (-76)) F.x F.b dL_execute_10 (by decide) ?_
    exact eiX F w hr hlocks rfl ⟨rfl, hx⟩ (Nat.le_of_ble_eq_true rfl) (Nat.le_of_ble_eq_true rfl) dL_execute_12
  · exact False.elim h9
set_option maxRecDepth 100000 in
set_option maxHeartbeats 4000000 in
theorem l_execute_ok {G : cG} (g : GOK G) {ad : Nat → Nat → Nat} {svx : Value} {ks kv : Nat → Nat} {K S S' C C1 C' : Mem} {cu ct : Nat} {hs : hS} {mm : Nat} (hSG : SG G ks kv) (hm : mm ≤ 60) (k1 : cu < 9) (hcp : ∀ P0, ∃ P, f_X4_copyFrom P0 S = some P) (hq : f_X1_countCommands C = some (nI mm, C1)) (k2 : ct ≤ 8) (hp : f_X6_performFirst K S C1 (nI mm) = some (nI mm, S', C')) : CXH G yL_execute cL_execute 2 [(0, 4, 5, 22), (0, 4, 9, 26)] 8 176 14 161 [.ref ((ad 0) 0)] (fl [wXo G.2.1 (ad 0) (xF ad) svx K, wSh G.2.1 (ad 1) S, wTe G.2.1 (ad 4) C, wHo G.2.1 (ad 3) cu ct hs, hsL G.2.1 hs]) (fun r9 w1 => r9 = nI mm ∧ ∃ (b : Nat → Nat) (P : Mem), CpS S P ∧ w1 = fl [wXo G.2.1 (ad 0) (xF ad) svx K, wSh G.2.1 (ad 1) S', wTe G.2.1 (ad 4) (wrI C' 0 0), wHo G.2.1 (ad 3) (nxt cu) (cap ct) (hput hs cu (b, P)), hsL G.2.1 (hput hs cu (b, P))]) := by
  refine CXH.of g (by decide) rfl (Nat.le_of_ble_eq_true rfl) (List.mem_of_getElem? (i := 1048) (by decide +kernel)) (by rfl) ?_
  intro p l e s m below meth cm A ls hst htab F hr hlocks w hl
  generalize ([.ref ((ad 0) 0)] : List Value).toArray = args
  have hl : lv_has ls 2 [(0, .ref ((ad 0) 0))] := hl
  have w : Wd G A s.heap (fl [wXo G.2.1 (ad 0) (xF ad) svx K, wSh G.2.1 (ad 1) S, wTe G.2.1 (ad 4) C, wHo G.2.1 (ad 3) cu ct hs, hsL G.2.1 hs]) _ _ := w
  refine lv_aload_n F.x F.b dL_execute_0 rfl (lv_at hl 0 rfl) ?_
  refine kXi F w hst (LC := [wXo G.2.1 (ad 0) (xF ad) svx K, wSh G.2.1 (ad 1) S, wTe G.2.1 (ad 4) C, wHo G.2.1 (ad 3) cu ct hs, hsL G.2.1 hs]) (LR := []) (As := []) (rest := []) (k_execute_ok F.1 hSG hm k1 hcp hq k2 hp) m_X6_execute v_X6_execute q1049 (ci := 10) (q0 := 0) rfl rfl rfl 5 [0, 1, 2, 3, 4] rfl rfl rfl ⟨Nat.le_of_ble_eq_true rfl, Nat.le_of_ble_eq_true rfl⟩ rfl hl.1 rfl (Nat.le_of_ble_eq_true rfl) dL_execute_1 ⟨Nat.le_of_ble_eq_true rfl, Nat.le_of_ble_eq_true rfl⟩ (fun _ _ _ _ _ _ hx => False.elim hx) (fun r9 w1 H locs h9 w => ?_)
  rw [show fl ([] : List va_W) = [] from rfl, List.append_nil] at w
  exact eiX F w hr hlocks rfl h9 (Nat.le_of_ble_eq_true rfl) (Nat.le_of_ble_eq_true rfl) dL_execute_4
set_option maxRecDepth 100000 in
set_option maxHeartbeats 4000000 in
theorem l_writeLot_ok {G : cG} (g : GOK G) {ks kv : Nat → Nat} (hSG : SG G ks kv) (pv : PV G) {d1 d2 : Nat} (hD : DGs G d1 d2) {ad : Nat → Nat → Nat} {svx : Value} {K S : Mem} {x1 : Int32} {pp k v1 v2 b : Nat} {z : Int32} {ou : oB} {L0 : List Nat} (hP : LotP S x1 pp k v1 v2 b z) (hT : Tx ou L0) : CXH G yL_writeLot cL_writeLot 3 [(0, 5, 6, 32)] 7 171 0 0 [.ref ((ad 0) 0), .int x1] (fl [wXo G.2.1 (ad 0) (xF ad) svx K, wSh G.2.1 (ad 1) S, wSb G.2.1 (ad 5) ou]) (fun r9 w1 => ∃ ou9 : oB, r9 = nI (lotTx k v1 v2 b (S.2 5 pp) (S.2 6 pp) z).length ∧ Tx ou9 (lotTx k v1 v2 b (S.2 5 pp) (S.2 6 pp) z) ∧ w1 = fl [wXo G.2.1 (ad 0) (xF ad) svx K, wSh G.2.1 (ad 1) S, wSb G.2.1 (ad 5) ou9]) := by
  refine CXH.of g (by decide) rfl (Nat.le_of_ble_eq_true rfl) (List.mem_of_getElem? (i := 1178) (by decide +kernel)) (by rfl) ?_
  intro p l e s m below meth cm A ls hst htab F hr hlocks w hl
  generalize ([.ref ((ad 0) 0), .int x1] : List Value).toArray = args
  have hl : lv_has ls 3 [(0, .ref ((ad 0) 0)), (1, .int x1)] := hl
  have w : Wd G A s.heap (fl [wXo G.2.1 (ad 0) (xF ad) svx K, wSh G.2.1 (ad 1) S, wSb G.2.1 (ad 5) ou]) _ _ := w
  refine lv_aload_n F.x F.b dL_writeLot_0 rfl (lv_at hl 0 rfl) ?_
  refine lv_iload_n F.x F.b dL_writeLot_1 rfl (lv_at hl 1 rfl) ?_
  refine kXi F w hst (LC := [wXo G.2.1 (ad 0) (xF ad) svx K, wSh G.2.1 (ad 1) S, wSb G.2.1 (ad 5) ou]) (LR := []) (As := [.int x1]) (rest := []) (k_writeLot_ok F.1 hSG pv hD hP hT) m_X6_writeLot v_X6_writeLot q1179 (ci := 10) (q0 := 0) rfl rfl rfl 3 [0, 1, 2] rfl rfl rfl ⟨Nat.le_of_ble_eq_true rfl, Nat.le_of_ble_eq_true rfl⟩ rfl hl.1 rfl (Nat.le_of_ble_eq_true rfl) dL_writeLot_2 ⟨Nat.le_of_ble_eq_true rfl, Nat.le_of_ble_eq_true rfl⟩ (fun _ _ _ _ _ _ hx => False.elim hx) (fun r9 w1 H locs h9 w => ?_)
  rw [show fl ([] : List va_W) = [] from rfl, List.append_nil] at w
  exact eiX F w hr hlocks rfl h9 (Nat.le_of_ble_eq_true rfl) (Nat.le_of_ble_eq_true rfl) dL_writeLot_5
set_option maxRecDepth 100000 in
set_option maxHeartbeats 4000000 in
theorem l_outputCharacter_ok {G : cG} (g : GOK G) {ks kv : Nat → Nat} (hSG : SG G ks kv) {ad : Nat → Nat → Nat} {svx : Value} {K : Mem} {i ch : Nat} {ou : oB} {L : List Nat} (hT : Tx ou L) (hLi : L[i]? = some ch) : CXH G yL_outputCharacter cL_outputCharacter 3 [(0, 5, 6, 20)] 5 109 0 0 [.ref ((ad 0) 0), .int (nI i)] (fl [wXo G.2.1 (ad 0) (xF ad) svx K, wSb G.2.1 (ad 5) ou]) (fun r9 w1 => r9 = nI ch ∧ w1 = fl [wXo G.2.1 (ad 0) (xF ad) svx K, wSb G.2.1 (ad 5) ou]) := by
  refine CXH.of g (by decide) rfl (Nat.le_of_ble_eq_true rfl) (List.mem_of_getElem? (i := 1253) (by decide +kernel)) (by rfl) ?_
  intro p l e s m below meth cm A ls hst htab F hr hlocks w hl
  generalize ([.ref ((ad 0) 0), .int (nI i)] : List Value).toArray = args
  have hl : lv_has ls 3 [(0, .ref ((ad 0) 0)), (1, .int (nI i))] := hl
  have w : Wd G A s.heap (fl [wXo G.2.1 (ad 0) (xF ad) svx K, wSb G.2.1 (ad 5) ou]) _ _ := w
  refine lv_aload_n F.x F.b dL_outputCharacter_0 rfl (lv_at hl 0 rfl) ?_
  refine lv_iload_n F.x F.b dL_outputCharacter_1 rfl (lv_at hl 1 rfl) ?_
  refine kXi F w hst (LC := [wXo G.2.1 (ad 0) (xF ad) svx K, wSb G.2.1 (ad 5) ou]) (LR := []) (As := [.int (nI i)]) (rest := []) (k_outputCharacter_ok F.1 hSG hT hLi) m_X6_outputCharacter v_X6_outputCharacter q1254 (ci := 10) (q0 := 0) rfl rfl rfl 2 [0, 1] rfl rfl rfl ⟨Nat.le_of_ble_eq_true rfl, Nat.le_of_ble_eq_true rfl⟩ rfl hl.1 rfl (Nat.le_of_ble_eq_true rfl) dL_outputCharacter_2 ⟨Nat.le_of_ble_eq_true rfl, Nat.le_of_ble_eq_true rfl⟩ (fun _ _ _ _ _ _ hx => False.elim hx) (fun r9 w1 H locs h9 w => ?_)
  rw [show fl ([] : List va_W) = [] from rfl, List.append_nil] at w
  exact eiX F w hr hlocks rfl h9 (Nat.le_of_ble_eq_true rfl) (Nat.le_of_ble_eq_true rfl) dL_outputCharacter_5
set_option maxRecDepth 100000 in
set_option maxHeartbeats 4000000 in
theorem l_meanValue_no {G : cG} (g : GOK G) (gM : MG G) (hNC : NcG G) {ad : Nat → Nat → Nat} {svx : Value} {K S : Mem} {c : Nat} (hc : S.1 0 = nI c) (hc16 : c ≤ 16) (h0 : c = 0) : CXHd G yL_meanValue cL_meanValue 2 [(0, 4, 5, 130)] 7 103 1 6 [.ref ((ad 0) 0)] (fl [wXo G.2.1 (ad 0) (xF ad) svx K, wSh G.2.1 (ad 1) S]) (fun r9 w1 => r9 = m74d ∧ w1 = fl [wXo G.2.1 (ad 0) (xF ad) svx K, wSh G.2.1 (ad 1) S]) := by
  refine CXHd.of g (by decide) rfl (Nat.le_of_ble_eq_true rfl) (List.mem_of_getElem? (i := 1425) (by decide +kernel)) (by rfl) ?_
  intro p l e s m below meth cm A ls hst htab F hr hlocks w hl
  generalize ([.ref ((ad 0) 0)] : List Value).toArray = args
  have hl : lv_has ls 2 [(0, .ref ((ad 0) 0))] := hl
  have w : Wd G A s.heap (fl [wXo G.2.1 (ad 0) (xF ad) svx K, wSh G.2.1 (ad 1) S]) _ _ := w
  refine lv_aload_n F.x F.b dL_meanValue_0 rfl (lv_at hl 0 rfl) ?_
  refine kXd F w hst (LC := [wXo G.2.1 (ad 0) (xF ad) svx K, wSh G.2.1 (ad 1) S]) (LR := []) (As := []) (rest := []) (k_meanValue_no F.1 gM hc hc16 h0) m_X6_meanValue v_X6_meanValue q1440 (ci := 10) (q0 := 0) rfl rfl rfl 2 [0, 1] rfl rfl rfl ⟨Nat.le_of_ble_eq_true rfl, Nat.le_of_ble_eq_true rfl⟩ rfl hl.1 rfl (Nat.le_of_ble_eq_true rfl) dL_meanValue_1 ⟨Nat.le_of_ble_eq_true rfl, Nat.le_of_ble_eq_true rfl⟩ (fun E9 w1 ce q H locs hx w hce hcv hcl => ?_) (fun r9 w1 H locs h9 w => ?_)
  · obtain ⟨rfl, hx⟩ := hx
    rw [show fl ([] : List va_W) = [] from rfl, List.append_nil] at w
    refine vx_catch F.o (name := eARE) (tableOf []) ⟨0, 4, 5, 130⟩ (tableOf []) htab pass_nil rfl (by decide) (F.t _ (List.mem_of_getElem? (i := 1426) (by decide +kernel)) rfl _) (F.t _ (List.mem_of_getElem? (i := 1438) (by decide +kernel)) rfl _) hce hcv hcl ?_
    refine lv_astore_n (lv' := [(1, .ref q), (0, .ref ((ad 0) 0))]) F.x F.b dL_meanValue_5 rfl hl (by decide) rfl (fun ls hl => ?_)
    refine lv_ldc2d F.x F.b (v := 13858279740860792832) F.o (F.t _ (List.mem_of_getElem? (i := 1451) (by decide +kernel)) rfl _) dL_meanValue_6 ?_
    exact edX F w hr hlocks ⟨rfl, hx⟩ (Nat.le_of_ble_eq_true rfl) (Nat.le_of_ble_eq_true rfl) dL_meanValue_9
  · exact False.elim h9
set_option maxRecDepth 100000 in
set_option maxHeartbeats 4000000 in
theorem l_meanValue_ok {G : cG} (g : GOK G) {ad : Nat → Nat → Nat} {svx : Value} {K S : Mem} {c : Nat} {v : Nat → Int32} (hc : S.1 0 = nI c) (hc16 : c ≤ 16) (h0 : c ≠ 0) (hsum : f_X3_sumOfValues S = some (sI v c)) : CXHd G yL_meanValue cL_meanValue 2 [(0, 4, 5, 130)] 3 64 0 0 [.ref ((ad 0) 0)] (fl [wXo G.2.1 (ad 0) (xF ad) svx K, wSh G.2.1 (ad 1) S]) (fun d w1 => d = mnD v c ∧ w1 = (fl [wXo G.2.1 (ad 0) (xF ad) svx K, wSh G.2.1 (ad 1) S])) := by
  refine CXHd.of g (by decide) rfl (Nat.le_of_ble_eq_true rfl) (List.mem_of_getElem? (i := 1425) (by decide +kernel)) (by rfl) ?_
  intro p l e s m below meth cm A ls hst htab F hr hlocks w hl
  generalize ([.ref ((ad 0) 0)] : List Value).toArray = args
  have hl : lv_has ls 2 [(0, .ref ((ad 0) 0))] := hl
  have w : Wd G A s.heap (fl [wXo G.2.1 (ad 0) (xF ad) svx K, wSh G.2.1 (ad 1) S]) _ _ := w
  refine lv_aload_n F.x F.b dL_meanValue_0 rfl (lv_at hl 0 rfl) ?_
  refine kXd F w hst (LC := [wXo G.2.1 (ad 0) (xF ad) svx K, wSh G.2.1 (ad 1) S]) (LR := []) (As := []) (rest := []) (k_meanValue_ok F.1 hc hc16 h0 hsum) m_X6_meanValue v_X6_meanValue q1440 (ci := 10) (q0 := 0) rfl rfl rfl 2 [0, 1] rfl rfl rfl ⟨Nat.le_of_ble_eq_true rfl, Nat.le_of_ble_eq_true rfl⟩ rfl hl.1 rfl (Nat.le_of_ble_eq_true rfl) dL_meanValue_1 ⟨Nat.le_of_ble_eq_true rfl, Nat.le_of_ble_eq_true rfl⟩ (fun _ _ _ _ _ _ hx => False.elim hx) (fun r9 w1 H locs h9 w => ?_)
  rw [show fl ([] : List va_W) = [] from rfl, List.append_nil] at w
  exact edX F w hr hlocks h9 (Nat.le_of_ble_eq_true rfl) (Nat.le_of_ble_eq_true rfl) dL_meanValue_4
set_option maxRecDepth 100000 in
set_option maxHeartbeats 4000000 in
theorem l_sealedFraction_no {G : cG} (g : GOK G) (gM : MG G) (hNC : NcG G) {ad : Nat → Nat → Nat} {svx : Value} {K S : Mem} {c : Nat} (hc : S.1 0 = nI c) (hc16 : c ≤ 16) (h0 : c = 0) : CXHf G yL_sealedFraction cL_sealedFraction 2 [(0, 4, 5, 130)] 7 103 1 6 [.ref ((ad 0) 0)] (fl [wXo G.2.1 (ad 0) (xF ad) svx K, wSh G.2.1 (ad 1) S]) (fun r9 w1 => r9 = m74f ∧ w1 = fl [wXo G.2.1 (ad 0) (xF ad) svx K, wSh G.2.1 (ad 1) S]) := by
  refine CXHf.of g (by decide) rfl (Nat.le_of_ble_eq_true rfl) (List.mem_of_getElem? (i := 1454) (by decide +kernel)) (by rfl) ?_
  intro p l e s m below meth cm A ls hst htab F hr hlocks w hl
  generalize ([.ref ((ad 0) 0)] : List Value).toArray = args
  have hl : lv_has ls 2 [(0, .ref ((ad 0) 0))] := hl
  have w : Wd G A s.heap (fl [wXo G.2.1 (ad 0) (xF ad) svx K, wSh G.2.1 (ad 1) S]) _ _ := w
  refine lv_aload_n F.x F.b dL_sealedFraction_0 rfl (lv_at hl 0 rfl) ?_
  refine kXf F w hst (LC := [wXo G.2.1 (ad 0) (xF ad) svx K, wSh G.2.1 (ad 1) S]) (LR := []) (As := []) (rest := []) (k_sealedFraction_no F.1 gM hc hc16 h0) m_X6_sealedFraction v_X6_sealedFraction q1455 (ci := 10) (q0 := 0) rfl rfl rfl 2 [0, 1] rfl rfl rfl ⟨Nat.le_of_ble_eq_true rfl, Nat.le_of_ble_eq_true rfl⟩ rfl hl.1 rfl (Nat.le_of_ble_eq_true rfl) dL_sealedFraction_1 ⟨Nat.le_of_ble_eq_true rfl, Nat.le_of_ble_eq_true rfl⟩ (fun E9 w1 ce q H locs hx w hce hcv hcl => ?_) (fun r9 w1 H locs h9 w => ?_)
  · obtain ⟨rfl, hx⟩ := hx
    rw [show fl ([] : List va_W) = [] from rfl, List.append_nil] at w
    refine vx_catch F.o (name := eARE) (tableOf []) ⟨0, 4, 5, 130⟩ (tableOf []) htab pass_nil rfl (by decide) (F.t _ (List.mem_of_getElem? (i := 1426) (by decide +kernel)) rfl _) (F.t _ (List.mem_of_getElem? (i := 1438) (by decide +kernel)) rfl _) hce hcv hcl ?_
    refine lv_astore_n (lv' := [(1, .ref q), (0, .ref ((ad 0) 0))]) F.x F.b dL_sealedFraction_5 rfl hl (by decide) rfl (fun ls hl => ?_)
    refine lv_ldcf F.x F.b (v := 3264479232) F.o (F.t _ (List.mem_of_getElem? (i := 1460) (by decide +kernel)) rfl _) dL_sealedFraction_6 ?_
    exact efX F w hr hlocks ⟨rfl, hx⟩ (Nat.le_of_ble_eq_true rfl) (Nat.le_of_ble_eq_true rfl) dL_sealedFraction_8
  · exact False.elim h9
set_option maxRecDepth 100000 in
set_option maxHeartbeats 4000000 in
theorem l_sealedFraction_ok {G : cG} (g : GOK G) {ad : Nat → Nat → Nat} {svx : Value} {K S : Mem} {c : Nat} {v : Nat → Int32} (hc : S.1 0 = nI c) (hc16 : c ≤ 16) (h0 : c ≠ 0) (hsum : f_X3_countSealed S = some (sI v c)) : CXHf G yL_sealedFraction cL_sealedFraction 2 [(0, 4, 5, 130)] 3 64 0 0 [.ref ((ad 0) 0)] (fl [wXo G.2.1 (ad 0) (xF ad) svx K, wSh G.2.1 (ad 1) S]) (fun d w1 => d = frF v c ∧ w1 = (fl [wXo G.2.1 (ad 0) (xF ad) svx K, wSh G.2.1 (ad 1) S])) := by
  refine CXHf.of g (by decide) rfl (Nat.le_of_ble_eq_true rfl) (List.mem_of_getElem? (i := 1454) (by decide +kernel)) (by rfl) ?_
  intro p l e s m below meth cm A ls hst htab F hr hlocks w hl
  generalize ([.ref ((ad 0) 0)] : List Value).toArray = args
  have hl : lv_has ls 2 [(0, .ref ((ad 0) 0))] := hl
  have w : Wd G A s.heap (fl [wXo G.2.1 (ad 0) (xF ad) svx K, wSh G.2.1 (ad 1) S]) _ _ := w
  refine lv_aload_n F.x F.b dL_sealedFraction_0 rfl (lv_at hl 0 rfl) ?_
  refine kXf F w hst (LC := [wXo G.2.1 (ad 0) (xF ad) svx K, wSh G.2.1 (ad 1) S]) (LR := []) (As := []) (rest := []) (k_sealedFraction_ok F.1 hc hc16 h0 hsum) m_X6_sealedFraction v_X6_sealedFraction q1455 (ci := 10) (q0 := 0) rfl rfl rfl 2 [0, 1] rfl rfl rfl ⟨Nat.le_of_ble_eq_true rfl, Nat.le_of_ble_eq_true rfl⟩ rfl hl.1 rfl (Nat.le_of_ble_eq_true rfl) dL_sealedFraction_1 ⟨Nat.le_of_ble_eq_true rfl, Nat.le_of_ble_eq_true rfl⟩ (fun _ _ _ _ _ _ hx => False.elim hx) (fun r9 w1 H locs h9 w => ?_)
  rw [show fl ([] : List va_W) = [] from rfl, List.append_nil] at w
  exact efX F w hr hlocks h9 (Nat.le_of_ble_eq_true rfl) (Nat.le_of_ble_eq_true rfl) dL_sealedFraction_4

/-! printed by wip/p61/tools/gen99r.py: a malformed text -/
theorem q206 : Cond.fieldLinkNest RX6 299 "CustomsShed$CommandText" "cursor" "I" "CustomsShed" ∈ lw_tbl := List.mem_of_getElem? (i := 206) (by decide +kernel)
set_option maxRecDepth 100000 in
set_option maxHeartbeats 4000000 in
theorem k_execute_mal {G : cG} (g : GOK G) (gM : MG G) {ad : Nat → Nat → Nat} {svx : Value} {ks kv : Nat → Nat} {K S C C' : Mem} {cu ct : Nat} {hs : hS} (hSG : SG G ks kv) (hq : f_X1_countCommands C = some (-1, C')) : CX G yX6_execute cX6_execute 3 .int 7 153 1 6 [.ref ((ad 0) 0)] (fl [wXo G.2.1 (ad 0) (xF ad) svx K, wSh G.2.1 (ad 1) S, wTe G.2.1 (ad 4) C, wHo G.2.1 (ad 3) cu ct hs, hsL G.2.1 hs]) (fun _ _ => False) (fun E' w1 => E' = eIAE ∧ w1 = fl [wXo G.2.1 (ad 0) (xF ad) svx (wrI K 0 (C'.1 1)), wSh G.2.1 (ad 1) S, wTe G.2.1 (ad 4) (wrI C' 0 0), wHo G.2.1 (ad 3) cu ct hs, hsL G.2.1 hs]) := by
  refine CX.of g (by decide) rfl (Nat.le_of_ble_eq_true rfl) ?_
  intro p l e s m below meth c A ls hst htab F hr hlocks w hl
  generalize ([.ref ((ad 0) 0)] : List Value).toArray = args
  have hl : lv_has ls 3 [(0, .ref ((ad 0) 0))] := hl
  have w : Wd G A s.heap (fl [wXo G.2.1 (ad 0) (xF ad) svx K, wSh G.2.1 (ad 1) S, wTe G.2.1 (ad 4) C, wHo G.2.1 (ad 3) cu ct hs, hsL G.2.1 hs]) _ _ := w
  refine lv_aload_n F.x F.b dX6_execute_0 rfl (lv_at hl 0 rfl) ?_
  refine rg F w cl6 0 rfl 3 (by decide) q263 rfl (v := .ref ((ad 4) 0)) rfl dX6_execute_1 ?_
  refine kXi F w hst (LC := [wTe G.2.1 (ad 4) C]) (LR := [wXo G.2.1 (ad 0) (xF ad) svx K, wSh G.2.1 (ad 1) S, wHo G.2.1 (ad 3) cu ct hs, hsL G.2.1 hs]) (As := []) (rest := []) (t_X1_countCommands F.1 hSG hq).toX m_X1_countCommands v_X1_countCommands q1053 (ci := 5) (q0 := 15) rfl rfl rfl 5 [2, 0, 1, 3, 4] rfl rfl rfl ⟨Nat.le_of_ble_eq_true rfl, Nat.le_of_ble_eq_true rfl⟩ rfl hl.1 rfl (Nat.le_of_ble_eq_true rfl) dX6_execute_4 ⟨Nat.le_of_ble_eq_true rfl, Nat.le_of_ble_eq_true rfl⟩ (fun _ _ _ _ _ _ hx => False.elim hx) (fun r9 w1 H locs h9 w => ?_)
  obtain ⟨rfl, h9⟩ := h9
  have w := w.jn (L1 := [wTe G.2.1 (ad 4) C']) (L' := [wXo G.2.1 (ad 0) (xF ad) svx K, wSh G.2.1 (ad 1) S, wTe G.2.1 (ad 4) C', wHo G.2.1 (ad 3) cu ct hs, hsL G.2.1 hs]) h9 5 [1, 2, 0, 3, 4] rfl rfl rfl
  have w : Wd G A s.heap (fl [wXo G.2.1 (ad 0) (xF ad) svx K, wSh G.2.1 (ad 1) S, wTe G.2.1 (ad 4) C', wHo G.2.1 (ad 3) cu ct hs, hsL G.2.1 hs]) _ _ := w
  refine lv_istore_n (lv' := [(1, .int (-1)), (0, .ref ((ad 0) 0))]) F.x F.b dX6_execute_7 rfl hl (by decide) rfl (fun ls hl => ?_)
  refine lv_iload_n F.x F.b dX6_execute_8 rfl (lv_at hl 0 rfl) ?_
  refine lv_if_ge (tgt := 41) F.x F.b dX6_execute_9 (by decide) (fun c9 => absurd c9 (by decide)) (fun _ => ?_)
  refine lv_aload_n F.x F.b dX6_execute_12 rfl (lv_at hl 1 rfl) ?_
  refine lv_aload_n F.x F.b dX6_execute_13 rfl (lv_at hl 1 rfl) ?_
  refine rg F w cl6 0 rfl 3 (by decide) q263 rfl (v := .ref ((ad 4) 0)) rfl dX6_execute_14 ?_
  refine rgN F w cl1 15 rfl 3 (by decide) q206 rfl (v := .int (C'.1 1)) rfl dX6_execute_17 ?_
  refine rp F w (ws' := fl [wXo G.2.1 (ad 0) (xF ad) svx (wrI K 0 (C'.1 1)), wSh G.2.1 (ad 1) S, wTe G.2.1 (ad 4) C', wHo G.2.1 (ad 3) cu ct hs, hsL G.2.1 hs]) cl6 0 rfl 8 (by decide) q268 rfl rfl rfl rfl (Nat.le_of_ble_eq_true rfl) rfl dX6_execute_20 (fun H locs w => ?_)
  refine lv_aload_n F.x F.b dX6_execute_23 rfl (lv_at hl 1 rfl) ?_
  refine rg F w cl6 0 rfl 3 (by decide) q263 rfl (v := .ref ((ad 4) 0)) rfl dX6_execute_24 ?_
  refine kXv F w hst (LC := [wTe G.2.1 (ad 4) C']) (LR := [wXo G.2.1 (ad 0) (xF ad) svx (wrI K 0 (C'.1 1)), wSh G.2.1 (ad 1) S, wHo G.2.1 (ad 3) cu ct hs, hsL G.2.1 hs]) (As := []) (rest := []) (t_X1_clear F.1 (C' := wrI C' 0 0) rfl).toX m_X1_clear v_X1_clear q1102 (ci := 5) (q0 := 15) rfl rfl rfl 5 [2, 0, 1, 3, 4] rfl rfl rfl ⟨Nat.le_of_ble_eq_true rfl, Nat.le_of_ble_eq_true rfl⟩ rfl hl.1 rfl (Nat.le_of_ble_eq_true rfl) dX6_execute_27 ⟨Nat.le_of_ble_eq_true rfl, Nat.le_of_ble_eq_true rfl⟩ (fun _ _ _ _ _ _ hx => False.elim hx) (fun w1 H locs h9 w => ?_)
  have w := w.jn (L1 := [wTe G.2.1 (ad 4) (wrI C' 0 0)]) (L' := [wXo G.2.1 (ad 0) (xF ad) svx (wrI K 0 (C'.1 1)), wSh G.2.1 (ad 1) S, wTe G.2.1 (ad 4) (wrI C' 0 0), wHo G.2.1 (ad 3) cu ct hs, hsL G.2.1 hs]) h9 5 [1, 2, 0, 3, 4] rfl rfl rfl
  have w : Wd G A s.heap (fl [wXo G.2.1 (ad 0) (xF ad) svx (wrI K 0 (C'.1 1)), wSh G.2.1 (ad 1) S, wTe G.2.1 (ad 4) (wrI C' 0 0), wHo G.2.1 (ad 3) cu ct hs, hsL G.2.1 hs]) _ _ := w
  exact wTSW F w gM hst htab hlocks hS_IAE (is := 305) (by decide +kernel : (305, "the text is malformed") ∈ msgs) ⟨rfl, rfl⟩ hl.1 dX6_execute_30 dX6_execute_33 dX6_execute_34 dX6_execute_37 dX6_execute_40 ⟨Nat.le_of_ble_eq_true rfl, Nat.le_of_ble_eq_true rfl, Nat.le_of_ble_eq_true rfl, Nat.le_of_ble_eq_true rfl⟩ ⟨Nat.le_of_ble_eq_true rfl, Nat.le_of_ble_eq_true rfl⟩
set_option maxRecDepth 100000 in
set_option maxHeartbeats 4000000 in
theorem l_execute_mal {G : cG} (g : GOK G) (gM : MG G) (hNC : NcG G) {ad : Nat → Nat → Nat} {svx : Value} {ks kv : Nat → Nat} {K S C C' : Mem} {cu ct : Nat} {hs : hS} (hSG : SG G ks kv) (hq : f_X1_countCommands C = some (-1, C')) : CXH G yL_execute cL_execute 2 [(0, 4, 5, 22), (0, 4, 9, 26)] 8 175 1 6 [.ref ((ad 0) 0)] (fl [wXo G.2.1 (ad 0) (xF ad) svx K, wSh G.2.1 (ad 1) S, wTe G.2.1 (ad 4) C, wHo G.2.1 (ad 3) cu ct hs, hsL G.2.1 hs]) (fun r9 w1 => r9 = (-78) ∧ w1 = fl [wXo G.2.1 (ad 0) (xF ad) svx (wrI K 0 (C'.1 1)), wSh G.2.1 (ad 1) S, wTe G.2.1 (ad 4) (wrI C' 0 0), wHo G.2.1 (ad 3) cu ct hs, hsL G.2.1 hs]) := by
  refine CXH.of g (by decide) rfl (Nat.le_of_ble_eq_true rfl) (List.mem_of_getElem? (i := 1048) (by decide +kernel)) (by rfl) ?_
  intro p l e s m below meth cm A ls hst htab F hr hlocks w hl
  generalize ([.ref ((ad 0) 0)] : List Value).toArray = args
  have hl : lv_has ls 2 [(0, .ref ((ad 0) 0))] := hl
  have w : Wd G A s.heap (fl [wXo G.2.1 (ad 0) (xF ad) svx K, wSh G.2.1 (ad 1) S, wTe G.2.1 (ad 4) C, wHo G.2.1 (ad 3) cu ct hs, hsL G.2.1 hs]) _ _ := w
  refine lv_aload_n F.x F.b dL_execute_0 rfl (lv_at hl 0 rfl) ?_
  refine kXi F w hst (LC := [wXo G.2.1 (ad 0) (xF ad) svx K, wSh G.2.1 (ad 1) S, wTe G.2.1 (ad 4) C, wHo G.2.1 (ad 3) cu ct hs, hsL G.2.1 hs]) (LR := []) (As := []) (rest := []) (k_execute_mal F.1 gM hSG hq) m_X6_execute v_X6_execute q1049 (ci := 10) (q0 := 0) rfl rfl rfl 5 [0, 1, 2, 3, 4] rfl rfl rfl ⟨Nat.le_of_ble_eq_true rfl, Nat.le_of_ble_eq_true rfl⟩ rfl hl.1 rfl (Nat.le_of_ble_eq_true rfl) dL_execute_1 ⟨Nat.le_of_ble_eq_true rfl, Nat.le_of_ble_eq_true rfl⟩ (fun E9 w1 ce q H locs hx w hce hcv hcl => ?_) (fun r9 w1 H locs h9 w => ?_)
  · obtain ⟨rfl, hx⟩ := hx
    rw [show fl ([] : List va_W) = [] from rfl, List.append_nil] at w
    refine vx_catch F.o (name := eIAE) (tableOf []) ⟨0, 4, 5, 22⟩ (tableOf [(0, 4, 9, 26)]) htab pass_nil rfl (by decide) (F.t _ (List.mem_of_getElem? (i := 521) (by decide +kernel)) rfl _) (F.t _ (List.mem_of_getElem? (i := 528) (by decide +kernel)) rfl _) hce hcv hcl ?_
    refine lv_astore_n (lv' := [(1, .ref q), (0, .ref ((ad 0) 0))]) F.x F.b dL_execute_5 rfl hl (by decide) rfl (fun ls hl => ?_)
    refine lv_bipush (v := (-78)) F.x F.b dL_execute_6 (by decide) ?_
    exact eiX F w hr hlocks rfl ⟨rfl, hx⟩ (Nat.le_of_ble_eq_true rfl) (Nat.le_of_ble_eq_true rfl) dL_execute_8
  · exact False.elim h9

/-! printed by wip/whole/tools/gen99d.py -/

set_option maxRecDepth 100000 in
set_option maxHeartbeats 4000000 in
theorem l_rate {G : cG} (g : GOK G) (gM : MG G) (hNC : NcG G) {ad : Nat → Nat → Nat} {fo : Nat} {f0 : Nat → Int64} {N : Nat} {K S Fc C D B : Mem} {cu ct : Nat} {hs : hS} {sv : sV} {ou : oB} {M : Mem} {x1 : Int32} (h : Top N K S C cu ct hs sv ou M) : CXH G yL_rate cL_rate 4 [(0, 9, 12, 13)] 41 1600 20 200 [.ref ((ad 0) 0), .int x1, .ref fo] (fl (wLaw G.2.1 ad K S Fc C D B cu ct hs sv ou [(fo, .inl (G.2.1 4, 1, .inr (.inl f0)))])) (LOK G ad fo N (f_X7_rate M x1)) := by
  refine CXH.of g (by decide) rfl (Nat.le_of_ble_eq_true rfl) (List.mem_of_getElem? (i := 1184) (by decide +kernel)) (by rfl) ?_
  intro p l e s m below meth c A ls hst htab F hr hlocks w hl
  generalize ([.ref ((ad 0) 0), .int x1, .ref fo] : List Value).toArray = args
  have hl : lv_has ls 4 [(0, .ref ((ad 0) 0)), (1, .int x1), (2, .ref fo)] := hl
  have w : Wd G A s.heap (fl [wXo G.2.1 (ad 0) (xF ad) (svV sv) K, wSh G.2.1 (ad 1) S, wSh G.2.1 (ad 2) Fc, wTe G.2.1 (ad 4) C, wSb G.2.1 (ad 5) ou, wAd G.2.1 (ad 6) D, wAb G.2.1 (ad 7) B, wHo G.2.1 (ad 3) cu ct hs, [(fo, .inl (G.2.1 4, 1, .inr (.inl f0)))], hsL G.2.1 hs, blk G.2.1 sv]) _ _ := w
  refine lv_aload_n F.x F.b dL_rate_0 rfl (lv_at hl 2 rfl) ?_
  refine lv_iconst (v := 0) F.x F.b dL_rate_1 (by decide) ?_
  refine lv_aload_n F.x F.b dL_rate_2 rfl (lv_at hl 0 rfl) ?_
  refine lv_iload_n F.x F.b dL_rate_3 rfl (lv_at hl 1 rfl) ?_
  refine kXi F w hst (LC := [wXo G.2.1 (ad 0) (xF ad) (svV sv) K, wSh G.2.1 (ad 1) S, wSh G.2.1 (ad 2) Fc, wTe G.2.1 (ad 4) C, wSb G.2.1 (ad 5) ou, wAd G.2.1 (ad 6) D, wAb G.2.1 (ad 7) B, wHo G.2.1 (ad 3) cu ct hs, hsL G.2.1 hs, blk G.2.1 sv]) (LR := [[(fo, .inl (G.2.1 4, 1, .inr (.inl f0)))]]) (As := [.int x1]) (rest := [.int 0, .ref fo]) (k_rate F.1 gM h) m_X6_rate v_X6_rate q1185 (ci := 10) (q0 := 0) rfl rfl rfl 11 [0, 1, 2, 3, 4, 5, 6, 7, 9, 10, 8] rfl rfl rfl ⟨Nat.le_of_ble_eq_true rfl, Nat.le_of_ble_eq_true rfl⟩ rfl hl.1 rfl (Nat.le_of_ble_eq_true rfl) dL_rate_4 ⟨Nat.le_of_ble_eq_true rfl, Nat.le_of_ble_eq_true rfl⟩ (fun E w1 ce q H locs hx w hce hcv hcl => ?_) (fun r9 w1 H locs h9 w => ?_)
  · obtain ⟨K1, S1, Fc1, C1, D1, B1, cu1, ct1, hs1, sv1, ou1, M1, b1, k1, h9, e2, e3, hm, e4⟩ := hx
    have w := w.jn (L1 := [wXo G.2.1 (ad 0) (xF ad) (svV sv1) K1, wSh G.2.1 (ad 1) S1, wSh G.2.1 (ad 2) Fc1, wTe G.2.1 (ad 4) C1, wSb G.2.1 (ad 5) ou1, wAd G.2.1 (ad 6) D1, wAb G.2.1 (ad 7) B1, wHo G.2.1 (ad 3) cu1 ct1 hs1, hsL G.2.1 hs1, blk G.2.1 sv1]) (L' := [wXo G.2.1 (ad 0) (xF ad) (svV sv1) K1, wSh G.2.1 (ad 1) S1, wSh G.2.1 (ad 2) Fc1, wTe G.2.1 (ad 4) C1, wSb G.2.1 (ad 5) ou1, wAd G.2.1 (ad 6) D1, wAb G.2.1 (ad 7) B1, wHo G.2.1 (ad 3) cu1 ct1 hs1, [(fo, .inl (G.2.1 4, 1, .inr (.inl f0)))], hsL G.2.1 hs1, blk G.2.1 sv1]) h9 11 [0, 1, 2, 3, 4, 5, 6, 7, 10, 8, 9] rfl rfl rfl
    simp only [List.mem_cons, List.not_mem_nil, or_false, Prod.mk.injEq] at hm
    obtain ⟨rfl, rfl⟩ := hm
    refine vx_catch F.o (name := eIOB) (tableOf []) ⟨0, 9, 12, 13⟩ (tableOf []) htab pass_nil rfl (by decide) (F.t _ (List.mem_of_getElem? (i := 866) (by decide +kernel)) rfl _) (F.t _ (List.mem_of_getElem? (i := 924) (by decide +kernel)) rfl _) hce hcv hcl ?_
    refine lv_astore_n (lv' := [(3, .ref q), (0, .ref ((ad 0) 0)), (1, .int x1), (2, .ref fo)]) F.x F.b dL_rate_12 rfl hl (by decide) rfl (fun ls hl => ?_)
    refine lv_iconst (v := 1) F.x F.b dL_rate_13 (by decide) ?_
    exact eiX F w hr hlocks rfl ⟨K1, S1, Fc1, C1, D1, B1, cu1, ct1, hs1, sv1, ou1, M1, b1, f0, rfl, e2, e3, e4, fun z => absurd z (by decide)⟩ (Nat.le_of_ble_eq_true rfl) (Nat.le_of_ble_eq_true rfl) dL_rate_14
  · obtain ⟨K1, S1, Fc1, C1, D1, B1, cu1, ct1, hs1, sv1, ou1, M1, h9, e2, e3, e4⟩ := h9
    have w := w.jn (L1 := [wXo G.2.1 (ad 0) (xF ad) (svV sv1) K1, wSh G.2.1 (ad 1) S1, wSh G.2.1 (ad 2) Fc1, wTe G.2.1 (ad 4) C1, wSb G.2.1 (ad 5) ou1, wAd G.2.1 (ad 6) D1, wAb G.2.1 (ad 7) B1, wHo G.2.1 (ad 3) cu1 ct1 hs1, hsL G.2.1 hs1, blk G.2.1 sv1]) (L' := [wXo G.2.1 (ad 0) (xF ad) (svV sv1) K1, wSh G.2.1 (ad 1) S1, wSh G.2.1 (ad 2) Fc1, wTe G.2.1 (ad 4) C1, wSb G.2.1 (ad 5) ou1, wAd G.2.1 (ad 6) D1, wAb G.2.1 (ad 7) B1, wHo G.2.1 (ad 3) cu1 ct1 hs1, [(fo, .inl (G.2.1 4, 1, .inr (.inl f0)))], hsL G.2.1 hs1, blk G.2.1 sv1]) h9 11 [0, 1, 2, 3, 4, 5, 6, 7, 10, 8, 9] rfl rfl rfl
    refine lv_i2l (v := (Int32.toInt64 r9)) F.x F.b dL_rate_7 rfl ?_
    refine rLs F w (ws' := fl [wXo G.2.1 (ad 0) (xF ad) (svV sv1) K1, wSh G.2.1 (ad 1) S1, wSh G.2.1 (ad 2) Fc1, wTe G.2.1 (ad 4) C1, wSb G.2.1 (ad 5) ou1, wAd G.2.1 (ad 6) D1, wAb G.2.1 (ad 7) B1, wHo G.2.1 (ad 3) cu1 ct1 hs1, [(fo, .inl (G.2.1 4, 1, .inr (.inl (vp_updL f0 (Int32.toNatClampNeg 0) (Int32.toInt64 r9)))))], hsL G.2.1 hs1, blk G.2.1 sv1]) 38 rfl (by decide) rfl dL_rate_8 (fun H locs w => ?_)
    refine lv_goto (tgt := 15) F.x F.b dL_rate_9 (by decide) ?_
    refine lv_iconst (v := 0) F.x F.b dL_rate_15 (by decide) ?_
    exact eiX F w hr hlocks rfl ⟨K1, S1, Fc1, C1, D1, B1, cu1, ct1, hs1, sv1, ou1, M1, r9, _, rfl, e2, e3, e4, fun _ => updL0 _ _⟩ (Nat.le_of_ble_eq_true rfl) (Nat.le_of_ble_eq_true rfl) dL_rate_16
set_option maxRecDepth 100000 in
set_option maxHeartbeats 4000000 in
theorem l_dutyOn {G : cG} (g : GOK G) (gM : MG G) (hNC : NcG G) {ad : Nat → Nat → Nat} {fo : Nat} {f0 : Nat → Int64} {N : Nat} {K S Fc C D B : Mem} {cu ct : Nat} {hs : hS} {sv : sV} {ou : oB} {M : Mem} {x1 : Int32} (h : Top N K S C cu ct hs sv ou M) : CXH G yL_dutyOn cL_dutyOn 4 [(0, 9, 12, 15)] 41 1600 20 200 [.ref ((ad 0) 0), .int x1, .ref fo] (fl (wLaw G.2.1 ad K S Fc C D B cu ct hs sv ou [(fo, .inl (G.2.1 4, 1, .inr (.inl f0)))])) (LOK G ad fo N (f_X7_dutyOn M x1)) := by
  refine CXH.of g (by decide) rfl (Nat.le_of_ble_eq_true rfl) (List.mem_of_getElem? (i := 1191) (by decide +kernel)) (by rfl) ?_
  intro p l e s m below meth c A ls hst htab F hr hlocks w hl
  generalize ([.ref ((ad 0) 0), .int x1, .ref fo] : List Value).toArray = args
  have hl : lv_has ls 4 [(0, .ref ((ad 0) 0)), (1, .int x1), (2, .ref fo)] := hl
  have w : Wd G A s.heap (fl [wXo G.2.1 (ad 0) (xF ad) (svV sv) K, wSh G.2.1 (ad 1) S, wSh G.2.1 (ad 2) Fc, wTe G.2.1 (ad 4) C, wSb G.2.1 (ad 5) ou, wAd G.2.1 (ad 6) D, wAb G.2.1 (ad 7) B, wHo G.2.1 (ad 3) cu ct hs, [(fo, .inl (G.2.1 4, 1, .inr (.inl f0)))], hsL G.2.1 hs, blk G.2.1 sv]) _ _ := w
  refine lv_aload_n F.x F.b dL_dutyOn_0 rfl (lv_at hl 2 rfl) ?_
  refine lv_iconst (v := 0) F.x F.b dL_dutyOn_1 (by decide) ?_
  refine lv_aload_n F.x F.b dL_dutyOn_2 rfl (lv_at hl 0 rfl) ?_
  refine lv_iload_n F.x F.b dL_dutyOn_3 rfl (lv_at hl 1 rfl) ?_
  refine kXi F w hst (LC := [wXo G.2.1 (ad 0) (xF ad) (svV sv) K, wSh G.2.1 (ad 1) S, wSh G.2.1 (ad 2) Fc, wTe G.2.1 (ad 4) C, wSb G.2.1 (ad 5) ou, wAd G.2.1 (ad 6) D, wAb G.2.1 (ad 7) B, wHo G.2.1 (ad 3) cu ct hs, hsL G.2.1 hs, blk G.2.1 sv]) (LR := [[(fo, .inl (G.2.1 4, 1, .inr (.inl f0)))]]) (As := [.int x1]) (rest := [.int 0, .ref fo]) (k_dutyOn F.1 gM h) m_X6_dutyOn v_X6_dutyOn q1192 (ci := 10) (q0 := 0) rfl rfl rfl 11 [0, 1, 2, 3, 4, 5, 6, 7, 9, 10, 8] rfl rfl rfl ⟨Nat.le_of_ble_eq_true rfl, Nat.le_of_ble_eq_true rfl⟩ rfl hl.1 rfl (Nat.le_of_ble_eq_true rfl) dL_dutyOn_4 ⟨Nat.le_of_ble_eq_true rfl, Nat.le_of_ble_eq_true rfl⟩ (fun E w1 ce q H locs hx w hce hcv hcl => ?_) (fun r9 w1 H locs h9 w => ?_)
  · obtain ⟨K1, S1, Fc1, C1, D1, B1, cu1, ct1, hs1, sv1, ou1, M1, b1, k1, h9, e2, e3, hm, e4⟩ := hx
    have w := w.jn (L1 := [wXo G.2.1 (ad 0) (xF ad) (svV sv1) K1, wSh G.2.1 (ad 1) S1, wSh G.2.1 (ad 2) Fc1, wTe G.2.1 (ad 4) C1, wSb G.2.1 (ad 5) ou1, wAd G.2.1 (ad 6) D1, wAb G.2.1 (ad 7) B1, wHo G.2.1 (ad 3) cu1 ct1 hs1, hsL G.2.1 hs1, blk G.2.1 sv1]) (L' := [wXo G.2.1 (ad 0) (xF ad) (svV sv1) K1, wSh G.2.1 (ad 1) S1, wSh G.2.1 (ad 2) Fc1, wTe G.2.1 (ad 4) C1, wSb G.2.1 (ad 5) ou1, wAd G.2.1 (ad 6) D1, wAb G.2.1 (ad 7) B1, wHo G.2.1 (ad 3) cu1 ct1 hs1, [(fo, .inl (G.2.1 4, 1, .inr (.inl f0)))], hsL G.2.1 hs1, blk G.2.1 sv1]) h9 11 [0, 1, 2, 3, 4, 5, 6, 7, 10, 8, 9] rfl rfl rfl
    simp only [List.mem_cons, List.not_mem_nil, or_false, Prod.mk.injEq] at hm
    obtain ⟨rfl, rfl⟩ := hm
    refine vx_catch F.o (name := eIAE) (tableOf []) ⟨0, 9, 12, 15⟩ (tableOf []) htab pass_nil rfl (by decide) (F.t _ (List.mem_of_getElem? (i := 869) (by decide +kernel)) rfl _) (F.t _ (List.mem_of_getElem? (i := 647) (by decide +kernel)) rfl _) hce hcv hcl ?_
    refine lv_astore_n (lv' := [(3, .ref q), (0, .ref ((ad 0) 0)), (1, .int x1), (2, .ref fo)]) F.x F.b dL_dutyOn_12 rfl hl (by decide) rfl (fun ls hl => ?_)
    refine lv_iconst (v := 1) F.x F.b dL_dutyOn_13 (by decide) ?_
    exact eiX F w hr hlocks rfl ⟨K1, S1, Fc1, C1, D1, B1, cu1, ct1, hs1, sv1, ou1, M1, b1, f0, rfl, e2, e3, e4, fun z => absurd z (by decide)⟩ (Nat.le_of_ble_eq_true rfl) (Nat.le_of_ble_eq_true rfl) dL_dutyOn_14
  · obtain ⟨K1, S1, Fc1, C1, D1, B1, cu1, ct1, hs1, sv1, ou1, M1, h9, e2, e3, e4⟩ := h9
    have w := w.jn (L1 := [wXo G.2.1 (ad 0) (xF ad) (svV sv1) K1, wSh G.2.1 (ad 1) S1, wSh G.2.1 (ad 2) Fc1, wTe G.2.1 (ad 4) C1, wSb G.2.1 (ad 5) ou1, wAd G.2.1 (ad 6) D1, wAb G.2.1 (ad 7) B1, wHo G.2.1 (ad 3) cu1 ct1 hs1, hsL G.2.1 hs1, blk G.2.1 sv1]) (L' := [wXo G.2.1 (ad 0) (xF ad) (svV sv1) K1, wSh G.2.1 (ad 1) S1, wSh G.2.1 (ad 2) Fc1, wTe G.2.1 (ad 4) C1, wSb G.2.1 (ad 5) ou1, wAd G.2.1 (ad 6) D1, wAb G.2.1 (ad 7) B1, wHo G.2.1 (ad 3) cu1 ct1 hs1, [(fo, .inl (G.2.1 4, 1, .inr (.inl f0)))], hsL G.2.1 hs1, blk G.2.1 sv1]) h9 11 [0, 1, 2, 3, 4, 5, 6, 7, 10, 8, 9] rfl rfl rfl
    refine lv_i2l (v := (Int32.toInt64 r9)) F.x F.b dL_dutyOn_7 rfl ?_
    refine rLs F w (ws' := fl [wXo G.2.1 (ad 0) (xF ad) (svV sv1) K1, wSh G.2.1 (ad 1) S1, wSh G.2.1 (ad 2) Fc1, wTe G.2.1 (ad 4) C1, wSb G.2.1 (ad 5) ou1, wAd G.2.1 (ad 6) D1, wAb G.2.1 (ad 7) B1, wHo G.2.1 (ad 3) cu1 ct1 hs1, [(fo, .inl (G.2.1 4, 1, .inr (.inl (vp_updL f0 (Int32.toNatClampNeg 0) (Int32.toInt64 r9)))))], hsL G.2.1 hs1, blk G.2.1 sv1]) 38 rfl (by decide) rfl dL_dutyOn_8 (fun H locs w => ?_)
    refine lv_goto (tgt := 15) F.x F.b dL_dutyOn_9 (by decide) ?_
    refine lv_iconst (v := 0) F.x F.b dL_dutyOn_15 (by decide) ?_
    exact eiX F w hr hlocks rfl ⟨K1, S1, Fc1, C1, D1, B1, cu1, ct1, hs1, sv1, ou1, M1, r9, _, rfl, e2, e3, e4, fun _ => updL0 _ _⟩ (Nat.le_of_ble_eq_true rfl) (Nat.le_of_ble_eq_true rfl) dL_dutyOn_16
set_option maxRecDepth 100000 in
set_option maxHeartbeats 4000000 in
theorem l_dutyOnByCoins {G : cG} (g : GOK G) (gM : MG G) (hNC : NcG G) {ad : Nat → Nat → Nat} {fo : Nat} {f0 : Nat → Int64} {N : Nat} {K S Fc C D B : Mem} {cu ct : Nat} {hs : hS} {sv : sV} {ou : oB} {M : Mem} {x1 : Int32} (h : Top N K S C cu ct hs sv ou M) : CXH G yL_dutyOnByCoins cL_dutyOnByCoins 4 [(0, 9, 12, 15)] 41 1600 20 200 [.ref ((ad 0) 0), .int x1, .ref fo] (fl (wLaw G.2.1 ad K S Fc C D B cu ct hs sv ou [(fo, .inl (G.2.1 4, 1, .inr (.inl f0)))])) (LOK G ad fo N (f_X7_dutyOnByCoins M x1)) := by
  refine CXH.of g (by decide) rfl (Nat.le_of_ble_eq_true rfl) (List.mem_of_getElem? (i := 1203) (by decide +kernel)) (by rfl) ?_
  intro p l e s m below meth c A ls hst htab F hr hlocks w hl
  generalize ([.ref ((ad 0) 0), .int x1, .ref fo] : List Value).toArray = args
  have hl : lv_has ls 4 [(0, .ref ((ad 0) 0)), (1, .int x1), (2, .ref fo)] := hl
  have w : Wd G A s.heap (fl [wXo G.2.1 (ad 0) (xF ad) (svV sv) K, wSh G.2.1 (ad 1) S, wSh G.2.1 (ad 2) Fc, wTe G.2.1 (ad 4) C, wSb G.2.1 (ad 5) ou, wAd G.2.1 (ad 6) D, wAb G.2.1 (ad 7) B, wHo G.2.1 (ad 3) cu ct hs, [(fo, .inl (G.2.1 4, 1, .inr (.inl f0)))], hsL G.2.1 hs, blk G.2.1 sv]) _ _ := w
  refine lv_aload_n F.x F.b dL_dutyOnByCoins_0 rfl (lv_at hl 2 rfl) ?_
  refine lv_iconst (v := 0) F.x F.b dL_dutyOnByCoins_1 (by decide) ?_
  refine lv_aload_n F.x F.b dL_dutyOnByCoins_2 rfl (lv_at hl 0 rfl) ?_
  refine lv_iload_n F.x F.b dL_dutyOnByCoins_3 rfl (lv_at hl 1 rfl) ?_
  refine kXi F w hst (LC := [wXo G.2.1 (ad 0) (xF ad) (svV sv) K, wSh G.2.1 (ad 1) S, wSh G.2.1 (ad 2) Fc, wTe G.2.1 (ad 4) C, wSb G.2.1 (ad 5) ou, wAd G.2.1 (ad 6) D, wAb G.2.1 (ad 7) B, wHo G.2.1 (ad 3) cu ct hs, hsL G.2.1 hs, blk G.2.1 sv]) (LR := [[(fo, .inl (G.2.1 4, 1, .inr (.inl f0)))]]) (As := [.int x1]) (rest := [.int 0, .ref fo]) (k_dutyOnByCoins F.1 gM h) m_X6_dutyOnByCoins v_X6_dutyOnByCoins q1204 (ci := 10) (q0 := 0) rfl rfl rfl 11 [0, 1, 2, 3, 4, 5, 6, 7, 9, 10, 8] rfl rfl rfl ⟨Nat.le_of_ble_eq_true rfl, Nat.le_of_ble_eq_true rfl⟩ rfl hl.1 rfl (Nat.le_of_ble_eq_true rfl) dL_dutyOnByCoins_4 ⟨Nat.le_of_ble_eq_true rfl, Nat.le_of_ble_eq_true rfl⟩ (fun E w1 ce q H locs hx w hce hcv hcl => ?_) (fun r9 w1 H locs h9 w => ?_)
  · obtain ⟨K1, S1, Fc1, C1, D1, B1, cu1, ct1, hs1, sv1, ou1, M1, b1, k1, h9, e2, e3, hm, e4⟩ := hx
    have w := w.jn (L1 := [wXo G.2.1 (ad 0) (xF ad) (svV sv1) K1, wSh G.2.1 (ad 1) S1, wSh G.2.1 (ad 2) Fc1, wTe G.2.1 (ad 4) C1, wSb G.2.1 (ad 5) ou1, wAd G.2.1 (ad 6) D1, wAb G.2.1 (ad 7) B1, wHo G.2.1 (ad 3) cu1 ct1 hs1, hsL G.2.1 hs1, blk G.2.1 sv1]) (L' := [wXo G.2.1 (ad 0) (xF ad) (svV sv1) K1, wSh G.2.1 (ad 1) S1, wSh G.2.1 (ad 2) Fc1, wTe G.2.1 (ad 4) C1, wSb G.2.1 (ad 5) ou1, wAd G.2.1 (ad 6) D1, wAb G.2.1 (ad 7) B1, wHo G.2.1 (ad 3) cu1 ct1 hs1, [(fo, .inl (G.2.1 4, 1, .inr (.inl f0)))], hsL G.2.1 hs1, blk G.2.1 sv1]) h9 11 [0, 1, 2, 3, 4, 5, 6, 7, 10, 8, 9] rfl rfl rfl
    simp only [List.mem_cons, List.not_mem_nil, or_false, Prod.mk.injEq] at hm
    obtain ⟨rfl, rfl⟩ := hm
    refine vx_catch F.o (name := eIAE) (tableOf []) ⟨0, 9, 12, 15⟩ (tableOf []) htab pass_nil rfl (by decide) (F.t _ (List.mem_of_getElem? (i := 869) (by decide +kernel)) rfl _) (F.t _ (List.mem_of_getElem? (i := 647) (by decide +kernel)) rfl _) hce hcv hcl ?_
    refine lv_astore_n (lv' := [(3, .ref q), (0, .ref ((ad 0) 0)), (1, .int x1), (2, .ref fo)]) F.x F.b dL_dutyOnByCoins_12 rfl hl (by decide) rfl (fun ls hl => ?_)
    refine lv_iconst (v := 1) F.x F.b dL_dutyOnByCoins_13 (by decide) ?_
    exact eiX F w hr hlocks rfl ⟨K1, S1, Fc1, C1, D1, B1, cu1, ct1, hs1, sv1, ou1, M1, b1, f0, rfl, e2, e3, e4, fun z => absurd z (by decide)⟩ (Nat.le_of_ble_eq_true rfl) (Nat.le_of_ble_eq_true rfl) dL_dutyOnByCoins_14
  · obtain ⟨K1, S1, Fc1, C1, D1, B1, cu1, ct1, hs1, sv1, ou1, M1, h9, e2, e3, e4⟩ := h9
    have w := w.jn (L1 := [wXo G.2.1 (ad 0) (xF ad) (svV sv1) K1, wSh G.2.1 (ad 1) S1, wSh G.2.1 (ad 2) Fc1, wTe G.2.1 (ad 4) C1, wSb G.2.1 (ad 5) ou1, wAd G.2.1 (ad 6) D1, wAb G.2.1 (ad 7) B1, wHo G.2.1 (ad 3) cu1 ct1 hs1, hsL G.2.1 hs1, blk G.2.1 sv1]) (L' := [wXo G.2.1 (ad 0) (xF ad) (svV sv1) K1, wSh G.2.1 (ad 1) S1, wSh G.2.1 (ad 2) Fc1, wTe G.2.1 (ad 4) C1, wSb G.2.1 (ad 5) ou1, wAd G.2.1 (ad 6) D1, wAb G.2.1 (ad 7) B1, wHo G.2.1 (ad 3) cu1 ct1 hs1, [(fo, .inl (G.2.1 4, 1, .inr (.inl f0)))], hsL G.2.1 hs1, blk G.2.1 sv1]) h9 11 [0, 1, 2, 3, 4, 5, 6, 7, 10, 8, 9] rfl rfl rfl
    refine lv_i2l (v := (Int32.toInt64 r9)) F.x F.b dL_dutyOnByCoins_7 rfl ?_
    refine rLs F w (ws' := fl [wXo G.2.1 (ad 0) (xF ad) (svV sv1) K1, wSh G.2.1 (ad 1) S1, wSh G.2.1 (ad 2) Fc1, wTe G.2.1 (ad 4) C1, wSb G.2.1 (ad 5) ou1, wAd G.2.1 (ad 6) D1, wAb G.2.1 (ad 7) B1, wHo G.2.1 (ad 3) cu1 ct1 hs1, [(fo, .inl (G.2.1 4, 1, .inr (.inl (vp_updL f0 (Int32.toNatClampNeg 0) (Int32.toInt64 r9)))))], hsL G.2.1 hs1, blk G.2.1 sv1]) 38 rfl (by decide) rfl dL_dutyOnByCoins_8 (fun H locs w => ?_)
    refine lv_goto (tgt := 15) F.x F.b dL_dutyOnByCoins_9 (by decide) ?_
    refine lv_iconst (v := 0) F.x F.b dL_dutyOnByCoins_15 (by decide) ?_
    exact eiX F w hr hlocks rfl ⟨K1, S1, Fc1, C1, D1, B1, cu1, ct1, hs1, sv1, ou1, M1, r9, _, rfl, e2, e3, e4, fun _ => updL0 _ _⟩ (Nat.le_of_ble_eq_true rfl) (Nat.le_of_ble_eq_true rfl) dL_dutyOnByCoins_16
set_option maxRecDepth 100000 in
set_option maxHeartbeats 4000000 in
theorem l_duty {G : cG} (g : GOK G) (gM : MG G) (hNC : NcG G) {ad : Nat → Nat → Nat} {fo : Nat} {f0 : Nat → Int64} {N : Nat} {K S Fc C D B : Mem} {cu ct : Nat} {hs : hS} {sv : sV} {ou : oB} {M : Mem} {x1 : Int32} (h : Top N K S C cu ct hs sv ou M) : CXH G yL_duty cL_duty 4 [(0, 9, 12, 25)] 41 1600 20 200 [.ref ((ad 0) 0), .int x1, .ref fo] (fl (wLaw G.2.1 ad K S Fc C D B cu ct hs sv ou [(fo, .inl (G.2.1 4, 1, .inr (.inl f0)))])) (LOK G ad fo N (f_X7_duty M x1)) := by
  refine CXH.of g (by decide) rfl (Nat.le_of_ble_eq_true rfl) (List.mem_of_getElem? (i := 1211) (by decide +kernel)) (by rfl) ?_
  intro p l e s m below meth c A ls hst htab F hr hlocks w hl
  generalize ([.ref ((ad 0) 0), .int x1, .ref fo] : List Value).toArray = args
  have hl : lv_has ls 4 [(0, .ref ((ad 0) 0)), (1, .int x1), (2, .ref fo)] := hl
  have w : Wd G A s.heap (fl [wXo G.2.1 (ad 0) (xF ad) (svV sv) K, wSh G.2.1 (ad 1) S, wSh G.2.1 (ad 2) Fc, wTe G.2.1 (ad 4) C, wSb G.2.1 (ad 5) ou, wAd G.2.1 (ad 6) D, wAb G.2.1 (ad 7) B, wHo G.2.1 (ad 3) cu ct hs, [(fo, .inl (G.2.1 4, 1, .inr (.inl f0)))], hsL G.2.1 hs, blk G.2.1 sv]) _ _ := w
  refine lv_aload_n F.x F.b dL_duty_0 rfl (lv_at hl 2 rfl) ?_
  refine lv_iconst (v := 0) F.x F.b dL_duty_1 (by decide) ?_
  refine lv_aload_n F.x F.b dL_duty_2 rfl (lv_at hl 0 rfl) ?_
  refine lv_iload_n F.x F.b dL_duty_3 rfl (lv_at hl 1 rfl) ?_
  refine kXi F w hst (LC := [wXo G.2.1 (ad 0) (xF ad) (svV sv) K, wSh G.2.1 (ad 1) S, wSh G.2.1 (ad 2) Fc, wTe G.2.1 (ad 4) C, wSb G.2.1 (ad 5) ou, wAd G.2.1 (ad 6) D, wAb G.2.1 (ad 7) B, wHo G.2.1 (ad 3) cu ct hs, hsL G.2.1 hs, blk G.2.1 sv]) (LR := [[(fo, .inl (G.2.1 4, 1, .inr (.inl f0)))]]) (As := [.int x1]) (rest := [.int 0, .ref fo]) (k_duty F.1 gM h) m_X6_duty v_X6_duty q1212 (ci := 10) (q0 := 0) rfl rfl rfl 11 [0, 1, 2, 3, 4, 5, 6, 7, 9, 10, 8] rfl rfl rfl ⟨Nat.le_of_ble_eq_true rfl, Nat.le_of_ble_eq_true rfl⟩ rfl hl.1 rfl (Nat.le_of_ble_eq_true rfl) dL_duty_4 ⟨Nat.le_of_ble_eq_true rfl, Nat.le_of_ble_eq_true rfl⟩ (fun E w1 ce q H locs hx w hce hcv hcl => ?_) (fun r9 w1 H locs h9 w => ?_)
  · obtain ⟨K1, S1, Fc1, C1, D1, B1, cu1, ct1, hs1, sv1, ou1, M1, b1, k1, h9, e2, e3, hm, e4⟩ := hx
    have w := w.jn (L1 := [wXo G.2.1 (ad 0) (xF ad) (svV sv1) K1, wSh G.2.1 (ad 1) S1, wSh G.2.1 (ad 2) Fc1, wTe G.2.1 (ad 4) C1, wSb G.2.1 (ad 5) ou1, wAd G.2.1 (ad 6) D1, wAb G.2.1 (ad 7) B1, wHo G.2.1 (ad 3) cu1 ct1 hs1, hsL G.2.1 hs1, blk G.2.1 sv1]) (L' := [wXo G.2.1 (ad 0) (xF ad) (svV sv1) K1, wSh G.2.1 (ad 1) S1, wSh G.2.1 (ad 2) Fc1, wTe G.2.1 (ad 4) C1, wSb G.2.1 (ad 5) ou1, wAd G.2.1 (ad 6) D1, wAb G.2.1 (ad 7) B1, wHo G.2.1 (ad 3) cu1 ct1 hs1, [(fo, .inl (G.2.1 4, 1, .inr (.inl f0)))], hsL G.2.1 hs1, blk G.2.1 sv1]) h9 11 [0, 1, 2, 3, 4, 5, 6, 7, 10, 8, 9] rfl rfl rfl
    simp only [List.mem_cons, List.not_mem_nil, or_false, Prod.mk.injEq] at hm
    obtain ⟨rfl, rfl⟩ := hm
    refine vx_catch F.o (name := eNSE) (tableOf []) ⟨0, 9, 12, 25⟩ (tableOf []) htab pass_nil rfl (by decide) (F.t _ (List.mem_of_getElem? (i := 979) (by decide +kernel)) rfl _) (F.t _ (List.mem_of_getElem? (i := 903) (by decide +kernel)) rfl _) hce hcv hcl ?_
    refine lv_astore_n (lv' := [(3, .ref q), (0, .ref ((ad 0) 0)), (1, .int x1), (2, .ref fo)]) F.x F.b dL_duty_12 rfl hl (by decide) rfl (fun ls hl => ?_)
    refine lv_iconst (v := 1) F.x F.b dL_duty_13 (by decide) ?_
    exact eiX F w hr hlocks rfl ⟨K1, S1, Fc1, C1, D1, B1, cu1, ct1, hs1, sv1, ou1, M1, b1, f0, rfl, e2, e3, e4, fun z => absurd z (by decide)⟩ (Nat.le_of_ble_eq_true rfl) (Nat.le_of_ble_eq_true rfl) dL_duty_14
  · obtain ⟨K1, S1, Fc1, C1, D1, B1, cu1, ct1, hs1, sv1, ou1, M1, h9, e2, e3, e4⟩ := h9
    have w := w.jn (L1 := [wXo G.2.1 (ad 0) (xF ad) (svV sv1) K1, wSh G.2.1 (ad 1) S1, wSh G.2.1 (ad 2) Fc1, wTe G.2.1 (ad 4) C1, wSb G.2.1 (ad 5) ou1, wAd G.2.1 (ad 6) D1, wAb G.2.1 (ad 7) B1, wHo G.2.1 (ad 3) cu1 ct1 hs1, hsL G.2.1 hs1, blk G.2.1 sv1]) (L' := [wXo G.2.1 (ad 0) (xF ad) (svV sv1) K1, wSh G.2.1 (ad 1) S1, wSh G.2.1 (ad 2) Fc1, wTe G.2.1 (ad 4) C1, wSb G.2.1 (ad 5) ou1, wAd G.2.1 (ad 6) D1, wAb G.2.1 (ad 7) B1, wHo G.2.1 (ad 3) cu1 ct1 hs1, [(fo, .inl (G.2.1 4, 1, .inr (.inl f0)))], hsL G.2.1 hs1, blk G.2.1 sv1]) h9 11 [0, 1, 2, 3, 4, 5, 6, 7, 10, 8, 9] rfl rfl rfl
    refine lv_i2l (v := (Int32.toInt64 r9)) F.x F.b dL_duty_7 rfl ?_
    refine rLs F w (ws' := fl [wXo G.2.1 (ad 0) (xF ad) (svV sv1) K1, wSh G.2.1 (ad 1) S1, wSh G.2.1 (ad 2) Fc1, wTe G.2.1 (ad 4) C1, wSb G.2.1 (ad 5) ou1, wAd G.2.1 (ad 6) D1, wAb G.2.1 (ad 7) B1, wHo G.2.1 (ad 3) cu1 ct1 hs1, [(fo, .inl (G.2.1 4, 1, .inr (.inl (vp_updL f0 (Int32.toNatClampNeg 0) (Int32.toInt64 r9)))))], hsL G.2.1 hs1, blk G.2.1 sv1]) 38 rfl (by decide) rfl dL_duty_8 (fun H locs w => ?_)
    refine lv_goto (tgt := 15) F.x F.b dL_duty_9 (by decide) ?_
    refine lv_iconst (v := 0) F.x F.b dL_duty_15 (by decide) ?_
    exact eiX F w hr hlocks rfl ⟨K1, S1, Fc1, C1, D1, B1, cu1, ct1, hs1, sv1, ou1, M1, r9, _, rfl, e2, e3, e4, fun _ => updL0 _ _⟩ (Nat.le_of_ble_eq_true rfl) (Nat.le_of_ble_eq_true rfl) dL_duty_16
set_option maxRecDepth 100000 in
set_option maxHeartbeats 4000000 in
theorem l_passDays {G : cG} (g : GOK G) (gM : MG G) (hNC : NcG G) {ad : Nat → Nat → Nat} {fo : Nat} {f0 : Nat → Int64} {N : Nat} {K S Fc C D B : Mem} {cu ct : Nat} {hs : hS} {sv : sV} {ou : oB} {M : Mem} {x1 : Int32} (h : Top N K S C cu ct hs sv ou M) (hN : N < 2 ^ 29) : CXH G yL_passDays cL_passDays 4 [(0, 9, 12, 15)] 41 1600 20 200 [.ref ((ad 0) 0), .int x1, .ref fo] (fl (wLaw G.2.1 ad K S Fc C D B cu ct hs sv ou [(fo, .inl (G.2.1 4, 1, .inr (.inl f0)))])) (LOK G ad fo N (f_X7_passDays M x1)) := by
  refine CXH.of g (by decide) rfl (Nat.le_of_ble_eq_true rfl) (List.mem_of_getElem? (i := 1219) (by decide +kernel)) (by rfl) ?_
  intro p l e s m below meth c A ls hst htab F hr hlocks w hl
  generalize ([.ref ((ad 0) 0), .int x1, .ref fo] : List Value).toArray = args
  have hl : lv_has ls 4 [(0, .ref ((ad 0) 0)), (1, .int x1), (2, .ref fo)] := hl
  have w : Wd G A s.heap (fl [wXo G.2.1 (ad 0) (xF ad) (svV sv) K, wSh G.2.1 (ad 1) S, wSh G.2.1 (ad 2) Fc, wTe G.2.1 (ad 4) C, wSb G.2.1 (ad 5) ou, wAd G.2.1 (ad 6) D, wAb G.2.1 (ad 7) B, wHo G.2.1 (ad 3) cu ct hs, [(fo, .inl (G.2.1 4, 1, .inr (.inl f0)))], hsL G.2.1 hs, blk G.2.1 sv]) _ _ := w
  refine lv_aload_n F.x F.b dL_passDays_0 rfl (lv_at hl 2 rfl) ?_
  refine lv_iconst (v := 0) F.x F.b dL_passDays_1 (by decide) ?_
  refine lv_aload_n F.x F.b dL_passDays_2 rfl (lv_at hl 0 rfl) ?_
  refine lv_iload_n F.x F.b dL_passDays_3 rfl (lv_at hl 1 rfl) ?_
  refine kXi F w hst (LC := [wXo G.2.1 (ad 0) (xF ad) (svV sv) K, wSh G.2.1 (ad 1) S, wSh G.2.1 (ad 2) Fc, wTe G.2.1 (ad 4) C, wSb G.2.1 (ad 5) ou, wAd G.2.1 (ad 6) D, wAb G.2.1 (ad 7) B, wHo G.2.1 (ad 3) cu ct hs, hsL G.2.1 hs, blk G.2.1 sv]) (LR := [[(fo, .inl (G.2.1 4, 1, .inr (.inl f0)))]]) (As := [.int x1]) (rest := [.int 0, .ref fo]) (k_passDays F.1 gM h hN) m_X6_passDays v_X6_passDays q1220 (ci := 10) (q0 := 0) rfl rfl rfl 11 [0, 1, 2, 3, 4, 5, 6, 7, 9, 10, 8] rfl rfl rfl ⟨Nat.le_of_ble_eq_true rfl, Nat.le_of_ble_eq_true rfl⟩ rfl hl.1 rfl (Nat.le_of_ble_eq_true rfl) dL_passDays_4 ⟨Nat.le_of_ble_eq_true rfl, Nat.le_of_ble_eq_true rfl⟩ (fun E w1 ce q H locs hx w hce hcv hcl => ?_) (fun r9 w1 H locs h9 w => ?_)
  · obtain ⟨K1, S1, Fc1, C1, D1, B1, cu1, ct1, hs1, sv1, ou1, M1, b1, k1, h9, e2, e3, hm, e4⟩ := hx
    have w := w.jn (L1 := [wXo G.2.1 (ad 0) (xF ad) (svV sv1) K1, wSh G.2.1 (ad 1) S1, wSh G.2.1 (ad 2) Fc1, wTe G.2.1 (ad 4) C1, wSb G.2.1 (ad 5) ou1, wAd G.2.1 (ad 6) D1, wAb G.2.1 (ad 7) B1, wHo G.2.1 (ad 3) cu1 ct1 hs1, hsL G.2.1 hs1, blk G.2.1 sv1]) (L' := [wXo G.2.1 (ad 0) (xF ad) (svV sv1) K1, wSh G.2.1 (ad 1) S1, wSh G.2.1 (ad 2) Fc1, wTe G.2.1 (ad 4) C1, wSb G.2.1 (ad 5) ou1, wAd G.2.1 (ad 6) D1, wAb G.2.1 (ad 7) B1, wHo G.2.1 (ad 3) cu1 ct1 hs1, [(fo, .inl (G.2.1 4, 1, .inr (.inl f0)))], hsL G.2.1 hs1, blk G.2.1 sv1]) h9 11 [0, 1, 2, 3, 4, 5, 6, 7, 10, 8, 9] rfl rfl rfl
    simp only [List.mem_cons, List.not_mem_nil, or_false, Prod.mk.injEq] at hm
    obtain ⟨rfl, rfl⟩ := hm
    refine vx_catch F.o (name := eIAE) (tableOf []) ⟨0, 9, 12, 15⟩ (tableOf []) htab pass_nil rfl (by decide) (F.t _ (List.mem_of_getElem? (i := 869) (by decide +kernel)) rfl _) (F.t _ (List.mem_of_getElem? (i := 647) (by decide +kernel)) rfl _) hce hcv hcl ?_
    refine lv_astore_n (lv' := [(3, .ref q), (0, .ref ((ad 0) 0)), (1, .int x1), (2, .ref fo)]) F.x F.b dL_passDays_12 rfl hl (by decide) rfl (fun ls hl => ?_)
    refine lv_iconst (v := 1) F.x F.b dL_passDays_13 (by decide) ?_
    exact eiX F w hr hlocks rfl ⟨K1, S1, Fc1, C1, D1, B1, cu1, ct1, hs1, sv1, ou1, M1, b1, f0, rfl, e2, e3, e4, fun z => absurd z (by decide)⟩ (Nat.le_of_ble_eq_true rfl) (Nat.le_of_ble_eq_true rfl) dL_passDays_14
  · obtain ⟨K1, S1, Fc1, C1, D1, B1, cu1, ct1, hs1, sv1, ou1, M1, h9, e2, e3, e4⟩ := h9
    have w := w.jn (L1 := [wXo G.2.1 (ad 0) (xF ad) (svV sv1) K1, wSh G.2.1 (ad 1) S1, wSh G.2.1 (ad 2) Fc1, wTe G.2.1 (ad 4) C1, wSb G.2.1 (ad 5) ou1, wAd G.2.1 (ad 6) D1, wAb G.2.1 (ad 7) B1, wHo G.2.1 (ad 3) cu1 ct1 hs1, hsL G.2.1 hs1, blk G.2.1 sv1]) (L' := [wXo G.2.1 (ad 0) (xF ad) (svV sv1) K1, wSh G.2.1 (ad 1) S1, wSh G.2.1 (ad 2) Fc1, wTe G.2.1 (ad 4) C1, wSb G.2.1 (ad 5) ou1, wAd G.2.1 (ad 6) D1, wAb G.2.1 (ad 7) B1, wHo G.2.1 (ad 3) cu1 ct1 hs1, [(fo, .inl (G.2.1 4, 1, .inr (.inl f0)))], hsL G.2.1 hs1, blk G.2.1 sv1]) h9 11 [0, 1, 2, 3, 4, 5, 6, 7, 10, 8, 9] rfl rfl rfl
    refine lv_i2l (v := (Int32.toInt64 r9)) F.x F.b dL_passDays_7 rfl ?_
    refine rLs F w (ws' := fl [wXo G.2.1 (ad 0) (xF ad) (svV sv1) K1, wSh G.2.1 (ad 1) S1, wSh G.2.1 (ad 2) Fc1, wTe G.2.1 (ad 4) C1, wSb G.2.1 (ad 5) ou1, wAd G.2.1 (ad 6) D1, wAb G.2.1 (ad 7) B1, wHo G.2.1 (ad 3) cu1 ct1 hs1, [(fo, .inl (G.2.1 4, 1, .inr (.inl (vp_updL f0 (Int32.toNatClampNeg 0) (Int32.toInt64 r9)))))], hsL G.2.1 hs1, blk G.2.1 sv1]) 38 rfl (by decide) rfl dL_passDays_8 (fun H locs w => ?_)
    refine lv_goto (tgt := 15) F.x F.b dL_passDays_9 (by decide) ?_
    refine lv_iconst (v := 0) F.x F.b dL_passDays_15 (by decide) ?_
    exact eiX F w hr hlocks rfl ⟨K1, S1, Fc1, C1, D1, B1, cu1, ct1, hs1, sv1, ou1, M1, r9, _, rfl, e2, e3, e4, fun _ => updL0 _ _⟩ (Nat.le_of_ble_eq_true rfl) (Nat.le_of_ble_eq_true rfl) dL_passDays_16
set_option maxRecDepth 100000 in
set_option maxHeartbeats 4000000 in
theorem l_dampAfter {G : cG} (g : GOK G) (gM : MG G) (hNC : NcG G) {ad : Nat → Nat → Nat} {fo : Nat} {f0 : Nat → Int64} {N : Nat} {K S Fc C D B : Mem} {cu ct : Nat} {hs : hS} {sv : sV} {ou : oB} {M : Mem} {x1 : Int32} (h : Top N K S C cu ct hs sv ou M) : CXH G yL_dampAfter cL_dampAfter 4 [(0, 9, 12, 15)] 41 1600 20 200 [.ref ((ad 0) 0), .int x1, .ref fo] (fl (wLaw G.2.1 ad K S Fc C D B cu ct hs sv ou [(fo, .inl (G.2.1 4, 1, .inr (.inl f0)))])) (LOK G ad fo N (f_X7_dampAfter M x1)) := by
  refine CXH.of g (by decide) rfl (Nat.le_of_ble_eq_true rfl) (List.mem_of_getElem? (i := 1252) (by decide +kernel)) (by rfl) ?_
  intro p l e s m below meth c A ls hst htab F hr hlocks w hl
  generalize ([.ref ((ad 0) 0), .int x1, .ref fo] : List Value).toArray = args
  have hl : lv_has ls 4 [(0, .ref ((ad 0) 0)), (1, .int x1), (2, .ref fo)] := hl
  have w : Wd G A s.heap (fl [wXo G.2.1 (ad 0) (xF ad) (svV sv) K, wSh G.2.1 (ad 1) S, wSh G.2.1 (ad 2) Fc, wTe G.2.1 (ad 4) C, wSb G.2.1 (ad 5) ou, wAd G.2.1 (ad 6) D, wAb G.2.1 (ad 7) B, wHo G.2.1 (ad 3) cu ct hs, [(fo, .inl (G.2.1 4, 1, .inr (.inl f0)))], hsL G.2.1 hs, blk G.2.1 sv]) _ _ := w
  refine lv_aload_n F.x F.b dL_dampAfter_0 rfl (lv_at hl 2 rfl) ?_
  refine lv_iconst (v := 0) F.x F.b dL_dampAfter_1 (by decide) ?_
  refine lv_aload_n F.x F.b dL_dampAfter_2 rfl (lv_at hl 0 rfl) ?_
  refine lv_iload_n F.x F.b dL_dampAfter_3 rfl (lv_at hl 1 rfl) ?_
  refine kXi F w hst (LC := [wXo G.2.1 (ad 0) (xF ad) (svV sv) K, wSh G.2.1 (ad 1) S, wSh G.2.1 (ad 2) Fc, wTe G.2.1 (ad 4) C, wSb G.2.1 (ad 5) ou, wAd G.2.1 (ad 6) D, wAb G.2.1 (ad 7) B, wHo G.2.1 (ad 3) cu ct hs, hsL G.2.1 hs, blk G.2.1 sv]) (LR := [[(fo, .inl (G.2.1 4, 1, .inr (.inl f0)))]]) (As := [.int x1]) (rest := [.int 0, .ref fo]) (k_dampAfter F.1 gM h) m_X6_dampAfter v_X6_dampAfter q1253 (ci := 10) (q0 := 0) rfl rfl rfl 11 [0, 1, 2, 3, 4, 5, 6, 7, 9, 10, 8] rfl rfl rfl ⟨Nat.le_of_ble_eq_true rfl, Nat.le_of_ble_eq_true rfl⟩ rfl hl.1 rfl (Nat.le_of_ble_eq_true rfl) dL_dampAfter_4 ⟨Nat.le_of_ble_eq_true rfl, Nat.le_of_ble_eq_true rfl⟩ (fun E w1 ce q H locs hx w hce hcv hcl => ?_) (fun r9 w1 H locs h9 w => ?_)
  · obtain ⟨K1, S1, Fc1, C1, D1, B1, cu1, ct1, hs1, sv1, ou1, M1, b1, k1, h9, e2, e3, hm, e4⟩ := hx
    have w := w.jn (L1 := [wXo G.2.1 (ad 0) (xF ad) (svV sv1) K1, wSh G.2.1 (ad 1) S1, wSh G.2.1 (ad 2) Fc1, wTe G.2.1 (ad 4) C1, wSb G.2.1 (ad 5) ou1, wAd G.2.1 (ad 6) D1, wAb G.2.1 (ad 7) B1, wHo G.2.1 (ad 3) cu1 ct1 hs1, hsL G.2.1 hs1, blk G.2.1 sv1]) (L' := [wXo G.2.1 (ad 0) (xF ad) (svV sv1) K1, wSh G.2.1 (ad 1) S1, wSh G.2.1 (ad 2) Fc1, wTe G.2.1 (ad 4) C1, wSb G.2.1 (ad 5) ou1, wAd G.2.1 (ad 6) D1, wAb G.2.1 (ad 7) B1, wHo G.2.1 (ad 3) cu1 ct1 hs1, [(fo, .inl (G.2.1 4, 1, .inr (.inl f0)))], hsL G.2.1 hs1, blk G.2.1 sv1]) h9 11 [0, 1, 2, 3, 4, 5, 6, 7, 10, 8, 9] rfl rfl rfl
    simp only [List.mem_cons, List.not_mem_nil, or_false, Prod.mk.injEq] at hm
    obtain ⟨rfl, rfl⟩ := hm
    refine vx_catch F.o (name := eIAE) (tableOf []) ⟨0, 9, 12, 15⟩ (tableOf []) htab pass_nil rfl (by decide) (F.t _ (List.mem_of_getElem? (i := 869) (by decide +kernel)) rfl _) (F.t _ (List.mem_of_getElem? (i := 647) (by decide +kernel)) rfl _) hce hcv hcl ?_
    refine lv_astore_n (lv' := [(3, .ref q), (0, .ref ((ad 0) 0)), (1, .int x1), (2, .ref fo)]) F.x F.b dL_dampAfter_12 rfl hl (by decide) rfl (fun ls hl => ?_)
    refine lv_iconst (v := 1) F.x F.b dL_dampAfter_13 (by decide) ?_
    exact eiX F w hr hlocks rfl ⟨K1, S1, Fc1, C1, D1, B1, cu1, ct1, hs1, sv1, ou1, M1, b1, f0, rfl, e2, e3, e4, fun z => absurd z (by decide)⟩ (Nat.le_of_ble_eq_true rfl) (Nat.le_of_ble_eq_true rfl) dL_dampAfter_14
  · obtain ⟨K1, S1, Fc1, C1, D1, B1, cu1, ct1, hs1, sv1, ou1, M1, h9, e2, e3, e4⟩ := h9
    have w := w.jn (L1 := [wXo G.2.1 (ad 0) (xF ad) (svV sv1) K1, wSh G.2.1 (ad 1) S1, wSh G.2.1 (ad 2) Fc1, wTe G.2.1 (ad 4) C1, wSb G.2.1 (ad 5) ou1, wAd G.2.1 (ad 6) D1, wAb G.2.1 (ad 7) B1, wHo G.2.1 (ad 3) cu1 ct1 hs1, hsL G.2.1 hs1, blk G.2.1 sv1]) (L' := [wXo G.2.1 (ad 0) (xF ad) (svV sv1) K1, wSh G.2.1 (ad 1) S1, wSh G.2.1 (ad 2) Fc1, wTe G.2.1 (ad 4) C1, wSb G.2.1 (ad 5) ou1, wAd G.2.1 (ad 6) D1, wAb G.2.1 (ad 7) B1, wHo G.2.1 (ad 3) cu1 ct1 hs1, [(fo, .inl (G.2.1 4, 1, .inr (.inl f0)))], hsL G.2.1 hs1, blk G.2.1 sv1]) h9 11 [0, 1, 2, 3, 4, 5, 6, 7, 10, 8, 9] rfl rfl rfl
    refine lv_i2l (v := (Int32.toInt64 r9)) F.x F.b dL_dampAfter_7 rfl ?_
    refine rLs F w (ws' := fl [wXo G.2.1 (ad 0) (xF ad) (svV sv1) K1, wSh G.2.1 (ad 1) S1, wSh G.2.1 (ad 2) Fc1, wTe G.2.1 (ad 4) C1, wSb G.2.1 (ad 5) ou1, wAd G.2.1 (ad 6) D1, wAb G.2.1 (ad 7) B1, wHo G.2.1 (ad 3) cu1 ct1 hs1, [(fo, .inl (G.2.1 4, 1, .inr (.inl (vp_updL f0 (Int32.toNatClampNeg 0) (Int32.toInt64 r9)))))], hsL G.2.1 hs1, blk G.2.1 sv1]) 38 rfl (by decide) rfl dL_dampAfter_8 (fun H locs w => ?_)
    refine lv_goto (tgt := 15) F.x F.b dL_dampAfter_9 (by decide) ?_
    refine lv_iconst (v := 0) F.x F.b dL_dampAfter_15 (by decide) ?_
    exact eiX F w hr hlocks rfl ⟨K1, S1, Fc1, C1, D1, B1, cu1, ct1, hs1, sv1, ou1, M1, r9, _, rfl, e2, e3, e4, fun _ => updL0 _ _⟩ (Nat.le_of_ble_eq_true rfl) (Nat.le_of_ble_eq_true rfl) dL_dampAfter_16
set_option maxRecDepth 100000 in
set_option maxHeartbeats 4000000 in
theorem l_enqueue {G : cG} (g : GOK G) (gM : MG G) (hNC : NcG G) {ad : Nat → Nat → Nat} {fo : Nat} {f0 : Nat → Int64} {N : Nat} {K S Fc C D B : Mem} {cu ct : Nat} {hs : hS} {sv : sV} {ou : oB} {M : Mem} {x1 : Int32} (h : Top N K S C cu ct hs sv ou M) (hN : N < 2 ^ 29) : CXH G yL_enqueue cL_enqueue 4 [(0, 9, 12, 25), (0, 9, 15, 17)] 41 1600 20 200 [.ref ((ad 0) 0), .int x1, .ref fo] (fl (wLaw G.2.1 ad K S Fc C D B cu ct hs sv ou [(fo, .inl (G.2.1 4, 1, .inr (.inl f0)))])) (LOK G ad fo N (f_X7_enqueue M x1)) := by
  refine CXH.of g (by decide) rfl (Nat.le_of_ble_eq_true rfl) (List.mem_of_getElem? (i := 1260) (by decide +kernel)) (by rfl) ?_
  intro p l e s m below meth c A ls hst htab F hr hlocks w hl
  generalize ([.ref ((ad 0) 0), .int x1, .ref fo] : List Value).toArray = args
  have hl : lv_has ls 4 [(0, .ref ((ad 0) 0)), (1, .int x1), (2, .ref fo)] := hl
  have w : Wd G A s.heap (fl [wXo G.2.1 (ad 0) (xF ad) (svV sv) K, wSh G.2.1 (ad 1) S, wSh G.2.1 (ad 2) Fc, wTe G.2.1 (ad 4) C, wSb G.2.1 (ad 5) ou, wAd G.2.1 (ad 6) D, wAb G.2.1 (ad 7) B, wHo G.2.1 (ad 3) cu ct hs, [(fo, .inl (G.2.1 4, 1, .inr (.inl f0)))], hsL G.2.1 hs, blk G.2.1 sv]) _ _ := w
  refine lv_aload_n F.x F.b dL_enqueue_0 rfl (lv_at hl 2 rfl) ?_
  refine lv_iconst (v := 0) F.x F.b dL_enqueue_1 (by decide) ?_
  refine lv_aload_n F.x F.b dL_enqueue_2 rfl (lv_at hl 0 rfl) ?_
  refine lv_iload_n F.x F.b dL_enqueue_3 rfl (lv_at hl 1 rfl) ?_
  refine kXi F w hst (LC := [wXo G.2.1 (ad 0) (xF ad) (svV sv) K, wSh G.2.1 (ad 1) S, wSh G.2.1 (ad 2) Fc, wTe G.2.1 (ad 4) C, wSb G.2.1 (ad 5) ou, wAd G.2.1 (ad 6) D, wAb G.2.1 (ad 7) B, wHo G.2.1 (ad 3) cu ct hs, hsL G.2.1 hs, blk G.2.1 sv]) (LR := [[(fo, .inl (G.2.1 4, 1, .inr (.inl f0)))]]) (As := [.int x1]) (rest := [.int 0, .ref fo]) (k_enqueue F.1 gM h hN) m_X6_enqueue v_X6_enqueue q1261 (ci := 10) (q0 := 0) rfl rfl rfl 11 [0, 1, 2, 3, 4, 5, 6, 7, 9, 10, 8] rfl rfl rfl ⟨Nat.le_of_ble_eq_true rfl, Nat.le_of_ble_eq_true rfl⟩ rfl hl.1 rfl (Nat.le_of_ble_eq_true rfl) dL_enqueue_4 ⟨Nat.le_of_ble_eq_true rfl, Nat.le_of_ble_eq_true rfl⟩ (fun E w1 ce q H locs hx w hce hcv hcl => ?_) (fun r9 w1 H locs h9 w => ?_)
  · obtain ⟨K1, S1, Fc1, C1, D1, B1, cu1, ct1, hs1, sv1, ou1, M1, b1, k1, h9, e2, e3, hm, e4⟩ := hx
    have w := w.jn (L1 := [wXo G.2.1 (ad 0) (xF ad) (svV sv1) K1, wSh G.2.1 (ad 1) S1, wSh G.2.1 (ad 2) Fc1, wTe G.2.1 (ad 4) C1, wSb G.2.1 (ad 5) ou1, wAd G.2.1 (ad 6) D1, wAb G.2.1 (ad 7) B1, wHo G.2.1 (ad 3) cu1 ct1 hs1, hsL G.2.1 hs1, blk G.2.1 sv1]) (L' := [wXo G.2.1 (ad 0) (xF ad) (svV sv1) K1, wSh G.2.1 (ad 1) S1, wSh G.2.1 (ad 2) Fc1, wTe G.2.1 (ad 4) C1, wSb G.2.1 (ad 5) ou1, wAd G.2.1 (ad 6) D1, wAb G.2.1 (ad 7) B1, wHo G.2.1 (ad 3) cu1 ct1 hs1, [(fo, .inl (G.2.1 4, 1, .inr (.inl f0)))], hsL G.2.1 hs1, blk G.2.1 sv1]) h9 11 [0, 1, 2, 3, 4, 5, 6, 7, 10, 8, 9] rfl rfl rfl
    simp only [List.mem_cons, List.not_mem_nil, or_false, Prod.mk.injEq] at hm
    rcases hm with ⟨rfl, rfl⟩ | ⟨rfl, rfl⟩
    · refine vx_catch F.o (name := eNSE) (tableOf []) ⟨0, 9, 12, 25⟩ (tableOf [(0, 9, 15, 17)]) htab pass_nil rfl (by decide) (F.t _ (List.mem_of_getElem? (i := 979) (by decide +kernel)) rfl _) (F.t _ (List.mem_of_getElem? (i := 903) (by decide +kernel)) rfl _) hce hcv hcl ?_
      refine lv_astore_n (lv' := [(3, .ref q), (0, .ref ((ad 0) 0)), (1, .int x1), (2, .ref fo)]) F.x F.b dL_enqueue_12 rfl hl (by decide) rfl (fun ls hl => ?_)
      refine lv_iconst (v := 1) F.x F.b dL_enqueue_13 (by decide) ?_
      exact eiX F w hr hlocks rfl ⟨K1, S1, Fc1, C1, D1, B1, cu1, ct1, hs1, sv1, ou1, M1, b1, f0, rfl, e2, e3, e4, fun z => absurd z (by decide)⟩ (Nat.le_of_ble_eq_true rfl) (Nat.le_of_ble_eq_true rfl) dL_enqueue_14
    · refine vx_catch F.o (name := eISE) (tableOf [(0, 9, 12, 25)]) ⟨0, 9, 15, 17⟩ (tableOf []) htab (pass_cons F hNC (by decide) (T := eNSE) (List.mem_of_getElem? (i := 979) (by decide +kernel)) (by decide +kernel : eISE ∈ allE) (by decide +kernel : eNSE ∈ allE) (by decide +kernel) pass_nil) rfl (by decide) (F.t _ (List.mem_of_getElem? (i := 870) (by decide +kernel)) rfl _) (F.t _ (List.mem_of_getElem? (i := 944) (by decide +kernel)) rfl _) hce hcv hcl ?_
      refine lv_astore_n (lv' := [(3, .ref q), (0, .ref ((ad 0) 0)), (1, .int x1), (2, .ref fo)]) F.x F.b dL_enqueue_15 rfl hl (by decide) rfl (fun ls hl => ?_)
      refine lv_iconst (v := 2) F.x F.b dL_enqueue_16 (by decide) ?_
      exact eiX F w hr hlocks rfl ⟨K1, S1, Fc1, C1, D1, B1, cu1, ct1, hs1, sv1, ou1, M1, b1, f0, rfl, e2, e3, e4, fun z => absurd z (by decide)⟩ (Nat.le_of_ble_eq_true rfl) (Nat.le_of_ble_eq_true rfl) dL_enqueue_17
  · obtain ⟨K1, S1, Fc1, C1, D1, B1, cu1, ct1, hs1, sv1, ou1, M1, h9, e2, e3, e4⟩ := h9
    have w := w.jn (L1 := [wXo G.2.1 (ad 0) (xF ad) (svV sv1) K1, wSh G.2.1 (ad 1) S1, wSh G.2.1 (ad 2) Fc1, wTe G.2.1 (ad 4) C1, wSb G.2.1 (ad 5) ou1, wAd G.2.1 (ad 6) D1, wAb G.2.1 (ad 7) B1, wHo G.2.1 (ad 3) cu1 ct1 hs1, hsL G.2.1 hs1, blk G.2.1 sv1]) (L' := [wXo G.2.1 (ad 0) (xF ad) (svV sv1) K1, wSh G.2.1 (ad 1) S1, wSh G.2.1 (ad 2) Fc1, wTe G.2.1 (ad 4) C1, wSb G.2.1 (ad 5) ou1, wAd G.2.1 (ad 6) D1, wAb G.2.1 (ad 7) B1, wHo G.2.1 (ad 3) cu1 ct1 hs1, [(fo, .inl (G.2.1 4, 1, .inr (.inl f0)))], hsL G.2.1 hs1, blk G.2.1 sv1]) h9 11 [0, 1, 2, 3, 4, 5, 6, 7, 10, 8, 9] rfl rfl rfl
    refine lv_i2l (v := (Int32.toInt64 r9)) F.x F.b dL_enqueue_7 rfl ?_
    refine rLs F w (ws' := fl [wXo G.2.1 (ad 0) (xF ad) (svV sv1) K1, wSh G.2.1 (ad 1) S1, wSh G.2.1 (ad 2) Fc1, wTe G.2.1 (ad 4) C1, wSb G.2.1 (ad 5) ou1, wAd G.2.1 (ad 6) D1, wAb G.2.1 (ad 7) B1, wHo G.2.1 (ad 3) cu1 ct1 hs1, [(fo, .inl (G.2.1 4, 1, .inr (.inl (vp_updL f0 (Int32.toNatClampNeg 0) (Int32.toInt64 r9)))))], hsL G.2.1 hs1, blk G.2.1 sv1]) 38 rfl (by decide) rfl dL_enqueue_8 (fun H locs w => ?_)
    refine lv_goto (tgt := 18) F.x F.b dL_enqueue_9 (by decide) ?_
    refine lv_iconst (v := 0) F.x F.b dL_enqueue_18 (by decide) ?_
    exact eiX F w hr hlocks rfl ⟨K1, S1, Fc1, C1, D1, B1, cu1, ct1, hs1, sv1, ou1, M1, r9, _, rfl, e2, e3, e4, fun _ => updL0 _ _⟩ (Nat.le_of_ble_eq_true rfl) (Nat.le_of_ble_eq_true rfl) dL_enqueue_19
set_option maxRecDepth 100000 in
set_option maxHeartbeats 4000000 in
theorem l_audit {G : cG} (g : GOK G) (gM : MG G) (hNC : NcG G) {ad : Nat → Nat → Nat} {fo : Nat} {f0 : Nat → Int64} {N : Nat} {K S Fc C D B : Mem} {cu ct : Nat} {hs : hS} {sv : sV} {ou : oB} {M : Mem} (h : Top N K S C cu ct hs sv ou M) (hN : N < 2 ^ 29) : CXH G yL_audit cL_audit 3 [(0, 8, 11, 25)] 41 1600 20 200 [.ref ((ad 0) 0), .ref fo] (fl (wLaw G.2.1 ad K S Fc C D B cu ct hs sv ou [(fo, .inl (G.2.1 4, 1, .inr (.inl f0)))])) (LOK G ad fo N (f_X7_audit M)) := by
  refine CXH.of g (by decide) rfl (Nat.le_of_ble_eq_true rfl) (List.mem_of_getElem? (i := 1279) (by decide +kernel)) (by rfl) ?_
  intro p l e s m below meth c A ls hst htab F hr hlocks w hl
  generalize ([.ref ((ad 0) 0), .ref fo] : List Value).toArray = args
  have hl : lv_has ls 3 [(0, .ref ((ad 0) 0)), (1, .ref fo)] := hl
  have w : Wd G A s.heap (fl [wXo G.2.1 (ad 0) (xF ad) (svV sv) K, wSh G.2.1 (ad 1) S, wSh G.2.1 (ad 2) Fc, wTe G.2.1 (ad 4) C, wSb G.2.1 (ad 5) ou, wAd G.2.1 (ad 6) D, wAb G.2.1 (ad 7) B, wHo G.2.1 (ad 3) cu ct hs, [(fo, .inl (G.2.1 4, 1, .inr (.inl f0)))], hsL G.2.1 hs, blk G.2.1 sv]) _ _ := w
  refine lv_aload_n F.x F.b dL_audit_0 rfl (lv_at hl 1 rfl) ?_
  refine lv_iconst (v := 0) F.x F.b dL_audit_1 (by decide) ?_
  refine lv_aload_n F.x F.b dL_audit_2 rfl (lv_at hl 0 rfl) ?_
  refine kXi F w hst (LC := [wXo G.2.1 (ad 0) (xF ad) (svV sv) K, wSh G.2.1 (ad 1) S, wSh G.2.1 (ad 2) Fc, wTe G.2.1 (ad 4) C, wSb G.2.1 (ad 5) ou, wAd G.2.1 (ad 6) D, wAb G.2.1 (ad 7) B, wHo G.2.1 (ad 3) cu ct hs, hsL G.2.1 hs, blk G.2.1 sv]) (LR := [[(fo, .inl (G.2.1 4, 1, .inr (.inl f0)))]]) (As := []) (rest := [.int 0, .ref fo]) (k_audit F.1 gM h hN) m_X6_audit v_X6_audit q1280 (ci := 10) (q0 := 0) rfl rfl rfl 11 [0, 1, 2, 3, 4, 5, 6, 7, 9, 10, 8] rfl rfl rfl ⟨Nat.le_of_ble_eq_true rfl, Nat.le_of_ble_eq_true rfl⟩ rfl hl.1 rfl (Nat.le_of_ble_eq_true rfl) dL_audit_3 ⟨Nat.le_of_ble_eq_true rfl, Nat.le_of_ble_eq_true rfl⟩ (fun E w1 ce q H locs hx w hce hcv hcl => ?_) (fun r9 w1 H locs h9 w => ?_)
  · obtain ⟨K1, S1, Fc1, C1, D1, B1, cu1, ct1, hs1, sv1, ou1, M1, b1, k1, h9, e2, e3, hm, e4⟩ := hx
    have w := w.jn (L1 := [wXo G.2.1 (ad 0) (xF ad) (svV sv1) K1, wSh G.2.1 (ad 1) S1, wSh G.2.1 (ad 2) Fc1, wTe G.2.1 (ad 4) C1, wSb G.2.1 (ad 5) ou1, wAd G.2.1 (ad 6) D1, wAb G.2.1 (ad 7) B1, wHo G.2.1 (ad 3) cu1 ct1 hs1, hsL G.2.1 hs1, blk G.2.1 sv1]) (L' := [wXo G.2.1 (ad 0) (xF ad) (svV sv1) K1, wSh G.2.1 (ad 1) S1, wSh G.2.1 (ad 2) Fc1, wTe G.2.1 (ad 4) C1, wSb G.2.1 (ad 5) ou1, wAd G.2.1 (ad 6) D1, wAb G.2.1 (ad 7) B1, wHo G.2.1 (ad 3) cu1 ct1 hs1, [(fo, .inl (G.2.1 4, 1, .inr (.inl f0)))], hsL G.2.1 hs1, blk G.2.1 sv1]) h9 11 [0, 1, 2, 3, 4, 5, 6, 7, 10, 8, 9] rfl rfl rfl
    simp only [List.mem_cons, List.not_mem_nil, or_false, Prod.mk.injEq] at hm
    obtain ⟨rfl, rfl⟩ := hm
    refine vx_catch F.o (name := eNSE) (tableOf []) ⟨0, 8, 11, 25⟩ (tableOf []) htab pass_nil rfl (by decide) (F.t _ (List.mem_of_getElem? (i := 979) (by decide +kernel)) rfl _) (F.t _ (List.mem_of_getElem? (i := 903) (by decide +kernel)) rfl _) hce hcv hcl ?_
    refine lv_astore_n (lv' := [(2, .ref q), (0, .ref ((ad 0) 0)), (1, .ref fo)]) F.x F.b dL_audit_11 rfl hl (by decide) rfl (fun ls hl => ?_)
    refine lv_iconst (v := 1) F.x F.b dL_audit_12 (by decide) ?_
    exact eiX F w hr hlocks rfl ⟨K1, S1, Fc1, C1, D1, B1, cu1, ct1, hs1, sv1, ou1, M1, b1, f0, rfl, e2, e3, e4, fun z => absurd z (by decide)⟩ (Nat.le_of_ble_eq_true rfl) (Nat.le_of_ble_eq_true rfl) dL_audit_13
  · obtain ⟨K1, S1, Fc1, C1, D1, B1, cu1, ct1, hs1, sv1, ou1, M1, h9, e2, e3, e4⟩ := h9
    have w := w.jn (L1 := [wXo G.2.1 (ad 0) (xF ad) (svV sv1) K1, wSh G.2.1 (ad 1) S1, wSh G.2.1 (ad 2) Fc1, wTe G.2.1 (ad 4) C1, wSb G.2.1 (ad 5) ou1, wAd G.2.1 (ad 6) D1, wAb G.2.1 (ad 7) B1, wHo G.2.1 (ad 3) cu1 ct1 hs1, hsL G.2.1 hs1, blk G.2.1 sv1]) (L' := [wXo G.2.1 (ad 0) (xF ad) (svV sv1) K1, wSh G.2.1 (ad 1) S1, wSh G.2.1 (ad 2) Fc1, wTe G.2.1 (ad 4) C1, wSb G.2.1 (ad 5) ou1, wAd G.2.1 (ad 6) D1, wAb G.2.1 (ad 7) B1, wHo G.2.1 (ad 3) cu1 ct1 hs1, [(fo, .inl (G.2.1 4, 1, .inr (.inl f0)))], hsL G.2.1 hs1, blk G.2.1 sv1]) h9 11 [0, 1, 2, 3, 4, 5, 6, 7, 10, 8, 9] rfl rfl rfl
    refine lv_i2l (v := (Int32.toInt64 r9)) F.x F.b dL_audit_6 rfl ?_
    refine rLs F w (ws' := fl [wXo G.2.1 (ad 0) (xF ad) (svV sv1) K1, wSh G.2.1 (ad 1) S1, wSh G.2.1 (ad 2) Fc1, wTe G.2.1 (ad 4) C1, wSb G.2.1 (ad 5) ou1, wAd G.2.1 (ad 6) D1, wAb G.2.1 (ad 7) B1, wHo G.2.1 (ad 3) cu1 ct1 hs1, [(fo, .inl (G.2.1 4, 1, .inr (.inl (vp_updL f0 (Int32.toNatClampNeg 0) (Int32.toInt64 r9)))))], hsL G.2.1 hs1, blk G.2.1 sv1]) 38 rfl (by decide) rfl dL_audit_7 (fun H locs w => ?_)
    refine lv_goto (tgt := 14) F.x F.b dL_audit_8 (by decide) ?_
    refine lv_iconst (v := 0) F.x F.b dL_audit_14 (by decide) ?_
    exact eiX F w hr hlocks rfl ⟨K1, S1, Fc1, C1, D1, B1, cu1, ct1, hs1, sv1, ou1, M1, r9, _, rfl, e2, e3, e4, fun _ => updL0 _ _⟩ (Nat.le_of_ble_eq_true rfl) (Nat.le_of_ble_eq_true rfl) dL_audit_15
set_option maxRecDepth 100000 in
set_option maxHeartbeats 4000000 in
theorem l_queued {G : cG} (g : GOK G) (gM : MG G) (hNC : NcG G) {ad : Nat → Nat → Nat} {fo : Nat} {f0 : Nat → Int64} {N : Nat} {K S Fc C D B : Mem} {cu ct : Nat} {hs : hS} {sv : sV} {ou : oB} {M : Mem} {x1 : Int32} (h : Top N K S C cu ct hs sv ou M) : CXH G yL_queued cL_queued 4 [(0, 9, 12, 13)] 41 1600 20 200 [.ref ((ad 0) 0), .int x1, .ref fo] (fl (wLaw G.2.1 ad K S Fc C D B cu ct hs sv ou [(fo, .inl (G.2.1 4, 1, .inr (.inl f0)))])) (LOK G ad fo N (f_X7_queued M x1)) := by
  refine CXH.of g (by decide) rfl (Nat.le_of_ble_eq_true rfl) (List.mem_of_getElem? (i := 1290) (by decide +kernel)) (by rfl) ?_
  intro p l e s m below meth c A ls hst htab F hr hlocks w hl
  generalize ([.ref ((ad 0) 0), .int x1, .ref fo] : List Value).toArray = args
  have hl : lv_has ls 4 [(0, .ref ((ad 0) 0)), (1, .int x1), (2, .ref fo)] := hl
  have w : Wd G A s.heap (fl [wXo G.2.1 (ad 0) (xF ad) (svV sv) K, wSh G.2.1 (ad 1) S, wSh G.2.1 (ad 2) Fc, wTe G.2.1 (ad 4) C, wSb G.2.1 (ad 5) ou, wAd G.2.1 (ad 6) D, wAb G.2.1 (ad 7) B, wHo G.2.1 (ad 3) cu ct hs, [(fo, .inl (G.2.1 4, 1, .inr (.inl f0)))], hsL G.2.1 hs, blk G.2.1 sv]) _ _ := w
  refine lv_aload_n F.x F.b dL_queued_0 rfl (lv_at hl 2 rfl) ?_
  refine lv_iconst (v := 0) F.x F.b dL_queued_1 (by decide) ?_
  refine lv_aload_n F.x F.b dL_queued_2 rfl (lv_at hl 0 rfl) ?_
  refine lv_iload_n F.x F.b dL_queued_3 rfl (lv_at hl 1 rfl) ?_
  refine kXi F w hst (LC := [wXo G.2.1 (ad 0) (xF ad) (svV sv) K, wSh G.2.1 (ad 1) S, wSh G.2.1 (ad 2) Fc, wTe G.2.1 (ad 4) C, wSb G.2.1 (ad 5) ou, wAd G.2.1 (ad 6) D, wAb G.2.1 (ad 7) B, wHo G.2.1 (ad 3) cu ct hs, hsL G.2.1 hs, blk G.2.1 sv]) (LR := [[(fo, .inl (G.2.1 4, 1, .inr (.inl f0)))]]) (As := [.int x1]) (rest := [.int 0, .ref fo]) (k_queued F.1 gM h) m_X6_queued v_X6_queued q1291 (ci := 10) (q0 := 0) rfl rfl rfl 11 [0, 1, 2, 3, 4, 5, 6, 7, 9, 10, 8] rfl rfl rfl ⟨Nat.le_of_ble_eq_true rfl, Nat.le_of_ble_eq_true rfl⟩ rfl hl.1 rfl (Nat.le_of_ble_eq_true rfl) dL_queued_4 ⟨Nat.le_of_ble_eq_true rfl, Nat.le_of_ble_eq_true rfl⟩ (fun E w1 ce q H locs hx w hce hcv hcl => ?_) (fun r9 w1 H locs h9 w => ?_)
  · obtain ⟨K1, S1, Fc1, C1, D1, B1, cu1, ct1, hs1, sv1, ou1, M1, b1, k1, h9, e2, e3, hm, e4⟩ := hx
    have w := w.jn (L1 := [wXo G.2.1 (ad 0) (xF ad) (svV sv1) K1, wSh G.2.1 (ad 1) S1, wSh G.2.1 (ad 2) Fc1, wTe G.2.1 (ad 4) C1, wSb G.2.1 (ad 5) ou1, wAd G.2.1 (ad 6) D1, wAb G.2.1 (ad 7) B1, wHo G.2.1 (ad 3) cu1 ct1 hs1, hsL G.2.1 hs1, blk G.2.1 sv1]) (L' := [wXo G.2.1 (ad 0) (xF ad) (svV sv1) K1, wSh G.2.1 (ad 1) S1, wSh G.2.1 (ad 2) Fc1, wTe G.2.1 (ad 4) C1, wSb G.2.1 (ad 5) ou1, wAd G.2.1 (ad 6) D1, wAb G.2.1 (ad 7) B1, wHo G.2.1 (ad 3) cu1 ct1 hs1, [(fo, .inl (G.2.1 4, 1, .inr (.inl f0)))], hsL G.2.1 hs1, blk G.2.1 sv1]) h9 11 [0, 1, 2, 3, 4, 5, 6, 7, 10, 8, 9] rfl rfl rfl
    simp only [List.mem_cons, List.not_mem_nil, or_false, Prod.mk.injEq] at hm
    obtain ⟨rfl, rfl⟩ := hm
    refine vx_catch F.o (name := eIOB) (tableOf []) ⟨0, 9, 12, 13⟩ (tableOf []) htab pass_nil rfl (by decide) (F.t _ (List.mem_of_getElem? (i := 866) (by decide +kernel)) rfl _) (F.t _ (List.mem_of_getElem? (i := 924) (by decide +kernel)) rfl _) hce hcv hcl ?_
    refine lv_astore_n (lv' := [(3, .ref q), (0, .ref ((ad 0) 0)), (1, .int x1), (2, .ref fo)]) F.x F.b dL_queued_12 rfl hl (by decide) rfl (fun ls hl => ?_)
    refine lv_iconst (v := 1) F.x F.b dL_queued_13 (by decide) ?_
    exact eiX F w hr hlocks rfl ⟨K1, S1, Fc1, C1, D1, B1, cu1, ct1, hs1, sv1, ou1, M1, b1, f0, rfl, e2, e3, e4, fun z => absurd z (by decide)⟩ (Nat.le_of_ble_eq_true rfl) (Nat.le_of_ble_eq_true rfl) dL_queued_14
  · obtain ⟨K1, S1, Fc1, C1, D1, B1, cu1, ct1, hs1, sv1, ou1, M1, h9, e2, e3, e4⟩ := h9
    have w := w.jn (L1 := [wXo G.2.1 (ad 0) (xF ad) (svV sv1) K1, wSh G.2.1 (ad 1) S1, wSh G.2.1 (ad 2) Fc1, wTe G.2.1 (ad 4) C1, wSb G.2.1 (ad 5) ou1, wAd G.2.1 (ad 6) D1, wAb G.2.1 (ad 7) B1, wHo G.2.1 (ad 3) cu1 ct1 hs1, hsL G.2.1 hs1, blk G.2.1 sv1]) (L' := [wXo G.2.1 (ad 0) (xF ad) (svV sv1) K1, wSh G.2.1 (ad 1) S1, wSh G.2.1 (ad 2) Fc1, wTe G.2.1 (ad 4) C1, wSb G.2.1 (ad 5) ou1, wAd G.2.1 (ad 6) D1, wAb G.2.1 (ad 7) B1, wHo G.2.1 (ad 3) cu1 ct1 hs1, [(fo, .inl (G.2.1 4, 1, .inr (.inl f0)))], hsL G.2.1 hs1, blk G.2.1 sv1]) h9 11 [0, 1, 2, 3, 4, 5, 6, 7, 10, 8, 9] rfl rfl rfl
    refine lv_i2l (v := (Int32.toInt64 r9)) F.x F.b dL_queued_7 rfl ?_
    refine rLs F w (ws' := fl [wXo G.2.1 (ad 0) (xF ad) (svV sv1) K1, wSh G.2.1 (ad 1) S1, wSh G.2.1 (ad 2) Fc1, wTe G.2.1 (ad 4) C1, wSb G.2.1 (ad 5) ou1, wAd G.2.1 (ad 6) D1, wAb G.2.1 (ad 7) B1, wHo G.2.1 (ad 3) cu1 ct1 hs1, [(fo, .inl (G.2.1 4, 1, .inr (.inl (vp_updL f0 (Int32.toNatClampNeg 0) (Int32.toInt64 r9)))))], hsL G.2.1 hs1, blk G.2.1 sv1]) 38 rfl (by decide) rfl dL_queued_8 (fun H locs w => ?_)
    refine lv_goto (tgt := 15) F.x F.b dL_queued_9 (by decide) ?_
    refine lv_iconst (v := 0) F.x F.b dL_queued_15 (by decide) ?_
    exact eiX F w hr hlocks rfl ⟨K1, S1, Fc1, C1, D1, B1, cu1, ct1, hs1, sv1, ou1, M1, r9, _, rfl, e2, e3, e4, fun _ => updL0 _ _⟩ (Nat.le_of_ble_eq_true rfl) (Nat.le_of_ble_eq_true rfl) dL_queued_16
set_option maxRecDepth 100000 in
set_option maxHeartbeats 4000000 in
theorem l_deposit {G : cG} (g : GOK G) (gM : MG G) (hNC : NcG G) {ad : Nat → Nat → Nat} {fo : Nat} {f0 : Nat → Int64} {N : Nat} {K S Fc C D B : Mem} {cu ct : Nat} {hs : hS} {sv : sV} {ou : oB} {M : Mem} {x1 : Int32} (h : Top N K S C cu ct hs sv ou M) (hN : N < 2 ^ 29) : CXH G yL_deposit cL_deposit 4 [(0, 9, 12, 15), (0, 9, 15, 17)] 41 1600 20 200 [.ref ((ad 0) 0), .int x1, .ref fo] (fl (wLaw G.2.1 ad K S Fc C D B cu ct hs sv ou [(fo, .inl (G.2.1 4, 1, .inr (.inl f0)))])) (LOK G ad fo N (f_X7_deposit M x1)) := by
  refine CXH.of g (by decide) rfl (Nat.le_of_ble_eq_true rfl) (List.mem_of_getElem? (i := 1297) (by decide +kernel)) (by rfl) ?_
  intro p l e s m below meth c A ls hst htab F hr hlocks w hl
  generalize ([.ref ((ad 0) 0), .int x1, .ref fo] : List Value).toArray = args
  have hl : lv_has ls 4 [(0, .ref ((ad 0) 0)), (1, .int x1), (2, .ref fo)] := hl
  have w : Wd G A s.heap (fl [wXo G.2.1 (ad 0) (xF ad) (svV sv) K, wSh G.2.1 (ad 1) S, wSh G.2.1 (ad 2) Fc, wTe G.2.1 (ad 4) C, wSb G.2.1 (ad 5) ou, wAd G.2.1 (ad 6) D, wAb G.2.1 (ad 7) B, wHo G.2.1 (ad 3) cu ct hs, [(fo, .inl (G.2.1 4, 1, .inr (.inl f0)))], hsL G.2.1 hs, blk G.2.1 sv]) _ _ := w
  refine lv_aload_n F.x F.b dL_deposit_0 rfl (lv_at hl 2 rfl) ?_
  refine lv_iconst (v := 0) F.x F.b dL_deposit_1 (by decide) ?_
  refine lv_aload_n F.x F.b dL_deposit_2 rfl (lv_at hl 0 rfl) ?_
  refine lv_iload_n F.x F.b dL_deposit_3 rfl (lv_at hl 1 rfl) ?_
  refine kXi F w hst (LC := [wXo G.2.1 (ad 0) (xF ad) (svV sv) K, wSh G.2.1 (ad 1) S, wSh G.2.1 (ad 2) Fc, wTe G.2.1 (ad 4) C, wSb G.2.1 (ad 5) ou, wAd G.2.1 (ad 6) D, wAb G.2.1 (ad 7) B, wHo G.2.1 (ad 3) cu ct hs, hsL G.2.1 hs, blk G.2.1 sv]) (LR := [[(fo, .inl (G.2.1 4, 1, .inr (.inl f0)))]]) (As := [.int x1]) (rest := [.int 0, .ref fo]) (k_deposit F.1 gM h hN) m_X6_deposit v_X6_deposit q1298 (ci := 10) (q0 := 0) rfl rfl rfl 11 [0, 1, 2, 3, 4, 5, 6, 7, 9, 10, 8] rfl rfl rfl ⟨Nat.le_of_ble_eq_true rfl, Nat.le_of_ble_eq_true rfl⟩ rfl hl.1 rfl (Nat.le_of_ble_eq_true rfl) dL_deposit_4 ⟨Nat.le_of_ble_eq_true rfl, Nat.le_of_ble_eq_true rfl⟩ (fun E w1 ce q H locs hx w hce hcv hcl => ?_) (fun r9 w1 H locs h9 w => ?_)
  · obtain ⟨K1, S1, Fc1, C1, D1, B1, cu1, ct1, hs1, sv1, ou1, M1, b1, k1, h9, e2, e3, hm, e4⟩ := hx
    have w := w.jn (L1 := [wXo G.2.1 (ad 0) (xF ad) (svV sv1) K1, wSh G.2.1 (ad 1) S1, wSh G.2.1 (ad 2) Fc1, wTe G.2.1 (ad 4) C1, wSb G.2.1 (ad 5) ou1, wAd G.2.1 (ad 6) D1, wAb G.2.1 (ad 7) B1, wHo G.2.1 (ad 3) cu1 ct1 hs1, hsL G.2.1 hs1, blk G.2.1 sv1]) (L' := [wXo G.2.1 (ad 0) (xF ad) (svV sv1) K1, wSh G.2.1 (ad 1) S1, wSh G.2.1 (ad 2) Fc1, wTe G.2.1 (ad 4) C1, wSb G.2.1 (ad 5) ou1, wAd G.2.1 (ad 6) D1, wAb G.2.1 (ad 7) B1, wHo G.2.1 (ad 3) cu1 ct1 hs1, [(fo, .inl (G.2.1 4, 1, .inr (.inl f0)))], hsL G.2.1 hs1, blk G.2.1 sv1]) h9 11 [0, 1, 2, 3, 4, 5, 6, 7, 10, 8, 9] rfl rfl rfl
    simp only [List.mem_cons, List.not_mem_nil, or_false, Prod.mk.injEq] at hm
    rcases hm with ⟨rfl, rfl⟩ | ⟨rfl, rfl⟩
    · refine vx_catch F.o (name := eIAE) (tableOf []) ⟨0, 9, 12, 15⟩ (tableOf [(0, 9, 15, 17)]) htab pass_nil rfl (by decide) (F.t _ (List.mem_of_getElem? (i := 869) (by decide +kernel)) rfl _) (F.t _ (List.mem_of_getElem? (i := 647) (by decide +kernel)) rfl _) hce hcv hcl ?_
      refine lv_astore_n (lv' := [(3, .ref q), (0, .ref ((ad 0) 0)), (1, .int x1), (2, .ref fo)]) F.x F.b dL_deposit_12 rfl hl (by decide) rfl (fun ls hl => ?_)
      refine lv_iconst (v := 1) F.x F.b dL_deposit_13 (by decide) ?_
      exact eiX F w hr hlocks rfl ⟨K1, S1, Fc1, C1, D1, B1, cu1, ct1, hs1, sv1, ou1, M1, b1, f0, rfl, e2, e3, e4, fun z => absurd z (by decide)⟩ (Nat.le_of_ble_eq_true rfl) (Nat.le_of_ble_eq_true rfl) dL_deposit_14
    · refine vx_catch F.o (name := eISE) (tableOf [(0, 9, 12, 15)]) ⟨0, 9, 15, 17⟩ (tableOf []) htab (pass_cons F hNC (by decide) (T := eIAE) (List.mem_of_getElem? (i := 869) (by decide +kernel)) (by decide +kernel : eISE ∈ allE) (by decide +kernel : eIAE ∈ allE) (by decide +kernel) pass_nil) rfl (by decide) (F.t _ (List.mem_of_getElem? (i := 870) (by decide +kernel)) rfl _) (F.t _ (List.mem_of_getElem? (i := 944) (by decide +kernel)) rfl _) hce hcv hcl ?_
      refine lv_astore_n (lv' := [(3, .ref q), (0, .ref ((ad 0) 0)), (1, .int x1), (2, .ref fo)]) F.x F.b dL_deposit_15 rfl hl (by decide) rfl (fun ls hl => ?_)
      refine lv_iconst (v := 2) F.x F.b dL_deposit_16 (by decide) ?_
      exact eiX F w hr hlocks rfl ⟨K1, S1, Fc1, C1, D1, B1, cu1, ct1, hs1, sv1, ou1, M1, b1, f0, rfl, e2, e3, e4, fun z => absurd z (by decide)⟩ (Nat.le_of_ble_eq_true rfl) (Nat.le_of_ble_eq_true rfl) dL_deposit_17
  · obtain ⟨K1, S1, Fc1, C1, D1, B1, cu1, ct1, hs1, sv1, ou1, M1, h9, e2, e3, e4⟩ := h9
    have w := w.jn (L1 := [wXo G.2.1 (ad 0) (xF ad) (svV sv1) K1, wSh G.2.1 (ad 1) S1, wSh G.2.1 (ad 2) Fc1, wTe G.2.1 (ad 4) C1, wSb G.2.1 (ad 5) ou1, wAd G.2.1 (ad 6) D1, wAb G.2.1 (ad 7) B1, wHo G.2.1 (ad 3) cu1 ct1 hs1, hsL G.2.1 hs1, blk G.2.1 sv1]) (L' := [wXo G.2.1 (ad 0) (xF ad) (svV sv1) K1, wSh G.2.1 (ad 1) S1, wSh G.2.1 (ad 2) Fc1, wTe G.2.1 (ad 4) C1, wSb G.2.1 (ad 5) ou1, wAd G.2.1 (ad 6) D1, wAb G.2.1 (ad 7) B1, wHo G.2.1 (ad 3) cu1 ct1 hs1, [(fo, .inl (G.2.1 4, 1, .inr (.inl f0)))], hsL G.2.1 hs1, blk G.2.1 sv1]) h9 11 [0, 1, 2, 3, 4, 5, 6, 7, 10, 8, 9] rfl rfl rfl
    refine lv_i2l (v := (Int32.toInt64 r9)) F.x F.b dL_deposit_7 rfl ?_
    refine rLs F w (ws' := fl [wXo G.2.1 (ad 0) (xF ad) (svV sv1) K1, wSh G.2.1 (ad 1) S1, wSh G.2.1 (ad 2) Fc1, wTe G.2.1 (ad 4) C1, wSb G.2.1 (ad 5) ou1, wAd G.2.1 (ad 6) D1, wAb G.2.1 (ad 7) B1, wHo G.2.1 (ad 3) cu1 ct1 hs1, [(fo, .inl (G.2.1 4, 1, .inr (.inl (vp_updL f0 (Int32.toNatClampNeg 0) (Int32.toInt64 r9)))))], hsL G.2.1 hs1, blk G.2.1 sv1]) 38 rfl (by decide) rfl dL_deposit_8 (fun H locs w => ?_)
    refine lv_goto (tgt := 18) F.x F.b dL_deposit_9 (by decide) ?_
    refine lv_iconst (v := 0) F.x F.b dL_deposit_18 (by decide) ?_
    exact eiX F w hr hlocks rfl ⟨K1, S1, Fc1, C1, D1, B1, cu1, ct1, hs1, sv1, ou1, M1, r9, _, rfl, e2, e3, e4, fun _ => updL0 _ _⟩ (Nat.le_of_ble_eq_true rfl) (Nat.le_of_ble_eq_true rfl) dL_deposit_19
set_option maxRecDepth 100000 in
set_option maxHeartbeats 4000000 in
theorem l_release {G : cG} (g : GOK G) (gM : MG G) (hNC : NcG G) {ad : Nat → Nat → Nat} {fo : Nat} {f0 : Nat → Int64} {N : Nat} {K S Fc C D B : Mem} {cu ct : Nat} {hs : hS} {sv : sV} {ou : oB} {M : Mem} {x1 : Int32} (h : Top N K S C cu ct hs sv ou M) (hN : N < 2 ^ 29) : CXH G yL_release cL_release 4 [(0, 9, 12, 25), (0, 9, 15, 19)] 41 1600 20 200 [.ref ((ad 0) 0), .int x1, .ref fo] (fl (wLaw G.2.1 ad K S Fc C D B cu ct hs sv ou [(fo, .inl (G.2.1 4, 1, .inr (.inl f0)))])) (LOK G ad fo N (f_X7_release M x1)) := by
  refine CXH.of g (by decide) rfl (Nat.le_of_ble_eq_true rfl) (List.mem_of_getElem? (i := 1308) (by decide +kernel)) (by rfl) ?_
  intro p l e s m below meth c A ls hst htab F hr hlocks w hl
  generalize ([.ref ((ad 0) 0), .int x1, .ref fo] : List Value).toArray = args
  have hl : lv_has ls 4 [(0, .ref ((ad 0) 0)), (1, .int x1), (2, .ref fo)] := hl
  have w : Wd G A s.heap (fl [wXo G.2.1 (ad 0) (xF ad) (svV sv) K, wSh G.2.1 (ad 1) S, wSh G.2.1 (ad 2) Fc, wTe G.2.1 (ad 4) C, wSb G.2.1 (ad 5) ou, wAd G.2.1 (ad 6) D, wAb G.2.1 (ad 7) B, wHo G.2.1 (ad 3) cu ct hs, [(fo, .inl (G.2.1 4, 1, .inr (.inl f0)))], hsL G.2.1 hs, blk G.2.1 sv]) _ _ := w
  refine lv_aload_n F.x F.b dL_release_0 rfl (lv_at hl 2 rfl) ?_
  refine lv_iconst (v := 0) F.x F.b dL_release_1 (by decide) ?_
  refine lv_aload_n F.x F.b dL_release_2 rfl (lv_at hl 0 rfl) ?_
  refine lv_iload_n F.x F.b dL_release_3 rfl (lv_at hl 1 rfl) ?_
  refine kXi F w hst (LC := [wXo G.2.1 (ad 0) (xF ad) (svV sv) K, wSh G.2.1 (ad 1) S, wSh G.2.1 (ad 2) Fc, wTe G.2.1 (ad 4) C, wSb G.2.1 (ad 5) ou, wAd G.2.1 (ad 6) D, wAb G.2.1 (ad 7) B, wHo G.2.1 (ad 3) cu ct hs, hsL G.2.1 hs, blk G.2.1 sv]) (LR := [[(fo, .inl (G.2.1 4, 1, .inr (.inl f0)))]]) (As := [.int x1]) (rest := [.int 0, .ref fo]) (k_release F.1 gM h hN) m_X6_release v_X6_release q1309 (ci := 10) (q0 := 0) rfl rfl rfl 11 [0, 1, 2, 3, 4, 5, 6, 7, 9, 10, 8] rfl rfl rfl ⟨Nat.le_of_ble_eq_true rfl, Nat.le_of_ble_eq_true rfl⟩ rfl hl.1 rfl (Nat.le_of_ble_eq_true rfl) dL_release_4 ⟨Nat.le_of_ble_eq_true rfl, Nat.le_of_ble_eq_true rfl⟩ (fun E w1 ce q H locs hx w hce hcv hcl => ?_) (fun r9 w1 H locs h9 w => ?_)
  · obtain ⟨K1, S1, Fc1, C1, D1, B1, cu1, ct1, hs1, sv1, ou1, M1, b1, k1, h9, e2, e3, hm, e4⟩ := hx
    have w := w.jn (L1 := [wXo G.2.1 (ad 0) (xF ad) (svV sv1) K1, wSh G.2.1 (ad 1) S1, wSh G.2.1 (ad 2) Fc1, wTe G.2.1 (ad 4) C1, wSb G.2.1 (ad 5) ou1, wAd G.2.1 (ad 6) D1, wAb G.2.1 (ad 7) B1, wHo G.2.1 (ad 3) cu1 ct1 hs1, hsL G.2.1 hs1, blk G.2.1 sv1]) (L' := [wXo G.2.1 (ad 0) (xF ad) (svV sv1) K1, wSh G.2.1 (ad 1) S1, wSh G.2.1 (ad 2) Fc1, wTe G.2.1 (ad 4) C1, wSb G.2.1 (ad 5) ou1, wAd G.2.1 (ad 6) D1, wAb G.2.1 (ad 7) B1, wHo G.2.1 (ad 3) cu1 ct1 hs1, [(fo, .inl (G.2.1 4, 1, .inr (.inl f0)))], hsL G.2.1 hs1, blk G.2.1 sv1]) h9 11 [0, 1, 2, 3, 4, 5, 6, 7, 10, 8, 9] rfl rfl rfl
    simp only [List.mem_cons, List.not_mem_nil, or_false, Prod.mk.injEq] at hm
    rcases hm with ⟨rfl, rfl⟩ | ⟨rfl, rfl⟩
    · refine vx_catch F.o (name := eNSE) (tableOf []) ⟨0, 9, 12, 25⟩ (tableOf [(0, 9, 15, 19)]) htab pass_nil rfl (by decide) (F.t _ (List.mem_of_getElem? (i := 979) (by decide +kernel)) rfl _) (F.t _ (List.mem_of_getElem? (i := 903) (by decide +kernel)) rfl _) hce hcv hcl ?_
      refine lv_astore_n (lv' := [(3, .ref q), (0, .ref ((ad 0) 0)), (1, .int x1), (2, .ref fo)]) F.x F.b dL_release_12 rfl hl (by decide) rfl (fun ls hl => ?_)
      refine lv_iconst (v := 1) F.x F.b dL_release_13 (by decide) ?_
      exact eiX F w hr hlocks rfl ⟨K1, S1, Fc1, C1, D1, B1, cu1, ct1, hs1, sv1, ou1, M1, b1, f0, rfl, e2, e3, e4, fun z => absurd z (by decide)⟩ (Nat.le_of_ble_eq_true rfl) (Nat.le_of_ble_eq_true rfl) dL_release_14
    · refine vx_catch F.o (name := eUOE) (tableOf [(0, 9, 12, 25)]) ⟨0, 9, 15, 19⟩ (tableOf []) htab (pass_cons F hNC (by decide) (T := eNSE) (List.mem_of_getElem? (i := 979) (by decide +kernel)) (by decide +kernel : eUOE ∈ allE) (by decide +kernel : eNSE ∈ allE) (by decide +kernel) pass_nil) rfl (by decide) (F.t _ (List.mem_of_getElem? (i := 871) (by decide +kernel)) rfl _) (F.t _ (List.mem_of_getElem? (i := 959) (by decide +kernel)) rfl _) hce hcv hcl ?_
      refine lv_astore_n (lv' := [(3, .ref q), (0, .ref ((ad 0) 0)), (1, .int x1), (2, .ref fo)]) F.x F.b dL_release_15 rfl hl (by decide) rfl (fun ls hl => ?_)
      refine lv_iconst (v := 2) F.x F.b dL_release_16 (by decide) ?_
      exact eiX F w hr hlocks rfl ⟨K1, S1, Fc1, C1, D1, B1, cu1, ct1, hs1, sv1, ou1, M1, b1, f0, rfl, e2, e3, e4, fun z => absurd z (by decide)⟩ (Nat.le_of_ble_eq_true rfl) (Nat.le_of_ble_eq_true rfl) dL_release_17
  · obtain ⟨K1, S1, Fc1, C1, D1, B1, cu1, ct1, hs1, sv1, ou1, M1, h9, e2, e3, e4⟩ := h9
    have w := w.jn (L1 := [wXo G.2.1 (ad 0) (xF ad) (svV sv1) K1, wSh G.2.1 (ad 1) S1, wSh G.2.1 (ad 2) Fc1, wTe G.2.1 (ad 4) C1, wSb G.2.1 (ad 5) ou1, wAd G.2.1 (ad 6) D1, wAb G.2.1 (ad 7) B1, wHo G.2.1 (ad 3) cu1 ct1 hs1, hsL G.2.1 hs1, blk G.2.1 sv1]) (L' := [wXo G.2.1 (ad 0) (xF ad) (svV sv1) K1, wSh G.2.1 (ad 1) S1, wSh G.2.1 (ad 2) Fc1, wTe G.2.1 (ad 4) C1, wSb G.2.1 (ad 5) ou1, wAd G.2.1 (ad 6) D1, wAb G.2.1 (ad 7) B1, wHo G.2.1 (ad 3) cu1 ct1 hs1, [(fo, .inl (G.2.1 4, 1, .inr (.inl f0)))], hsL G.2.1 hs1, blk G.2.1 sv1]) h9 11 [0, 1, 2, 3, 4, 5, 6, 7, 10, 8, 9] rfl rfl rfl
    refine lv_i2l (v := (Int32.toInt64 r9)) F.x F.b dL_release_7 rfl ?_
    refine rLs F w (ws' := fl [wXo G.2.1 (ad 0) (xF ad) (svV sv1) K1, wSh G.2.1 (ad 1) S1, wSh G.2.1 (ad 2) Fc1, wTe G.2.1 (ad 4) C1, wSb G.2.1 (ad 5) ou1, wAd G.2.1 (ad 6) D1, wAb G.2.1 (ad 7) B1, wHo G.2.1 (ad 3) cu1 ct1 hs1, [(fo, .inl (G.2.1 4, 1, .inr (.inl (vp_updL f0 (Int32.toNatClampNeg 0) (Int32.toInt64 r9)))))], hsL G.2.1 hs1, blk G.2.1 sv1]) 38 rfl (by decide) rfl dL_release_8 (fun H locs w => ?_)
    refine lv_goto (tgt := 18) F.x F.b dL_release_9 (by decide) ?_
    refine lv_iconst (v := 0) F.x F.b dL_release_18 (by decide) ?_
    exact eiX F w hr hlocks rfl ⟨K1, S1, Fc1, C1, D1, B1, cu1, ct1, hs1, sv1, ou1, M1, r9, _, rfl, e2, e3, e4, fun _ => updL0 _ _⟩ (Nat.le_of_ble_eq_true rfl) (Nat.le_of_ble_eq_true rfl) dL_release_19
set_option maxRecDepth 100000 in
set_option maxHeartbeats 4000000 in
theorem l_writeLot {G : cG} (g : GOK G) (gM : MG G) (hNC : NcG G) {ks kv : Nat → Nat} (hSG : SG G ks kv) (pv : PV G) {d1 d2 : Nat} (hD : DGs G d1 d2) {ad : Nat → Nat → Nat} {fo : Nat} {f0 : Nat → Int64} {N : Nat} {K S Fc C D B : Mem} {cu ct : Nat} {hs : hS} {sv : sV} {ou : oB} {M : Mem} {x1 : Int32} (h : Top N K S C cu ct hs sv ou M) : CXH G yL_writeLot cL_writeLot 4 [(0, 9, 12, 25)] 41 1600 20 200 [.ref ((ad 0) 0), .int x1, .ref fo] (fl (wLaw G.2.1 ad K S Fc C D B cu ct hs sv ou [(fo, .inl (G.2.1 4, 1, .inr (.inl f0)))])) (LOK G ad fo N (f_X7_writeLot M x1)) := by
  refine CXH.of g (by decide) rfl (Nat.le_of_ble_eq_true rfl) (List.mem_of_getElem? (i := 1355) (by decide +kernel)) (by rfl) ?_
  intro p l e s m below meth c A ls hst htab F hr hlocks w hl
  generalize ([.ref ((ad 0) 0), .int x1, .ref fo] : List Value).toArray = args
  have hl : lv_has ls 4 [(0, .ref ((ad 0) 0)), (1, .int x1), (2, .ref fo)] := hl
  have w : Wd G A s.heap (fl [wXo G.2.1 (ad 0) (xF ad) (svV sv) K, wSh G.2.1 (ad 1) S, wSh G.2.1 (ad 2) Fc, wTe G.2.1 (ad 4) C, wSb G.2.1 (ad 5) ou, wAd G.2.1 (ad 6) D, wAb G.2.1 (ad 7) B, wHo G.2.1 (ad 3) cu ct hs, [(fo, .inl (G.2.1 4, 1, .inr (.inl f0)))], hsL G.2.1 hs, blk G.2.1 sv]) _ _ := w
  refine lv_aload_n F.x F.b dL_writeLot_0 rfl (lv_at hl 2 rfl) ?_
  refine lv_iconst (v := 0) F.x F.b dL_writeLot_1 (by decide) ?_
  refine lv_aload_n F.x F.b dL_writeLot_2 rfl (lv_at hl 0 rfl) ?_
  refine lv_iload_n F.x F.b dL_writeLot_3 rfl (lv_at hl 1 rfl) ?_
  refine kXi F w hst (LC := [wXo G.2.1 (ad 0) (xF ad) (svV sv) K, wSh G.2.1 (ad 1) S, wSh G.2.1 (ad 2) Fc, wTe G.2.1 (ad 4) C, wSb G.2.1 (ad 5) ou, wAd G.2.1 (ad 6) D, wAb G.2.1 (ad 7) B, wHo G.2.1 (ad 3) cu ct hs, hsL G.2.1 hs, blk G.2.1 sv]) (LR := [[(fo, .inl (G.2.1 4, 1, .inr (.inl f0)))]]) (As := [.int x1]) (rest := [.int 0, .ref fo]) (k_writeLot F.1 gM hSG pv hD h) m_X6_writeLot v_X6_writeLot q1356 (ci := 10) (q0 := 0) rfl rfl rfl 11 [0, 1, 2, 3, 4, 5, 6, 7, 9, 10, 8] rfl rfl rfl ⟨Nat.le_of_ble_eq_true rfl, Nat.le_of_ble_eq_true rfl⟩ rfl hl.1 rfl (Nat.le_of_ble_eq_true rfl) dL_writeLot_4 ⟨Nat.le_of_ble_eq_true rfl, Nat.le_of_ble_eq_true rfl⟩ (fun E w1 ce q H locs hx w hce hcv hcl => ?_) (fun r9 w1 H locs h9 w => ?_)
  · obtain ⟨K1, S1, Fc1, C1, D1, B1, cu1, ct1, hs1, sv1, ou1, M1, b1, k1, h9, e2, e3, hm, e4⟩ := hx
    have w := w.jn (L1 := [wXo G.2.1 (ad 0) (xF ad) (svV sv1) K1, wSh G.2.1 (ad 1) S1, wSh G.2.1 (ad 2) Fc1, wTe G.2.1 (ad 4) C1, wSb G.2.1 (ad 5) ou1, wAd G.2.1 (ad 6) D1, wAb G.2.1 (ad 7) B1, wHo G.2.1 (ad 3) cu1 ct1 hs1, hsL G.2.1 hs1, blk G.2.1 sv1]) (L' := [wXo G.2.1 (ad 0) (xF ad) (svV sv1) K1, wSh G.2.1 (ad 1) S1, wSh G.2.1 (ad 2) Fc1, wTe G.2.1 (ad 4) C1, wSb G.2.1 (ad 5) ou1, wAd G.2.1 (ad 6) D1, wAb G.2.1 (ad 7) B1, wHo G.2.1 (ad 3) cu1 ct1 hs1, [(fo, .inl (G.2.1 4, 1, .inr (.inl f0)))], hsL G.2.1 hs1, blk G.2.1 sv1]) h9 11 [0, 1, 2, 3, 4, 5, 6, 7, 10, 8, 9] rfl rfl rfl
    simp only [List.mem_cons, List.not_mem_nil, or_false, Prod.mk.injEq] at hm
    obtain ⟨rfl, rfl⟩ := hm
    refine vx_catch F.o (name := eNSE) (tableOf []) ⟨0, 9, 12, 25⟩ (tableOf []) htab pass_nil rfl (by decide) (F.t _ (List.mem_of_getElem? (i := 979) (by decide +kernel)) rfl _) (F.t _ (List.mem_of_getElem? (i := 903) (by decide +kernel)) rfl _) hce hcv hcl ?_
    refine lv_astore_n (lv' := [(3, .ref q), (0, .ref ((ad 0) 0)), (1, .int x1), (2, .ref fo)]) F.x F.b dL_writeLot_12 rfl hl (by decide) rfl (fun ls hl => ?_)
    refine lv_iconst (v := 1) F.x F.b dL_writeLot_13 (by decide) ?_
    exact eiX F w hr hlocks rfl ⟨K1, S1, Fc1, C1, D1, B1, cu1, ct1, hs1, sv1, ou1, M1, b1, f0, rfl, e2, e3, e4, fun z => absurd z (by decide)⟩ (Nat.le_of_ble_eq_true rfl) (Nat.le_of_ble_eq_true rfl) dL_writeLot_14
  · obtain ⟨K1, S1, Fc1, C1, D1, B1, cu1, ct1, hs1, sv1, ou1, M1, h9, e2, e3, e4⟩ := h9
    have w := w.jn (L1 := [wXo G.2.1 (ad 0) (xF ad) (svV sv1) K1, wSh G.2.1 (ad 1) S1, wSh G.2.1 (ad 2) Fc1, wTe G.2.1 (ad 4) C1, wSb G.2.1 (ad 5) ou1, wAd G.2.1 (ad 6) D1, wAb G.2.1 (ad 7) B1, wHo G.2.1 (ad 3) cu1 ct1 hs1, hsL G.2.1 hs1, blk G.2.1 sv1]) (L' := [wXo G.2.1 (ad 0) (xF ad) (svV sv1) K1, wSh G.2.1 (ad 1) S1, wSh G.2.1 (ad 2) Fc1, wTe G.2.1 (ad 4) C1, wSb G.2.1 (ad 5) ou1, wAd G.2.1 (ad 6) D1, wAb G.2.1 (ad 7) B1, wHo G.2.1 (ad 3) cu1 ct1 hs1, [(fo, .inl (G.2.1 4, 1, .inr (.inl f0)))], hsL G.2.1 hs1, blk G.2.1 sv1]) h9 11 [0, 1, 2, 3, 4, 5, 6, 7, 10, 8, 9] rfl rfl rfl
    refine lv_i2l (v := (Int32.toInt64 r9)) F.x F.b dL_writeLot_7 rfl ?_
    refine rLs F w (ws' := fl [wXo G.2.1 (ad 0) (xF ad) (svV sv1) K1, wSh G.2.1 (ad 1) S1, wSh G.2.1 (ad 2) Fc1, wTe G.2.1 (ad 4) C1, wSb G.2.1 (ad 5) ou1, wAd G.2.1 (ad 6) D1, wAb G.2.1 (ad 7) B1, wHo G.2.1 (ad 3) cu1 ct1 hs1, [(fo, .inl (G.2.1 4, 1, .inr (.inl (vp_updL f0 (Int32.toNatClampNeg 0) (Int32.toInt64 r9)))))], hsL G.2.1 hs1, blk G.2.1 sv1]) 38 rfl (by decide) rfl dL_writeLot_8 (fun H locs w => ?_)
    refine lv_goto (tgt := 15) F.x F.b dL_writeLot_9 (by decide) ?_
    refine lv_iconst (v := 0) F.x F.b dL_writeLot_15 (by decide) ?_
    exact eiX F w hr hlocks rfl ⟨K1, S1, Fc1, C1, D1, B1, cu1, ct1, hs1, sv1, ou1, M1, r9, _, rfl, e2, e3, e4, fun _ => updL0 _ _⟩ (Nat.le_of_ble_eq_true rfl) (Nat.le_of_ble_eq_true rfl) dL_writeLot_16
set_option maxRecDepth 100000 in
set_option maxHeartbeats 4000000 in
theorem l_outputCharacter {G : cG} (g : GOK G) (gM : MG G) (hNC : NcG G) {ks kv : Nat → Nat} (hSG : SG G ks kv) (pv : PV G) {d1 d2 : Nat} (hD : DGs G d1 d2) {ad : Nat → Nat → Nat} {fo : Nat} {f0 : Nat → Int64} {N : Nat} {K S Fc C D B : Mem} {cu ct : Nat} {hs : hS} {sv : sV} {ou : oB} {M : Mem} {x1 : Int32} (h : Top N K S C cu ct hs sv ou M) : CXH G yL_outputCharacter cL_outputCharacter 4 [(0, 9, 12, 13)] 41 1600 20 200 [.ref ((ad 0) 0), .int x1, .ref fo] (fl (wLaw G.2.1 ad K S Fc C D B cu ct hs sv ou [(fo, .inl (G.2.1 4, 1, .inr (.inl f0)))])) (LOK G ad fo N (f_X7_outputCharacter M x1)) := by
  refine CXH.of g (by decide) rfl (Nat.le_of_ble_eq_true rfl) (List.mem_of_getElem? (i := 1364) (by decide +kernel)) (by rfl) ?_
  intro p l e s m below meth c A ls hst htab F hr hlocks w hl
  generalize ([.ref ((ad 0) 0), .int x1, .ref fo] : List Value).toArray = args
  have hl : lv_has ls 4 [(0, .ref ((ad 0) 0)), (1, .int x1), (2, .ref fo)] := hl
  have w : Wd G A s.heap (fl [wXo G.2.1 (ad 0) (xF ad) (svV sv) K, wSh G.2.1 (ad 1) S, wSh G.2.1 (ad 2) Fc, wTe G.2.1 (ad 4) C, wSb G.2.1 (ad 5) ou, wAd G.2.1 (ad 6) D, wAb G.2.1 (ad 7) B, wHo G.2.1 (ad 3) cu ct hs, [(fo, .inl (G.2.1 4, 1, .inr (.inl f0)))], hsL G.2.1 hs, blk G.2.1 sv]) _ _ := w
  refine lv_aload_n F.x F.b dL_outputCharacter_0 rfl (lv_at hl 2 rfl) ?_
  refine lv_iconst (v := 0) F.x F.b dL_outputCharacter_1 (by decide) ?_
  refine lv_aload_n F.x F.b dL_outputCharacter_2 rfl (lv_at hl 0 rfl) ?_
  refine lv_iload_n F.x F.b dL_outputCharacter_3 rfl (lv_at hl 1 rfl) ?_
  refine kXi F w hst (LC := [wXo G.2.1 (ad 0) (xF ad) (svV sv) K, wSh G.2.1 (ad 1) S, wSh G.2.1 (ad 2) Fc, wTe G.2.1 (ad 4) C, wSb G.2.1 (ad 5) ou, wAd G.2.1 (ad 6) D, wAb G.2.1 (ad 7) B, wHo G.2.1 (ad 3) cu ct hs, hsL G.2.1 hs, blk G.2.1 sv]) (LR := [[(fo, .inl (G.2.1 4, 1, .inr (.inl f0)))]]) (As := [.int x1]) (rest := [.int 0, .ref fo]) (k_outputCharacter F.1 gM hSG pv hD h) m_X6_outputCharacter v_X6_outputCharacter q1365 (ci := 10) (q0 := 0) rfl rfl rfl 11 [0, 1, 2, 3, 4, 5, 6, 7, 9, 10, 8] rfl rfl rfl ⟨Nat.le_of_ble_eq_true rfl, Nat.le_of_ble_eq_true rfl⟩ rfl hl.1 rfl (Nat.le_of_ble_eq_true rfl) dL_outputCharacter_4 ⟨Nat.le_of_ble_eq_true rfl, Nat.le_of_ble_eq_true rfl⟩ (fun E w1 ce q H locs hx w hce hcv hcl => ?_) (fun r9 w1 H locs h9 w => ?_)
  · obtain ⟨K1, S1, Fc1, C1, D1, B1, cu1, ct1, hs1, sv1, ou1, M1, b1, k1, h9, e2, e3, hm, e4⟩ := hx
    have w := w.jn (L1 := [wXo G.2.1 (ad 0) (xF ad) (svV sv1) K1, wSh G.2.1 (ad 1) S1, wSh G.2.1 (ad 2) Fc1, wTe G.2.1 (ad 4) C1, wSb G.2.1 (ad 5) ou1, wAd G.2.1 (ad 6) D1, wAb G.2.1 (ad 7) B1, wHo G.2.1 (ad 3) cu1 ct1 hs1, hsL G.2.1 hs1, blk G.2.1 sv1]) (L' := [wXo G.2.1 (ad 0) (xF ad) (svV sv1) K1, wSh G.2.1 (ad 1) S1, wSh G.2.1 (ad 2) Fc1, wTe G.2.1 (ad 4) C1, wSb G.2.1 (ad 5) ou1, wAd G.2.1 (ad 6) D1, wAb G.2.1 (ad 7) B1, wHo G.2.1 (ad 3) cu1 ct1 hs1, [(fo, .inl (G.2.1 4, 1, .inr (.inl f0)))], hsL G.2.1 hs1, blk G.2.1 sv1]) h9 11 [0, 1, 2, 3, 4, 5, 6, 7, 10, 8, 9] rfl rfl rfl
    simp only [List.mem_cons, List.not_mem_nil, or_false, Prod.mk.injEq] at hm
    obtain ⟨rfl, rfl⟩ := hm
    refine vx_catch F.o (name := eIOB) (tableOf []) ⟨0, 9, 12, 13⟩ (tableOf []) htab pass_nil rfl (by decide) (F.t _ (List.mem_of_getElem? (i := 866) (by decide +kernel)) rfl _) (F.t _ (List.mem_of_getElem? (i := 924) (by decide +kernel)) rfl _) hce hcv hcl ?_
    refine lv_astore_n (lv' := [(3, .ref q), (0, .ref ((ad 0) 0)), (1, .int x1), (2, .ref fo)]) F.x F.b dL_outputCharacter_12 rfl hl (by decide) rfl (fun ls hl => ?_)
    refine lv_iconst (v := 1) F.x F.b dL_outputCharacter_13 (by decide) ?_
    exact eiX F w hr hlocks rfl ⟨K1, S1, Fc1, C1, D1, B1, cu1, ct1, hs1, sv1, ou1, M1, b1, f0, rfl, e2, e3, e4, fun z => absurd z (by decide)⟩ (Nat.le_of_ble_eq_true rfl) (Nat.le_of_ble_eq_true rfl) dL_outputCharacter_14
  · obtain ⟨K1, S1, Fc1, C1, D1, B1, cu1, ct1, hs1, sv1, ou1, M1, h9, e2, e3, e4⟩ := h9
    have w := w.jn (L1 := [wXo G.2.1 (ad 0) (xF ad) (svV sv1) K1, wSh G.2.1 (ad 1) S1, wSh G.2.1 (ad 2) Fc1, wTe G.2.1 (ad 4) C1, wSb G.2.1 (ad 5) ou1, wAd G.2.1 (ad 6) D1, wAb G.2.1 (ad 7) B1, wHo G.2.1 (ad 3) cu1 ct1 hs1, hsL G.2.1 hs1, blk G.2.1 sv1]) (L' := [wXo G.2.1 (ad 0) (xF ad) (svV sv1) K1, wSh G.2.1 (ad 1) S1, wSh G.2.1 (ad 2) Fc1, wTe G.2.1 (ad 4) C1, wSb G.2.1 (ad 5) ou1, wAd G.2.1 (ad 6) D1, wAb G.2.1 (ad 7) B1, wHo G.2.1 (ad 3) cu1 ct1 hs1, [(fo, .inl (G.2.1 4, 1, .inr (.inl f0)))], hsL G.2.1 hs1, blk G.2.1 sv1]) h9 11 [0, 1, 2, 3, 4, 5, 6, 7, 10, 8, 9] rfl rfl rfl
    refine lv_i2l (v := (Int32.toInt64 r9)) F.x F.b dL_outputCharacter_7 rfl ?_
    refine rLs F w (ws' := fl [wXo G.2.1 (ad 0) (xF ad) (svV sv1) K1, wSh G.2.1 (ad 1) S1, wSh G.2.1 (ad 2) Fc1, wTe G.2.1 (ad 4) C1, wSb G.2.1 (ad 5) ou1, wAd G.2.1 (ad 6) D1, wAb G.2.1 (ad 7) B1, wHo G.2.1 (ad 3) cu1 ct1 hs1, [(fo, .inl (G.2.1 4, 1, .inr (.inl (vp_updL f0 (Int32.toNatClampNeg 0) (Int32.toInt64 r9)))))], hsL G.2.1 hs1, blk G.2.1 sv1]) 38 rfl (by decide) rfl dL_outputCharacter_8 (fun H locs w => ?_)
    refine lv_goto (tgt := 15) F.x F.b dL_outputCharacter_9 (by decide) ?_
    refine lv_iconst (v := 0) F.x F.b dL_outputCharacter_15 (by decide) ?_
    exact eiX F w hr hlocks rfl ⟨K1, S1, Fc1, C1, D1, B1, cu1, ct1, hs1, sv1, ou1, M1, r9, _, rfl, e2, e3, e4, fun _ => updL0 _ _⟩ (Nat.le_of_ble_eq_true rfl) (Nat.le_of_ble_eq_true rfl) dL_outputCharacter_16
set_option maxRecDepth 100000 in
set_option maxHeartbeats 4000000 in
theorem l_feed {G : cG} (g : GOK G) (gM : MG G) (hNC : NcG G) {ad : Nat → Nat → Nat} {fo : Nat} {f0 : Nat → Int64} {N : Nat} {K S Fc C D B : Mem} {cu ct : Nat} {hs : hS} {sv : sV} {ou : oB} {M : Mem} (h : Top N K S C cu ct hs sv ou M) {cc : Nat} (hcc : cc < 65536) : CXH G yL_feed cL_feed 4 [(0, 9, 12, 17)] 41 1600 20 200 [.ref ((ad 0) 0), .int (nI cc), .ref fo] (fl (wLaw G.2.1 ad K S Fc C D B cu ct hs sv ou [(fo, .inl (G.2.1 4, 1, .inr (.inl f0)))])) (LOK G ad fo N (f_X7_feed M (nI cc))) := by
  refine CXH.of g (by decide) rfl (Nat.le_of_ble_eq_true rfl) (List.mem_of_getElem? (i := 1381) (by decide +kernel)) (by rfl) ?_
  intro p l e s m below meth c A ls hst htab F hr hlocks w hl
  generalize ([.ref ((ad 0) 0), .int (nI cc), .ref fo] : List Value).toArray = args
  have hl : lv_has ls 4 [(0, .ref ((ad 0) 0)), (1, .int (nI cc)), (2, .ref fo)] := hl
  have w : Wd G A s.heap (fl [wXo G.2.1 (ad 0) (xF ad) (svV sv) K, wSh G.2.1 (ad 1) S, wSh G.2.1 (ad 2) Fc, wTe G.2.1 (ad 4) C, wSb G.2.1 (ad 5) ou, wAd G.2.1 (ad 6) D, wAb G.2.1 (ad 7) B, wHo G.2.1 (ad 3) cu ct hs, [(fo, .inl (G.2.1 4, 1, .inr (.inl f0)))], hsL G.2.1 hs, blk G.2.1 sv]) _ _ := w
  refine lv_aload_n F.x F.b dL_feed_0 rfl (lv_at hl 2 rfl) ?_
  refine lv_iconst (v := 0) F.x F.b dL_feed_1 (by decide) ?_
  refine lv_aload_n F.x F.b dL_feed_2 rfl (lv_at hl 0 rfl) ?_
  refine lv_iload_n F.x F.b dL_feed_3 rfl (lv_at hl 1 rfl) ?_
  refine kXi F w hst (LC := [wXo G.2.1 (ad 0) (xF ad) (svV sv) K, wSh G.2.1 (ad 1) S, wSh G.2.1 (ad 2) Fc, wTe G.2.1 (ad 4) C, wSb G.2.1 (ad 5) ou, wAd G.2.1 (ad 6) D, wAb G.2.1 (ad 7) B, wHo G.2.1 (ad 3) cu ct hs, hsL G.2.1 hs, blk G.2.1 sv]) (LR := [[(fo, .inl (G.2.1 4, 1, .inr (.inl f0)))]]) (As := [.int (nI cc)]) (rest := [.int 0, .ref fo]) (k_feed F.1 gM h hcc) m_X6_feed v_X6_feed q1382 (ci := 10) (q0 := 0) rfl rfl rfl 11 [0, 1, 2, 3, 4, 5, 6, 7, 9, 10, 8] rfl rfl rfl ⟨Nat.le_of_ble_eq_true rfl, Nat.le_of_ble_eq_true rfl⟩ rfl hl.1 rfl (Nat.le_of_ble_eq_true rfl) dL_feed_4 ⟨Nat.le_of_ble_eq_true rfl, Nat.le_of_ble_eq_true rfl⟩ (fun E w1 ce q H locs hx w hce hcv hcl => ?_) (fun r9 w1 H locs h9 w => ?_)
  · obtain ⟨K1, S1, Fc1, C1, D1, B1, cu1, ct1, hs1, sv1, ou1, M1, b1, k1, h9, e2, e3, hm, e4⟩ := hx
    have w := w.jn (L1 := [wXo G.2.1 (ad 0) (xF ad) (svV sv1) K1, wSh G.2.1 (ad 1) S1, wSh G.2.1 (ad 2) Fc1, wTe G.2.1 (ad 4) C1, wSb G.2.1 (ad 5) ou1, wAd G.2.1 (ad 6) D1, wAb G.2.1 (ad 7) B1, wHo G.2.1 (ad 3) cu1 ct1 hs1, hsL G.2.1 hs1, blk G.2.1 sv1]) (L' := [wXo G.2.1 (ad 0) (xF ad) (svV sv1) K1, wSh G.2.1 (ad 1) S1, wSh G.2.1 (ad 2) Fc1, wTe G.2.1 (ad 4) C1, wSb G.2.1 (ad 5) ou1, wAd G.2.1 (ad 6) D1, wAb G.2.1 (ad 7) B1, wHo G.2.1 (ad 3) cu1 ct1 hs1, [(fo, .inl (G.2.1 4, 1, .inr (.inl f0)))], hsL G.2.1 hs1, blk G.2.1 sv1]) h9 11 [0, 1, 2, 3, 4, 5, 6, 7, 10, 8, 9] rfl rfl rfl
    simp only [List.mem_cons, List.not_mem_nil, or_false, Prod.mk.injEq] at hm
    obtain ⟨rfl, rfl⟩ := hm
    refine vx_catch F.o (name := eISE) (tableOf []) ⟨0, 9, 12, 17⟩ (tableOf []) htab pass_nil rfl (by decide) (F.t _ (List.mem_of_getElem? (i := 870) (by decide +kernel)) rfl _) (F.t _ (List.mem_of_getElem? (i := 944) (by decide +kernel)) rfl _) hce hcv hcl ?_
    refine lv_astore_n (lv' := [(3, .ref q), (0, .ref ((ad 0) 0)), (1, .int (nI cc)), (2, .ref fo)]) F.x F.b dL_feed_12 rfl hl (by decide) rfl (fun ls hl => ?_)
    refine lv_iconst (v := 1) F.x F.b dL_feed_13 (by decide) ?_
    exact eiX F w hr hlocks rfl ⟨K1, S1, Fc1, C1, D1, B1, cu1, ct1, hs1, sv1, ou1, M1, b1, f0, rfl, e2, e3, e4, fun z => absurd z (by decide)⟩ (Nat.le_of_ble_eq_true rfl) (Nat.le_of_ble_eq_true rfl) dL_feed_14
  · obtain ⟨K1, S1, Fc1, C1, D1, B1, cu1, ct1, hs1, sv1, ou1, M1, h9, e2, e3, e4⟩ := h9
    have w := w.jn (L1 := [wXo G.2.1 (ad 0) (xF ad) (svV sv1) K1, wSh G.2.1 (ad 1) S1, wSh G.2.1 (ad 2) Fc1, wTe G.2.1 (ad 4) C1, wSb G.2.1 (ad 5) ou1, wAd G.2.1 (ad 6) D1, wAb G.2.1 (ad 7) B1, wHo G.2.1 (ad 3) cu1 ct1 hs1, hsL G.2.1 hs1, blk G.2.1 sv1]) (L' := [wXo G.2.1 (ad 0) (xF ad) (svV sv1) K1, wSh G.2.1 (ad 1) S1, wSh G.2.1 (ad 2) Fc1, wTe G.2.1 (ad 4) C1, wSb G.2.1 (ad 5) ou1, wAd G.2.1 (ad 6) D1, wAb G.2.1 (ad 7) B1, wHo G.2.1 (ad 3) cu1 ct1 hs1, [(fo, .inl (G.2.1 4, 1, .inr (.inl f0)))], hsL G.2.1 hs1, blk G.2.1 sv1]) h9 11 [0, 1, 2, 3, 4, 5, 6, 7, 10, 8, 9] rfl rfl rfl
    refine lv_i2l (v := (Int32.toInt64 r9)) F.x F.b dL_feed_7 rfl ?_
    refine rLs F w (ws' := fl [wXo G.2.1 (ad 0) (xF ad) (svV sv1) K1, wSh G.2.1 (ad 1) S1, wSh G.2.1 (ad 2) Fc1, wTe G.2.1 (ad 4) C1, wSb G.2.1 (ad 5) ou1, wAd G.2.1 (ad 6) D1, wAb G.2.1 (ad 7) B1, wHo G.2.1 (ad 3) cu1 ct1 hs1, [(fo, .inl (G.2.1 4, 1, .inr (.inl (vp_updL f0 (Int32.toNatClampNeg 0) (Int32.toInt64 r9)))))], hsL G.2.1 hs1, blk G.2.1 sv1]) 38 rfl (by decide) rfl dL_feed_8 (fun H locs w => ?_)
    refine lv_goto (tgt := 15) F.x F.b dL_feed_9 (by decide) ?_
    refine lv_iconst (v := 0) F.x F.b dL_feed_15 (by decide) ?_
    exact eiX F w hr hlocks rfl ⟨K1, S1, Fc1, C1, D1, B1, cu1, ct1, hs1, sv1, ou1, M1, r9, _, rfl, e2, e3, e4, fun _ => updL0 _ _⟩ (Nat.le_of_ble_eq_true rfl) (Nat.le_of_ble_eq_true rfl) dL_feed_16
set_option maxRecDepth 100000 in
set_option maxHeartbeats 4000000 in
theorem l_execute {G : cG} (g : GOK G) (gM : MG G) (hNC : NcG G) {ks kv : Nat → Nat} (hSG : SG G ks kv) {ad : Nat → Nat → Nat} {fo : Nat} {f0 : Nat → Int64} {N : Nat} {K S Fc C D B : Mem} {cu ct : Nat} {hs : hS} {sv : sV} {ou : oB} {M : Mem} (h : Top N K S C cu ct hs sv ou M) (hN : N < 2 ^ 29) : CXH G yL_execute cL_execute 3 [(0, 8, 11, 15), (0, 8, 14, 19)] 41 1600 20 200 [.ref ((ad 0) 0), .ref fo] (fl (wLaw G.2.1 ad K S Fc C D B cu ct hs sv ou [(fo, .inl (G.2.1 4, 1, .inr (.inl f0)))])) (LOK G ad fo N (f_X7_execute M)) := by
  refine CXH.of g (by decide) rfl (Nat.le_of_ble_eq_true rfl) (List.mem_of_getElem? (i := 1397) (by decide +kernel)) (by rfl) ?_
  intro p l e s m below meth c A ls hst htab F hr hlocks w hl
  generalize ([.ref ((ad 0) 0), .ref fo] : List Value).toArray = args
  have hl : lv_has ls 3 [(0, .ref ((ad 0) 0)), (1, .ref fo)] := hl
  have w : Wd G A s.heap (fl [wXo G.2.1 (ad 0) (xF ad) (svV sv) K, wSh G.2.1 (ad 1) S, wSh G.2.1 (ad 2) Fc, wTe G.2.1 (ad 4) C, wSb G.2.1 (ad 5) ou, wAd G.2.1 (ad 6) D, wAb G.2.1 (ad 7) B, wHo G.2.1 (ad 3) cu ct hs, [(fo, .inl (G.2.1 4, 1, .inr (.inl f0)))], hsL G.2.1 hs, blk G.2.1 sv]) _ _ := w
  refine lv_aload_n F.x F.b dL_execute_0 rfl (lv_at hl 1 rfl) ?_
  refine lv_iconst (v := 0) F.x F.b dL_execute_1 (by decide) ?_
  refine lv_aload_n F.x F.b dL_execute_2 rfl (lv_at hl 0 rfl) ?_
  refine kXi F w hst (LC := [wXo G.2.1 (ad 0) (xF ad) (svV sv) K, wSh G.2.1 (ad 1) S, wSh G.2.1 (ad 2) Fc, wTe G.2.1 (ad 4) C, wSb G.2.1 (ad 5) ou, wAd G.2.1 (ad 6) D, wAb G.2.1 (ad 7) B, wHo G.2.1 (ad 3) cu ct hs, hsL G.2.1 hs, blk G.2.1 sv]) (LR := [[(fo, .inl (G.2.1 4, 1, .inr (.inl f0)))]]) (As := []) (rest := [.int 0, .ref fo]) (k_execute F.1 gM hSG h hN) m_X6_execute v_X6_execute q1398 (ci := 10) (q0 := 0) rfl rfl rfl 11 [0, 1, 2, 3, 4, 5, 6, 7, 9, 10, 8] rfl rfl rfl ⟨Nat.le_of_ble_eq_true rfl, Nat.le_of_ble_eq_true rfl⟩ rfl hl.1 rfl (Nat.le_of_ble_eq_true rfl) dL_execute_3 ⟨Nat.le_of_ble_eq_true rfl, Nat.le_of_ble_eq_true rfl⟩ (fun E w1 ce q H locs hx w hce hcv hcl => ?_) (fun r9 w1 H locs h9 w => ?_)
  · obtain ⟨K1, S1, Fc1, C1, D1, B1, cu1, ct1, hs1, sv1, ou1, M1, b1, k1, h9, e2, e3, hm, e4⟩ := hx
    have w := w.jn (L1 := [wXo G.2.1 (ad 0) (xF ad) (svV sv1) K1, wSh G.2.1 (ad 1) S1, wSh G.2.1 (ad 2) Fc1, wTe G.2.1 (ad 4) C1, wSb G.2.1 (ad 5) ou1, wAd G.2.1 (ad 6) D1, wAb G.2.1 (ad 7) B1, wHo G.2.1 (ad 3) cu1 ct1 hs1, hsL G.2.1 hs1, blk G.2.1 sv1]) (L' := [wXo G.2.1 (ad 0) (xF ad) (svV sv1) K1, wSh G.2.1 (ad 1) S1, wSh G.2.1 (ad 2) Fc1, wTe G.2.1 (ad 4) C1, wSb G.2.1 (ad 5) ou1, wAd G.2.1 (ad 6) D1, wAb G.2.1 (ad 7) B1, wHo G.2.1 (ad 3) cu1 ct1 hs1, [(fo, .inl (G.2.1 4, 1, .inr (.inl f0)))], hsL G.2.1 hs1, blk G.2.1 sv1]) h9 11 [0, 1, 2, 3, 4, 5, 6, 7, 10, 8, 9] rfl rfl rfl
    simp only [List.mem_cons, List.not_mem_nil, or_false, Prod.mk.injEq] at hm
    rcases hm with ⟨rfl, rfl⟩ | ⟨rfl, rfl⟩
    · refine vx_catch F.o (name := eIAE) (tableOf []) ⟨0, 8, 11, 15⟩ (tableOf [(0, 8, 14, 19)]) htab pass_nil rfl (by decide) (F.t _ (List.mem_of_getElem? (i := 869) (by decide +kernel)) rfl _) (F.t _ (List.mem_of_getElem? (i := 647) (by decide +kernel)) rfl _) hce hcv hcl ?_
      refine lv_astore_n (lv' := [(2, .ref q), (0, .ref ((ad 0) 0)), (1, .ref fo)]) F.x F.b dL_execute_11 rfl hl (by decide) rfl (fun ls hl => ?_)
      refine lv_iconst (v := 1) F.x F.b dL_execute_12 (by decide) ?_
      exact eiX F w hr hlocks rfl ⟨K1, S1, Fc1, C1, D1, B1, cu1, ct1, hs1, sv1, ou1, M1, b1, f0, rfl, e2, e3, e4, fun z => absurd z (by decide)⟩ (Nat.le_of_ble_eq_true rfl) (Nat.le_of_ble_eq_true rfl) dL_execute_13
    · refine vx_catch F.o (name := eUOE) (tableOf [(0, 8, 11, 15)]) ⟨0, 8, 14, 19⟩ (tableOf []) htab (pass_cons F hNC (by decide) (T := eIAE) (List.mem_of_getElem? (i := 869) (by decide +kernel)) (by decide +kernel : eUOE ∈ allE) (by decide +kernel : eIAE ∈ allE) (by decide +kernel) pass_nil) rfl (by decide) (F.t _ (List.mem_of_getElem? (i := 871) (by decide +kernel)) rfl _) (F.t _ (List.mem_of_getElem? (i := 959) (by decide +kernel)) rfl _) hce hcv hcl ?_
      refine lv_astore_n (lv' := [(2, .ref q), (0, .ref ((ad 0) 0)), (1, .ref fo)]) F.x F.b dL_execute_14 rfl hl (by decide) rfl (fun ls hl => ?_)
      refine lv_iconst (v := 2) F.x F.b dL_execute_15 (by decide) ?_
      exact eiX F w hr hlocks rfl ⟨K1, S1, Fc1, C1, D1, B1, cu1, ct1, hs1, sv1, ou1, M1, b1, f0, rfl, e2, e3, e4, fun z => absurd z (by decide)⟩ (Nat.le_of_ble_eq_true rfl) (Nat.le_of_ble_eq_true rfl) dL_execute_16
  · obtain ⟨K1, S1, Fc1, C1, D1, B1, cu1, ct1, hs1, sv1, ou1, M1, h9, e2, e3, e4⟩ := h9
    have w := w.jn (L1 := [wXo G.2.1 (ad 0) (xF ad) (svV sv1) K1, wSh G.2.1 (ad 1) S1, wSh G.2.1 (ad 2) Fc1, wTe G.2.1 (ad 4) C1, wSb G.2.1 (ad 5) ou1, wAd G.2.1 (ad 6) D1, wAb G.2.1 (ad 7) B1, wHo G.2.1 (ad 3) cu1 ct1 hs1, hsL G.2.1 hs1, blk G.2.1 sv1]) (L' := [wXo G.2.1 (ad 0) (xF ad) (svV sv1) K1, wSh G.2.1 (ad 1) S1, wSh G.2.1 (ad 2) Fc1, wTe G.2.1 (ad 4) C1, wSb G.2.1 (ad 5) ou1, wAd G.2.1 (ad 6) D1, wAb G.2.1 (ad 7) B1, wHo G.2.1 (ad 3) cu1 ct1 hs1, [(fo, .inl (G.2.1 4, 1, .inr (.inl f0)))], hsL G.2.1 hs1, blk G.2.1 sv1]) h9 11 [0, 1, 2, 3, 4, 5, 6, 7, 10, 8, 9] rfl rfl rfl
    refine lv_i2l (v := (Int32.toInt64 r9)) F.x F.b dL_execute_6 rfl ?_
    refine rLs F w (ws' := fl [wXo G.2.1 (ad 0) (xF ad) (svV sv1) K1, wSh G.2.1 (ad 1) S1, wSh G.2.1 (ad 2) Fc1, wTe G.2.1 (ad 4) C1, wSb G.2.1 (ad 5) ou1, wAd G.2.1 (ad 6) D1, wAb G.2.1 (ad 7) B1, wHo G.2.1 (ad 3) cu1 ct1 hs1, [(fo, .inl (G.2.1 4, 1, .inr (.inl (vp_updL f0 (Int32.toNatClampNeg 0) (Int32.toInt64 r9)))))], hsL G.2.1 hs1, blk G.2.1 sv1]) 38 rfl (by decide) rfl dL_execute_7 (fun H locs w => ?_)
    refine lv_goto (tgt := 17) F.x F.b dL_execute_8 (by decide) ?_
    refine lv_iconst (v := 0) F.x F.b dL_execute_17 (by decide) ?_
    exact eiX F w hr hlocks rfl ⟨K1, S1, Fc1, C1, D1, B1, cu1, ct1, hs1, sv1, ou1, M1, r9, _, rfl, e2, e3, e4, fun _ => updL0 _ _⟩ (Nat.le_of_ble_eq_true rfl) (Nat.le_of_ble_eq_true rfl) dL_execute_18
set_option maxRecDepth 100000 in
set_option maxHeartbeats 4000000 in
theorem l_errorPosition {G : cG} (g : GOK G) (gM : MG G) (hNC : NcG G) {ad : Nat → Nat → Nat} {fo : Nat} {f0 : Nat → Int64} {N : Nat} {K S Fc C D B : Mem} {cu ct : Nat} {hs : hS} {sv : sV} {ou : oB} {M : Mem} (h : Top N K S C cu ct hs sv ou M) : CXH G yL_errorPosition cL_errorPosition 3 [(0, 8, 11, 25)] 41 1600 20 200 [.ref ((ad 0) 0), .ref fo] (fl (wLaw G.2.1 ad K S Fc C D B cu ct hs sv ou [(fo, .inl (G.2.1 4, 1, .inr (.inl f0)))])) (LOK G ad fo N (f_X7_errorPosition M)) := by
  refine CXH.of g (by decide) rfl (Nat.le_of_ble_eq_true rfl) (List.mem_of_getElem? (i := 1502) (by decide +kernel)) (by rfl) ?_
  intro p l e s m below meth c A ls hst htab F hr hlocks w hl
  generalize ([.ref ((ad 0) 0), .ref fo] : List Value).toArray = args
  have hl : lv_has ls 3 [(0, .ref ((ad 0) 0)), (1, .ref fo)] := hl
  have w : Wd G A s.heap (fl [wXo G.2.1 (ad 0) (xF ad) (svV sv) K, wSh G.2.1 (ad 1) S, wSh G.2.1 (ad 2) Fc, wTe G.2.1 (ad 4) C, wSb G.2.1 (ad 5) ou, wAd G.2.1 (ad 6) D, wAb G.2.1 (ad 7) B, wHo G.2.1 (ad 3) cu ct hs, [(fo, .inl (G.2.1 4, 1, .inr (.inl f0)))], hsL G.2.1 hs, blk G.2.1 sv]) _ _ := w
  refine lv_aload_n F.x F.b dL_errorPosition_0 rfl (lv_at hl 1 rfl) ?_
  refine lv_iconst (v := 0) F.x F.b dL_errorPosition_1 (by decide) ?_
  refine lv_aload_n F.x F.b dL_errorPosition_2 rfl (lv_at hl 0 rfl) ?_
  refine kXi F w hst (LC := [wXo G.2.1 (ad 0) (xF ad) (svV sv) K, wSh G.2.1 (ad 1) S, wSh G.2.1 (ad 2) Fc, wTe G.2.1 (ad 4) C, wSb G.2.1 (ad 5) ou, wAd G.2.1 (ad 6) D, wAb G.2.1 (ad 7) B, wHo G.2.1 (ad 3) cu ct hs, hsL G.2.1 hs, blk G.2.1 sv]) (LR := [[(fo, .inl (G.2.1 4, 1, .inr (.inl f0)))]]) (As := []) (rest := [.int 0, .ref fo]) (k_errorPosition F.1 gM h) m_X6_errorPosition v_X6_errorPosition q1503 (ci := 10) (q0 := 0) rfl rfl rfl 11 [0, 1, 2, 3, 4, 5, 6, 7, 9, 10, 8] rfl rfl rfl ⟨Nat.le_of_ble_eq_true rfl, Nat.le_of_ble_eq_true rfl⟩ rfl hl.1 rfl (Nat.le_of_ble_eq_true rfl) dL_errorPosition_3 ⟨Nat.le_of_ble_eq_true rfl, Nat.le_of_ble_eq_true rfl⟩ (fun E w1 ce q H locs hx w hce hcv hcl => ?_) (fun r9 w1 H locs h9 w => ?_)
  · obtain ⟨K1, S1, Fc1, C1, D1, B1, cu1, ct1, hs1, sv1, ou1, M1, b1, k1, h9, e2, e3, hm, e4⟩ := hx
    have w := w.jn (L1 := [wXo G.2.1 (ad 0) (xF ad) (svV sv1) K1, wSh G.2.1 (ad 1) S1, wSh G.2.1 (ad 2) Fc1, wTe G.2.1 (ad 4) C1, wSb G.2.1 (ad 5) ou1, wAd G.2.1 (ad 6) D1, wAb G.2.1 (ad 7) B1, wHo G.2.1 (ad 3) cu1 ct1 hs1, hsL G.2.1 hs1, blk G.2.1 sv1]) (L' := [wXo G.2.1 (ad 0) (xF ad) (svV sv1) K1, wSh G.2.1 (ad 1) S1, wSh G.2.1 (ad 2) Fc1, wTe G.2.1 (ad 4) C1, wSb G.2.1 (ad 5) ou1, wAd G.2.1 (ad 6) D1, wAb G.2.1 (ad 7) B1, wHo G.2.1 (ad 3) cu1 ct1 hs1, [(fo, .inl (G.2.1 4, 1, .inr (.inl f0)))], hsL G.2.1 hs1, blk G.2.1 sv1]) h9 11 [0, 1, 2, 3, 4, 5, 6, 7, 10, 8, 9] rfl rfl rfl
    simp only [List.mem_cons, List.not_mem_nil, or_false, Prod.mk.injEq] at hm
    obtain ⟨rfl, rfl⟩ := hm
    refine vx_catch F.o (name := eNSE) (tableOf []) ⟨0, 8, 11, 25⟩ (tableOf []) htab pass_nil rfl (by decide) (F.t _ (List.mem_of_getElem? (i := 979) (by decide +kernel)) rfl _) (F.t _ (List.mem_of_getElem? (i := 903) (by decide +kernel)) rfl _) hce hcv hcl ?_
    refine lv_astore_n (lv' := [(2, .ref q), (0, .ref ((ad 0) 0)), (1, .ref fo)]) F.x F.b dL_errorPosition_11 rfl hl (by decide) rfl (fun ls hl => ?_)
    refine lv_iconst (v := 1) F.x F.b dL_errorPosition_12 (by decide) ?_
    exact eiX F w hr hlocks rfl ⟨K1, S1, Fc1, C1, D1, B1, cu1, ct1, hs1, sv1, ou1, M1, b1, f0, rfl, e2, e3, e4, fun z => absurd z (by decide)⟩ (Nat.le_of_ble_eq_true rfl) (Nat.le_of_ble_eq_true rfl) dL_errorPosition_13
  · obtain ⟨K1, S1, Fc1, C1, D1, B1, cu1, ct1, hs1, sv1, ou1, M1, h9, e2, e3, e4⟩ := h9
    have w := w.jn (L1 := [wXo G.2.1 (ad 0) (xF ad) (svV sv1) K1, wSh G.2.1 (ad 1) S1, wSh G.2.1 (ad 2) Fc1, wTe G.2.1 (ad 4) C1, wSb G.2.1 (ad 5) ou1, wAd G.2.1 (ad 6) D1, wAb G.2.1 (ad 7) B1, wHo G.2.1 (ad 3) cu1 ct1 hs1, hsL G.2.1 hs1, blk G.2.1 sv1]) (L' := [wXo G.2.1 (ad 0) (xF ad) (svV sv1) K1, wSh G.2.1 (ad 1) S1, wSh G.2.1 (ad 2) Fc1, wTe G.2.1 (ad 4) C1, wSb G.2.1 (ad 5) ou1, wAd G.2.1 (ad 6) D1, wAb G.2.1 (ad 7) B1, wHo G.2.1 (ad 3) cu1 ct1 hs1, [(fo, .inl (G.2.1 4, 1, .inr (.inl f0)))], hsL G.2.1 hs1, blk G.2.1 sv1]) h9 11 [0, 1, 2, 3, 4, 5, 6, 7, 10, 8, 9] rfl rfl rfl
    refine lv_i2l (v := (Int32.toInt64 r9)) F.x F.b dL_errorPosition_6 rfl ?_
    refine rLs F w (ws' := fl [wXo G.2.1 (ad 0) (xF ad) (svV sv1) K1, wSh G.2.1 (ad 1) S1, wSh G.2.1 (ad 2) Fc1, wTe G.2.1 (ad 4) C1, wSb G.2.1 (ad 5) ou1, wAd G.2.1 (ad 6) D1, wAb G.2.1 (ad 7) B1, wHo G.2.1 (ad 3) cu1 ct1 hs1, [(fo, .inl (G.2.1 4, 1, .inr (.inl (vp_updL f0 (Int32.toNatClampNeg 0) (Int32.toInt64 r9)))))], hsL G.2.1 hs1, blk G.2.1 sv1]) 38 rfl (by decide) rfl dL_errorPosition_7 (fun H locs w => ?_)
    refine lv_goto (tgt := 14) F.x F.b dL_errorPosition_8 (by decide) ?_
    refine lv_iconst (v := 0) F.x F.b dL_errorPosition_14 (by decide) ?_
    exact eiX F w hr hlocks rfl ⟨K1, S1, Fc1, C1, D1, B1, cu1, ct1, hs1, sv1, ou1, M1, r9, _, rfl, e2, e3, e4, fun _ => updL0 _ _⟩ (Nat.le_of_ble_eq_true rfl) (Nat.le_of_ble_eq_true rfl) dL_errorPosition_15
set_option maxRecDepth 100000 in
set_option maxHeartbeats 4000000 in
theorem l_failedCommand {G : cG} (g : GOK G) (gM : MG G) (hNC : NcG G) {ad : Nat → Nat → Nat} {fo : Nat} {f0 : Nat → Int64} {N : Nat} {K S Fc C D B : Mem} {cu ct : Nat} {hs : hS} {sv : sV} {ou : oB} {M : Mem} (h : Top N K S C cu ct hs sv ou M) : CXH G yL_failedCommand cL_failedCommand 3 [(0, 8, 11, 25)] 41 1600 20 200 [.ref ((ad 0) 0), .ref fo] (fl (wLaw G.2.1 ad K S Fc C D B cu ct hs sv ou [(fo, .inl (G.2.1 4, 1, .inr (.inl f0)))])) (LOK G ad fo N (f_X7_failedCommand M)) := by
  refine CXH.of g (by decide) rfl (Nat.le_of_ble_eq_true rfl) (List.mem_of_getElem? (i := 1510) (by decide +kernel)) (by rfl) ?_
  intro p l e s m below meth c A ls hst htab F hr hlocks w hl
  generalize ([.ref ((ad 0) 0), .ref fo] : List Value).toArray = args
  have hl : lv_has ls 3 [(0, .ref ((ad 0) 0)), (1, .ref fo)] := hl
  have w : Wd G A s.heap (fl [wXo G.2.1 (ad 0) (xF ad) (svV sv) K, wSh G.2.1 (ad 1) S, wSh G.2.1 (ad 2) Fc, wTe G.2.1 (ad 4) C, wSb G.2.1 (ad 5) ou, wAd G.2.1 (ad 6) D, wAb G.2.1 (ad 7) B, wHo G.2.1 (ad 3) cu ct hs, [(fo, .inl (G.2.1 4, 1, .inr (.inl f0)))], hsL G.2.1 hs, blk G.2.1 sv]) _ _ := w
  refine lv_aload_n F.x F.b dL_failedCommand_0 rfl (lv_at hl 1 rfl) ?_
  refine lv_iconst (v := 0) F.x F.b dL_failedCommand_1 (by decide) ?_
  refine lv_aload_n F.x F.b dL_failedCommand_2 rfl (lv_at hl 0 rfl) ?_
  refine kXi F w hst (LC := [wXo G.2.1 (ad 0) (xF ad) (svV sv) K, wSh G.2.1 (ad 1) S, wSh G.2.1 (ad 2) Fc, wTe G.2.1 (ad 4) C, wSb G.2.1 (ad 5) ou, wAd G.2.1 (ad 6) D, wAb G.2.1 (ad 7) B, wHo G.2.1 (ad 3) cu ct hs, hsL G.2.1 hs, blk G.2.1 sv]) (LR := [[(fo, .inl (G.2.1 4, 1, .inr (.inl f0)))]]) (As := []) (rest := [.int 0, .ref fo]) (k_failedCommand F.1 gM h) m_X6_failedCommand v_X6_failedCommand q1511 (ci := 10) (q0 := 0) rfl rfl rfl 11 [0, 1, 2, 3, 4, 5, 6, 7, 9, 10, 8] rfl rfl rfl ⟨Nat.le_of_ble_eq_true rfl, Nat.le_of_ble_eq_true rfl⟩ rfl hl.1 rfl (Nat.le_of_ble_eq_true rfl) dL_failedCommand_3 ⟨Nat.le_of_ble_eq_true rfl, Nat.le_of_ble_eq_true rfl⟩ (fun E w1 ce q H locs hx w hce hcv hcl => ?_) (fun r9 w1 H locs h9 w => ?_)
  · obtain ⟨K1, S1, Fc1, C1, D1, B1, cu1, ct1, hs1, sv1, ou1, M1, b1, k1, h9, e2, e3, hm, e4⟩ := hx
    have w := w.jn (L1 := [wXo G.2.1 (ad 0) (xF ad) (svV sv1) K1, wSh G.2.1 (ad 1) S1, wSh G.2.1 (ad 2) Fc1, wTe G.2.1 (ad 4) C1, wSb G.2.1 (ad 5) ou1, wAd G.2.1 (ad 6) D1, wAb G.2.1 (ad 7) B1, wHo G.2.1 (ad 3) cu1 ct1 hs1, hsL G.2.1 hs1, blk G.2.1 sv1]) (L' := [wXo G.2.1 (ad 0) (xF ad) (svV sv1) K1, wSh G.2.1 (ad 1) S1, wSh G.2.1 (ad 2) Fc1, wTe G.2.1 (ad 4) C1, wSb G.2.1 (ad 5) ou1, wAd G.2.1 (ad 6) D1, wAb G.2.1 (ad 7) B1, wHo G.2.1 (ad 3) cu1 ct1 hs1, [(fo, .inl (G.2.1 4, 1, .inr (.inl f0)))], hsL G.2.1 hs1, blk G.2.1 sv1]) h9 11 [0, 1, 2, 3, 4, 5, 6, 7, 10, 8, 9] rfl rfl rfl
    simp only [List.mem_cons, List.not_mem_nil, or_false, Prod.mk.injEq] at hm
    obtain ⟨rfl, rfl⟩ := hm
    refine vx_catch F.o (name := eNSE) (tableOf []) ⟨0, 8, 11, 25⟩ (tableOf []) htab pass_nil rfl (by decide) (F.t _ (List.mem_of_getElem? (i := 979) (by decide +kernel)) rfl _) (F.t _ (List.mem_of_getElem? (i := 903) (by decide +kernel)) rfl _) hce hcv hcl ?_
    refine lv_astore_n (lv' := [(2, .ref q), (0, .ref ((ad 0) 0)), (1, .ref fo)]) F.x F.b dL_failedCommand_11 rfl hl (by decide) rfl (fun ls hl => ?_)
    refine lv_iconst (v := 1) F.x F.b dL_failedCommand_12 (by decide) ?_
    exact eiX F w hr hlocks rfl ⟨K1, S1, Fc1, C1, D1, B1, cu1, ct1, hs1, sv1, ou1, M1, b1, f0, rfl, e2, e3, e4, fun z => absurd z (by decide)⟩ (Nat.le_of_ble_eq_true rfl) (Nat.le_of_ble_eq_true rfl) dL_failedCommand_13
  · obtain ⟨K1, S1, Fc1, C1, D1, B1, cu1, ct1, hs1, sv1, ou1, M1, h9, e2, e3, e4⟩ := h9
    have w := w.jn (L1 := [wXo G.2.1 (ad 0) (xF ad) (svV sv1) K1, wSh G.2.1 (ad 1) S1, wSh G.2.1 (ad 2) Fc1, wTe G.2.1 (ad 4) C1, wSb G.2.1 (ad 5) ou1, wAd G.2.1 (ad 6) D1, wAb G.2.1 (ad 7) B1, wHo G.2.1 (ad 3) cu1 ct1 hs1, hsL G.2.1 hs1, blk G.2.1 sv1]) (L' := [wXo G.2.1 (ad 0) (xF ad) (svV sv1) K1, wSh G.2.1 (ad 1) S1, wSh G.2.1 (ad 2) Fc1, wTe G.2.1 (ad 4) C1, wSb G.2.1 (ad 5) ou1, wAd G.2.1 (ad 6) D1, wAb G.2.1 (ad 7) B1, wHo G.2.1 (ad 3) cu1 ct1 hs1, [(fo, .inl (G.2.1 4, 1, .inr (.inl f0)))], hsL G.2.1 hs1, blk G.2.1 sv1]) h9 11 [0, 1, 2, 3, 4, 5, 6, 7, 10, 8, 9] rfl rfl rfl
    refine lv_i2l (v := (Int32.toInt64 r9)) F.x F.b dL_failedCommand_6 rfl ?_
    refine rLs F w (ws' := fl [wXo G.2.1 (ad 0) (xF ad) (svV sv1) K1, wSh G.2.1 (ad 1) S1, wSh G.2.1 (ad 2) Fc1, wTe G.2.1 (ad 4) C1, wSb G.2.1 (ad 5) ou1, wAd G.2.1 (ad 6) D1, wAb G.2.1 (ad 7) B1, wHo G.2.1 (ad 3) cu1 ct1 hs1, [(fo, .inl (G.2.1 4, 1, .inr (.inl (vp_updL f0 (Int32.toNatClampNeg 0) (Int32.toInt64 r9)))))], hsL G.2.1 hs1, blk G.2.1 sv1]) 38 rfl (by decide) rfl dL_failedCommand_7 (fun H locs w => ?_)
    refine lv_goto (tgt := 14) F.x F.b dL_failedCommand_8 (by decide) ?_
    refine lv_iconst (v := 0) F.x F.b dL_failedCommand_14 (by decide) ?_
    exact eiX F w hr hlocks rfl ⟨K1, S1, Fc1, C1, D1, B1, cu1, ct1, hs1, sv1, ou1, M1, r9, _, rfl, e2, e3, e4, fun _ => updL0 _ _⟩ (Nat.le_of_ble_eq_true rfl) (Nat.le_of_ble_eq_true rfl) dL_failedCommand_15
set_option maxRecDepth 100000 in
set_option maxHeartbeats 4000000 in
theorem l_undo {G : cG} (g : GOK G) (gM : MG G) (hNC : NcG G) {ad : Nat → Nat → Nat} {fo : Nat} {f0 : Nat → Int64} {N : Nat} {K S Fc C D B : Mem} {cu ct : Nat} {hs : hS} {sv : sV} {ou : oB} {M : Mem} (h : Top N K S C cu ct hs sv ou M) : CXH G yL_undo cL_undo 3 [(0, 8, 11, 17)] 41 1600 20 200 [.ref ((ad 0) 0), .ref fo] (fl (wLaw G.2.1 ad K S Fc C D B cu ct hs sv ou [(fo, .inl (G.2.1 4, 1, .inr (.inl f0)))])) (LOK G ad fo N (f_X7_undo M)) := by
  refine CXH.of g (by decide) rfl (Nat.le_of_ble_eq_true rfl) (List.mem_of_getElem? (i := 1518) (by decide +kernel)) (by rfl) ?_
  intro p l e s m below meth c A ls hst htab F hr hlocks w hl
  generalize ([.ref ((ad 0) 0), .ref fo] : List Value).toArray = args
  have hl : lv_has ls 3 [(0, .ref ((ad 0) 0)), (1, .ref fo)] := hl
  have w : Wd G A s.heap (fl [wXo G.2.1 (ad 0) (xF ad) (svV sv) K, wSh G.2.1 (ad 1) S, wSh G.2.1 (ad 2) Fc, wTe G.2.1 (ad 4) C, wSb G.2.1 (ad 5) ou, wAd G.2.1 (ad 6) D, wAb G.2.1 (ad 7) B, wHo G.2.1 (ad 3) cu ct hs, [(fo, .inl (G.2.1 4, 1, .inr (.inl f0)))], hsL G.2.1 hs, blk G.2.1 sv]) _ _ := w
  refine lv_aload_n F.x F.b dL_undo_0 rfl (lv_at hl 1 rfl) ?_
  refine lv_iconst (v := 0) F.x F.b dL_undo_1 (by decide) ?_
  refine lv_aload_n F.x F.b dL_undo_2 rfl (lv_at hl 0 rfl) ?_
  refine kXi F w hst (LC := [wXo G.2.1 (ad 0) (xF ad) (svV sv) K, wSh G.2.1 (ad 1) S, wSh G.2.1 (ad 2) Fc, wTe G.2.1 (ad 4) C, wSb G.2.1 (ad 5) ou, wAd G.2.1 (ad 6) D, wAb G.2.1 (ad 7) B, wHo G.2.1 (ad 3) cu ct hs, hsL G.2.1 hs, blk G.2.1 sv]) (LR := [[(fo, .inl (G.2.1 4, 1, .inr (.inl f0)))]]) (As := []) (rest := [.int 0, .ref fo]) (k_undo F.1 gM h) m_X6_undo v_X6_undo q1519 (ci := 10) (q0 := 0) rfl rfl rfl 11 [0, 1, 2, 3, 4, 5, 6, 7, 9, 10, 8] rfl rfl rfl ⟨Nat.le_of_ble_eq_true rfl, Nat.le_of_ble_eq_true rfl⟩ rfl hl.1 rfl (Nat.le_of_ble_eq_true rfl) dL_undo_3 ⟨Nat.le_of_ble_eq_true rfl, Nat.le_of_ble_eq_true rfl⟩ (fun E w1 ce q H locs hx w hce hcv hcl => ?_) (fun r9 w1 H locs h9 w => ?_)
  · obtain ⟨K1, S1, Fc1, C1, D1, B1, cu1, ct1, hs1, sv1, ou1, M1, b1, k1, h9, e2, e3, hm, e4⟩ := hx
    have w := w.jn (L1 := [wXo G.2.1 (ad 0) (xF ad) (svV sv1) K1, wSh G.2.1 (ad 1) S1, wSh G.2.1 (ad 2) Fc1, wTe G.2.1 (ad 4) C1, wSb G.2.1 (ad 5) ou1, wAd G.2.1 (ad 6) D1, wAb G.2.1 (ad 7) B1, wHo G.2.1 (ad 3) cu1 ct1 hs1, hsL G.2.1 hs1, blk G.2.1 sv1]) (L' := [wXo G.2.1 (ad 0) (xF ad) (svV sv1) K1, wSh G.2.1 (ad 1) S1, wSh G.2.1 (ad 2) Fc1, wTe G.2.1 (ad 4) C1, wSb G.2.1 (ad 5) ou1, wAd G.2.1 (ad 6) D1, wAb G.2.1 (ad 7) B1, wHo G.2.1 (ad 3) cu1 ct1 hs1, [(fo, .inl (G.2.1 4, 1, .inr (.inl f0)))], hsL G.2.1 hs1, blk G.2.1 sv1]) h9 11 [0, 1, 2, 3, 4, 5, 6, 7, 10, 8, 9] rfl rfl rfl
    simp only [List.mem_cons, List.not_mem_nil, or_false, Prod.mk.injEq] at hm
    obtain ⟨rfl, rfl⟩ := hm
    refine vx_catch F.o (name := eISE) (tableOf []) ⟨0, 8, 11, 17⟩ (tableOf []) htab pass_nil rfl (by decide) (F.t _ (List.mem_of_getElem? (i := 870) (by decide +kernel)) rfl _) (F.t _ (List.mem_of_getElem? (i := 944) (by decide +kernel)) rfl _) hce hcv hcl ?_
    refine lv_astore_n (lv' := [(2, .ref q), (0, .ref ((ad 0) 0)), (1, .ref fo)]) F.x F.b dL_undo_11 rfl hl (by decide) rfl (fun ls hl => ?_)
    refine lv_iconst (v := 1) F.x F.b dL_undo_12 (by decide) ?_
    exact eiX F w hr hlocks rfl ⟨K1, S1, Fc1, C1, D1, B1, cu1, ct1, hs1, sv1, ou1, M1, b1, f0, rfl, e2, e3, e4, fun z => absurd z (by decide)⟩ (Nat.le_of_ble_eq_true rfl) (Nat.le_of_ble_eq_true rfl) dL_undo_13
  · obtain ⟨K1, S1, Fc1, C1, D1, B1, cu1, ct1, hs1, sv1, ou1, M1, h9, e2, e3, e4⟩ := h9
    have w := w.jn (L1 := [wXo G.2.1 (ad 0) (xF ad) (svV sv1) K1, wSh G.2.1 (ad 1) S1, wSh G.2.1 (ad 2) Fc1, wTe G.2.1 (ad 4) C1, wSb G.2.1 (ad 5) ou1, wAd G.2.1 (ad 6) D1, wAb G.2.1 (ad 7) B1, wHo G.2.1 (ad 3) cu1 ct1 hs1, hsL G.2.1 hs1, blk G.2.1 sv1]) (L' := [wXo G.2.1 (ad 0) (xF ad) (svV sv1) K1, wSh G.2.1 (ad 1) S1, wSh G.2.1 (ad 2) Fc1, wTe G.2.1 (ad 4) C1, wSb G.2.1 (ad 5) ou1, wAd G.2.1 (ad 6) D1, wAb G.2.1 (ad 7) B1, wHo G.2.1 (ad 3) cu1 ct1 hs1, [(fo, .inl (G.2.1 4, 1, .inr (.inl f0)))], hsL G.2.1 hs1, blk G.2.1 sv1]) h9 11 [0, 1, 2, 3, 4, 5, 6, 7, 10, 8, 9] rfl rfl rfl
    refine lv_i2l (v := (Int32.toInt64 r9)) F.x F.b dL_undo_6 rfl ?_
    refine rLs F w (ws' := fl [wXo G.2.1 (ad 0) (xF ad) (svV sv1) K1, wSh G.2.1 (ad 1) S1, wSh G.2.1 (ad 2) Fc1, wTe G.2.1 (ad 4) C1, wSb G.2.1 (ad 5) ou1, wAd G.2.1 (ad 6) D1, wAb G.2.1 (ad 7) B1, wHo G.2.1 (ad 3) cu1 ct1 hs1, [(fo, .inl (G.2.1 4, 1, .inr (.inl (vp_updL f0 (Int32.toNatClampNeg 0) (Int32.toInt64 r9)))))], hsL G.2.1 hs1, blk G.2.1 sv1]) 38 rfl (by decide) rfl dL_undo_7 (fun H locs w => ?_)
    refine lv_goto (tgt := 14) F.x F.b dL_undo_8 (by decide) ?_
    refine lv_iconst (v := 0) F.x F.b dL_undo_14 (by decide) ?_
    exact eiX F w hr hlocks rfl ⟨K1, S1, Fc1, C1, D1, B1, cu1, ct1, hs1, sv1, ou1, M1, r9, _, rfl, e2, e3, e4, fun _ => updL0 _ _⟩ (Nat.le_of_ble_eq_true rfl) (Nat.le_of_ble_eq_true rfl) dL_undo_15
set_option maxRecDepth 100000 in
set_option maxHeartbeats 4000000 in
theorem l_restore {G : cG} (g : GOK G) (gM : MG G) (hNC : NcG G) {ad : Nat → Nat → Nat} {fo : Nat} {f0 : Nat → Int64} {N : Nat} {K S Fc C D B : Mem} {cu ct : Nat} {hs : hS} {sv : sV} {ou : oB} {M : Mem} (h : Top N K S C cu ct hs sv ou M) : CXH G yL_restore cL_restore 3 [(0, 8, 11, 17)] 41 1600 20 200 [.ref ((ad 0) 0), .ref fo] (fl (wLaw G.2.1 ad K S Fc C D B cu ct hs sv ou [(fo, .inl (G.2.1 4, 1, .inr (.inl f0)))])) (LOK G ad fo N (f_X7_restore M)) := by
  refine CXH.of g (by decide) rfl (Nat.le_of_ble_eq_true rfl) (List.mem_of_getElem? (i := 1531) (by decide +kernel)) (by rfl) ?_
  intro p l e s m below meth c A ls hst htab F hr hlocks w hl
  generalize ([.ref ((ad 0) 0), .ref fo] : List Value).toArray = args
  have hl : lv_has ls 3 [(0, .ref ((ad 0) 0)), (1, .ref fo)] := hl
  have w : Wd G A s.heap (fl [wXo G.2.1 (ad 0) (xF ad) (svV sv) K, wSh G.2.1 (ad 1) S, wSh G.2.1 (ad 2) Fc, wTe G.2.1 (ad 4) C, wSb G.2.1 (ad 5) ou, wAd G.2.1 (ad 6) D, wAb G.2.1 (ad 7) B, wHo G.2.1 (ad 3) cu ct hs, [(fo, .inl (G.2.1 4, 1, .inr (.inl f0)))], hsL G.2.1 hs, blk G.2.1 sv]) _ _ := w
  refine lv_aload_n F.x F.b dL_restore_0 rfl (lv_at hl 1 rfl) ?_
  refine lv_iconst (v := 0) F.x F.b dL_restore_1 (by decide) ?_
  refine lv_aload_n F.x F.b dL_restore_2 rfl (lv_at hl 0 rfl) ?_
  refine kXi F w hst (LC := [wXo G.2.1 (ad 0) (xF ad) (svV sv) K, wSh G.2.1 (ad 1) S, wSh G.2.1 (ad 2) Fc, wTe G.2.1 (ad 4) C, wSb G.2.1 (ad 5) ou, wAd G.2.1 (ad 6) D, wAb G.2.1 (ad 7) B, wHo G.2.1 (ad 3) cu ct hs, hsL G.2.1 hs, blk G.2.1 sv]) (LR := [[(fo, .inl (G.2.1 4, 1, .inr (.inl f0)))]]) (As := []) (rest := [.int 0, .ref fo]) (k_restore F.1 gM h) m_X6_restore v_X6_restore q1532 (ci := 10) (q0 := 0) rfl rfl rfl 11 [0, 1, 2, 3, 4, 5, 6, 7, 9, 10, 8] rfl rfl rfl ⟨Nat.le_of_ble_eq_true rfl, Nat.le_of_ble_eq_true rfl⟩ rfl hl.1 rfl (Nat.le_of_ble_eq_true rfl) dL_restore_3 ⟨Nat.le_of_ble_eq_true rfl, Nat.le_of_ble_eq_true rfl⟩ (fun E w1 ce q H locs hx w hce hcv hcl => ?_) (fun r9 w1 H locs h9 w => ?_)
  · obtain ⟨K1, S1, Fc1, C1, D1, B1, cu1, ct1, hs1, sv1, ou1, M1, b1, k1, h9, e2, e3, hm, e4⟩ := hx
    have w := w.jn (L1 := [wXo G.2.1 (ad 0) (xF ad) (svV sv1) K1, wSh G.2.1 (ad 1) S1, wSh G.2.1 (ad 2) Fc1, wTe G.2.1 (ad 4) C1, wSb G.2.1 (ad 5) ou1, wAd G.2.1 (ad 6) D1, wAb G.2.1 (ad 7) B1, wHo G.2.1 (ad 3) cu1 ct1 hs1, hsL G.2.1 hs1, blk G.2.1 sv1]) (L' := [wXo G.2.1 (ad 0) (xF ad) (svV sv1) K1, wSh G.2.1 (ad 1) S1, wSh G.2.1 (ad 2) Fc1, wTe G.2.1 (ad 4) C1, wSb G.2.1 (ad 5) ou1, wAd G.2.1 (ad 6) D1, wAb G.2.1 (ad 7) B1, wHo G.2.1 (ad 3) cu1 ct1 hs1, [(fo, .inl (G.2.1 4, 1, .inr (.inl f0)))], hsL G.2.1 hs1, blk G.2.1 sv1]) h9 11 [0, 1, 2, 3, 4, 5, 6, 7, 10, 8, 9] rfl rfl rfl
    simp only [List.mem_cons, List.not_mem_nil, or_false, Prod.mk.injEq] at hm
    obtain ⟨rfl, rfl⟩ := hm
    refine vx_catch F.o (name := eISE) (tableOf []) ⟨0, 8, 11, 17⟩ (tableOf []) htab pass_nil rfl (by decide) (F.t _ (List.mem_of_getElem? (i := 870) (by decide +kernel)) rfl _) (F.t _ (List.mem_of_getElem? (i := 944) (by decide +kernel)) rfl _) hce hcv hcl ?_
    refine lv_astore_n (lv' := [(2, .ref q), (0, .ref ((ad 0) 0)), (1, .ref fo)]) F.x F.b dL_restore_11 rfl hl (by decide) rfl (fun ls hl => ?_)
    refine lv_iconst (v := 1) F.x F.b dL_restore_12 (by decide) ?_
    exact eiX F w hr hlocks rfl ⟨K1, S1, Fc1, C1, D1, B1, cu1, ct1, hs1, sv1, ou1, M1, b1, f0, rfl, e2, e3, e4, fun z => absurd z (by decide)⟩ (Nat.le_of_ble_eq_true rfl) (Nat.le_of_ble_eq_true rfl) dL_restore_13
  · obtain ⟨K1, S1, Fc1, C1, D1, B1, cu1, ct1, hs1, sv1, ou1, M1, h9, e2, e3, e4⟩ := h9
    have w := w.jn (L1 := [wXo G.2.1 (ad 0) (xF ad) (svV sv1) K1, wSh G.2.1 (ad 1) S1, wSh G.2.1 (ad 2) Fc1, wTe G.2.1 (ad 4) C1, wSb G.2.1 (ad 5) ou1, wAd G.2.1 (ad 6) D1, wAb G.2.1 (ad 7) B1, wHo G.2.1 (ad 3) cu1 ct1 hs1, hsL G.2.1 hs1, blk G.2.1 sv1]) (L' := [wXo G.2.1 (ad 0) (xF ad) (svV sv1) K1, wSh G.2.1 (ad 1) S1, wSh G.2.1 (ad 2) Fc1, wTe G.2.1 (ad 4) C1, wSb G.2.1 (ad 5) ou1, wAd G.2.1 (ad 6) D1, wAb G.2.1 (ad 7) B1, wHo G.2.1 (ad 3) cu1 ct1 hs1, [(fo, .inl (G.2.1 4, 1, .inr (.inl f0)))], hsL G.2.1 hs1, blk G.2.1 sv1]) h9 11 [0, 1, 2, 3, 4, 5, 6, 7, 10, 8, 9] rfl rfl rfl
    refine lv_i2l (v := (Int32.toInt64 r9)) F.x F.b dL_restore_6 rfl ?_
    refine rLs F w (ws' := fl [wXo G.2.1 (ad 0) (xF ad) (svV sv1) K1, wSh G.2.1 (ad 1) S1, wSh G.2.1 (ad 2) Fc1, wTe G.2.1 (ad 4) C1, wSb G.2.1 (ad 5) ou1, wAd G.2.1 (ad 6) D1, wAb G.2.1 (ad 7) B1, wHo G.2.1 (ad 3) cu1 ct1 hs1, [(fo, .inl (G.2.1 4, 1, .inr (.inl (vp_updL f0 (Int32.toNatClampNeg 0) (Int32.toInt64 r9)))))], hsL G.2.1 hs1, blk G.2.1 sv1]) 38 rfl (by decide) rfl dL_restore_7 (fun H locs w => ?_)
    refine lv_goto (tgt := 14) F.x F.b dL_restore_8 (by decide) ?_
    refine lv_iconst (v := 0) F.x F.b dL_restore_14 (by decide) ?_
    exact eiX F w hr hlocks rfl ⟨K1, S1, Fc1, C1, D1, B1, cu1, ct1, hs1, sv1, ou1, M1, r9, _, rfl, e2, e3, e4, fun _ => updL0 _ _⟩ (Nat.le_of_ble_eq_true rfl) (Nat.le_of_ble_eq_true rfl) dL_restore_15

/-! printed by wip/whole/tools/gen99d.py -/
theorem q1334 : Cond.methodLink "CustomsShedLaw" 119 yX6_meanValue ∈ lw_tbl := List.mem_of_getElem? (i := 1334) (by decide +kernel)
theorem q1348 : Cond.methodLink "CustomsShedLaw" 125 yX6_sealedFraction ∈ lw_tbl := List.mem_of_getElem? (i := 1348) (by decide +kernel)
theorem m_X6_meanValue : YM yX6_meanValue cX6_meanValue 2 (some (.double)) 0 := ⟨⟨List.mem_of_getElem? (i := 1337) (by decide +kernel), by decide +kernel⟩, List.mem_of_getElem? (i := 55) (by decide +kernel), ⟨by decide, by decide⟩, by decide +kernel⟩
theorem v_X6_meanValue : YV yX6_meanValue := ⟨(List.mem_of_getElem? (i := 1335) (by decide +kernel)), List.mem_of_getElem? (i := 1336) (by decide +kernel)⟩
theorem m_X6_sealedFraction : YM yX6_sealedFraction cX6_sealedFraction 2 (some (.float)) 0 := ⟨⟨List.mem_of_getElem? (i := 1351) (by decide +kernel), by decide +kernel⟩, List.mem_of_getElem? (i := 55) (by decide +kernel), ⟨by decide, by decide⟩, by decide +kernel⟩
theorem v_X6_sealedFraction : YV yX6_sealedFraction := ⟨(List.mem_of_getElem? (i := 1349) (by decide +kernel)), List.mem_of_getElem? (i := 1350) (by decide +kernel)⟩
theorem updD0 (f : Nat → UInt64) (x : UInt64) : vf_upd f (Int32.toNatClampNeg 0) x 0 = x := by
  unfold vf_upd
  rw [if_pos (by decide)]
set_option maxRecDepth 100000 in
set_option maxHeartbeats 4000000 in
theorem l_meanValue {G : cG} (g : GOK G) (gM : MG G) (hNC : NcG G) {ad : Nat → Nat → Nat} {fo : Nat} {f0 : Nat → UInt64} {K S Fc C D B : Mem} {cu ct : Nat} {hs : hS} {sv : sV} {ou : oB} {c0 : Nat} {v : Nat → Int32} (hc : S.1 0 = nI c0) (hc16 : c0 ≤ 16) (hsum : f_X3_sumOfValues S = some (sI v c0)) : CXH G yL_meanValue cL_meanValue 3 [(0, 7, 10, 123)] 41 1600 20 200 [.ref ((ad 0) 0), .ref fo] (fl (wLaw G.2.1 ad K S Fc C D B cu ct hs sv ou [(fo, .inl (G.2.1 5, 1, .inr (.inr (.inr (.inl f0)))))])) (fun r w1 => ∃ f, w1 = fl (wLaw G.2.1 ad K S Fc C D B cu ct hs sv ou [(fo, .inl (G.2.1 5, 1, .inr (.inr (.inr (.inl f)))))]) ∧ r = (if c0 = 0 then 1 else 0) ∧ (c0 ≠ 0 → f 0 = mnD v c0)) := by
  refine CXH.of g (by decide) rfl (Nat.le_of_ble_eq_true rfl) (List.mem_of_getElem? (i := 1319) (by decide +kernel)) (by rfl) ?_
  intro p l e s m below meth c A ls hst htab F hr hlocks w hl
  generalize ([.ref ((ad 0) 0), .ref fo] : List Value).toArray = args
  have hl : lv_has ls 3 [(0, .ref ((ad 0) 0)), (1, .ref fo)] := hl
  have w : Wd G A s.heap (fl [wXo G.2.1 (ad 0) (xF ad) (svV sv) K, wSh G.2.1 (ad 1) S, wSh G.2.1 (ad 2) Fc, wTe G.2.1 (ad 4) C, wSb G.2.1 (ad 5) ou, wAd G.2.1 (ad 6) D, wAb G.2.1 (ad 7) B, wHo G.2.1 (ad 3) cu ct hs, [(fo, .inl (G.2.1 5, 1, .inr (.inr (.inr (.inl f0)))))], hsL G.2.1 hs, blk G.2.1 sv]) _ _ := w
  refine lv_aload_n F.x F.b dL_meanValue_0 rfl (lv_at hl 1 rfl) ?_
  refine lv_iconst (v := 0) F.x F.b dL_meanValue_1 (by decide) ?_
  refine lv_aload_n F.x F.b dL_meanValue_2 rfl (lv_at hl 0 rfl) ?_
  refine kXd F w hst (LC := [wXo G.2.1 (ad 0) (xF ad) (svV sv) K, wSh G.2.1 (ad 1) S, wSh G.2.1 (ad 2) Fc, wTe G.2.1 (ad 4) C, wSb G.2.1 (ad 5) ou, wAd G.2.1 (ad 6) D, wAb G.2.1 (ad 7) B, wHo G.2.1 (ad 3) cu ct hs, hsL G.2.1 hs, blk G.2.1 sv]) (LR := [[(fo, .inl (G.2.1 5, 1, .inr (.inr (.inr (.inl f0)))))]]) (As := []) (rest := [.int 0, .ref fo]) (k_meanValue F.1 gM hc hc16 hsum) m_X6_meanValue v_X6_meanValue q1334 (ci := 10) (q0 := 0) rfl rfl rfl 11 [0, 1, 2, 3, 4, 5, 6, 7, 9, 10, 8] rfl rfl rfl ⟨Nat.le_of_ble_eq_true rfl, Nat.le_of_ble_eq_true rfl⟩ rfl hl.1 rfl (Nat.le_of_ble_eq_true rfl) dL_meanValue_3 ⟨Nat.le_of_ble_eq_true rfl, Nat.le_of_ble_eq_true rfl⟩ (fun E w1 ce q H locs hx w hce hcv hcl => ?_) (fun r9 w1 H locs h9 w => ?_)
  · obtain ⟨rfl, hc0, h9⟩ := hx
    have w := w.jn (L1 := [wXo G.2.1 (ad 0) (xF ad) (svV sv) K, wSh G.2.1 (ad 1) S, wSh G.2.1 (ad 2) Fc, wTe G.2.1 (ad 4) C, wSb G.2.1 (ad 5) ou, wAd G.2.1 (ad 6) D, wAb G.2.1 (ad 7) B, wHo G.2.1 (ad 3) cu ct hs, hsL G.2.1 hs, blk G.2.1 sv]) (L' := [wXo G.2.1 (ad 0) (xF ad) (svV sv) K, wSh G.2.1 (ad 1) S, wSh G.2.1 (ad 2) Fc, wTe G.2.1 (ad 4) C, wSb G.2.1 (ad 5) ou, wAd G.2.1 (ad 6) D, wAb G.2.1 (ad 7) B, wHo G.2.1 (ad 3) cu ct hs, [(fo, .inl (G.2.1 5, 1, .inr (.inr (.inr (.inl f0)))))], hsL G.2.1 hs, blk G.2.1 sv]) h9 11 [0, 1, 2, 3, 4, 5, 6, 7, 10, 8, 9] rfl rfl rfl
    refine vx_catch F.o (name := eARE) (tableOf []) ⟨0, 7, 10, 123⟩ (tableOf []) htab pass_nil rfl (by decide) (F.t _ (List.mem_of_getElem? (i := 1320) (by decide +kernel)) rfl _) (F.t _ (List.mem_of_getElem? (i := 1332) (by decide +kernel)) rfl _) hce hcv hcl ?_
    refine lv_astore_n (lv' := [(2, .ref q), (0, .ref ((ad 0) 0)), (1, .ref fo)]) F.x F.b dL_meanValue_10 rfl hl (by decide) rfl (fun ls hl => ?_)
    refine lv_iconst (v := 1) F.x F.b dL_meanValue_11 (by decide) ?_
    exact eiX F w hr hlocks rfl ⟨f0, rfl, by rw [if_pos hc0], fun z => absurd hc0 z⟩ (Nat.le_of_ble_eq_true rfl) (Nat.le_of_ble_eq_true rfl) dL_meanValue_12
  · obtain ⟨hc0, h9, rfl⟩ := h9
    have w := w.jn (L1 := [wXo G.2.1 (ad 0) (xF ad) (svV sv) K, wSh G.2.1 (ad 1) S, wSh G.2.1 (ad 2) Fc, wTe G.2.1 (ad 4) C, wSb G.2.1 (ad 5) ou, wAd G.2.1 (ad 6) D, wAb G.2.1 (ad 7) B, wHo G.2.1 (ad 3) cu ct hs, hsL G.2.1 hs, blk G.2.1 sv]) (L' := [wXo G.2.1 (ad 0) (xF ad) (svV sv) K, wSh G.2.1 (ad 1) S, wSh G.2.1 (ad 2) Fc, wTe G.2.1 (ad 4) C, wSb G.2.1 (ad 5) ou, wAd G.2.1 (ad 6) D, wAb G.2.1 (ad 7) B, wHo G.2.1 (ad 3) cu ct hs, [(fo, .inl (G.2.1 5, 1, .inr (.inr (.inr (.inl f0)))))], hsL G.2.1 hs, blk G.2.1 sv]) h9 11 [0, 1, 2, 3, 4, 5, 6, 7, 10, 8, 9] rfl rfl rfl
    refine rDs F w (ws' := fl [wXo G.2.1 (ad 0) (xF ad) (svV sv) K, wSh G.2.1 (ad 1) S, wSh G.2.1 (ad 2) Fc, wTe G.2.1 (ad 4) C, wSb G.2.1 (ad 5) ou, wAd G.2.1 (ad 6) D, wAb G.2.1 (ad 7) B, wHo G.2.1 (ad 3) cu ct hs, [(fo, .inl (G.2.1 5, 1, .inr (.inr (.inr (.inl (vf_upd f0 (Int32.toNatClampNeg 0) (mnD v c0)))))))], hsL G.2.1 hs, blk G.2.1 sv]) 38 rfl (by decide) rfl dL_meanValue_6 (fun H locs w => ?_)
    refine lv_goto (tgt := 13) F.x F.b dL_meanValue_7 (by decide) ?_
    refine lv_iconst (v := 0) F.x F.b dL_meanValue_13 (by decide) ?_
    exact eiX F w hr hlocks rfl ⟨_, rfl, by rw [if_neg hc0], fun _ => updD0 _ _⟩ (Nat.le_of_ble_eq_true rfl) (Nat.le_of_ble_eq_true rfl) dL_meanValue_14
set_option maxRecDepth 100000 in
set_option maxHeartbeats 4000000 in
theorem l_sealedFraction {G : cG} (g : GOK G) (gM : MG G) (hNC : NcG G) {ad : Nat → Nat → Nat} {fo : Nat} {f0 : Nat → UInt64} {K S Fc C D B : Mem} {cu ct : Nat} {hs : hS} {sv : sV} {ou : oB} {c0 : Nat} {v : Nat → Int32} (hc : S.1 0 = nI c0) (hc16 : c0 ≤ 16) (hsum : f_X3_countSealed S = some (sI v c0)) : CXH G yL_sealedFraction cL_sealedFraction 3 [(0, 8, 11, 123)] 41 1600 20 200 [.ref ((ad 0) 0), .ref fo] (fl (wLaw G.2.1 ad K S Fc C D B cu ct hs sv ou [(fo, .inl (G.2.1 5, 1, .inr (.inr (.inr (.inl f0)))))])) (fun r w1 => ∃ f, w1 = fl (wLaw G.2.1 ad K S Fc C D B cu ct hs sv ou [(fo, .inl (G.2.1 5, 1, .inr (.inr (.inr (.inl f)))))]) ∧ r = (if c0 = 0 then 1 else 0) ∧ (c0 ≠ 0 → f 0 = FP.f2d (frF v c0))) := by
  refine CXH.of g (by decide) rfl (Nat.le_of_ble_eq_true rfl) (List.mem_of_getElem? (i := 1347) (by decide +kernel)) (by rfl) ?_
  intro p l e s m below meth c A ls hst htab F hr hlocks w hl
  generalize ([.ref ((ad 0) 0), .ref fo] : List Value).toArray = args
  have hl : lv_has ls 3 [(0, .ref ((ad 0) 0)), (1, .ref fo)] := hl
  have w : Wd G A s.heap (fl [wXo G.2.1 (ad 0) (xF ad) (svV sv) K, wSh G.2.1 (ad 1) S, wSh G.2.1 (ad 2) Fc, wTe G.2.1 (ad 4) C, wSb G.2.1 (ad 5) ou, wAd G.2.1 (ad 6) D, wAb G.2.1 (ad 7) B, wHo G.2.1 (ad 3) cu ct hs, [(fo, .inl (G.2.1 5, 1, .inr (.inr (.inr (.inl f0)))))], hsL G.2.1 hs, blk G.2.1 sv]) _ _ := w
  refine lv_aload_n F.x F.b dL_sealedFraction_0 rfl (lv_at hl 1 rfl) ?_
  refine lv_iconst (v := 0) F.x F.b dL_sealedFraction_1 (by decide) ?_
  refine lv_aload_n F.x F.b dL_sealedFraction_2 rfl (lv_at hl 0 rfl) ?_
  refine kXf F w hst (LC := [wXo G.2.1 (ad 0) (xF ad) (svV sv) K, wSh G.2.1 (ad 1) S, wSh G.2.1 (ad 2) Fc, wTe G.2.1 (ad 4) C, wSb G.2.1 (ad 5) ou, wAd G.2.1 (ad 6) D, wAb G.2.1 (ad 7) B, wHo G.2.1 (ad 3) cu ct hs, hsL G.2.1 hs, blk G.2.1 sv]) (LR := [[(fo, .inl (G.2.1 5, 1, .inr (.inr (.inr (.inl f0)))))]]) (As := []) (rest := [.int 0, .ref fo]) (k_sealedFraction F.1 gM hc hc16 hsum) m_X6_sealedFraction v_X6_sealedFraction q1348 (ci := 10) (q0 := 0) rfl rfl rfl 11 [0, 1, 2, 3, 4, 5, 6, 7, 9, 10, 8] rfl rfl rfl ⟨Nat.le_of_ble_eq_true rfl, Nat.le_of_ble_eq_true rfl⟩ rfl hl.1 rfl (Nat.le_of_ble_eq_true rfl) dL_sealedFraction_3 ⟨Nat.le_of_ble_eq_true rfl, Nat.le_of_ble_eq_true rfl⟩ (fun E w1 ce q H locs hx w hce hcv hcl => ?_) (fun r9 w1 H locs h9 w => ?_)
  · obtain ⟨rfl, hc0, h9⟩ := hx
    have w := w.jn (L1 := [wXo G.2.1 (ad 0) (xF ad) (svV sv) K, wSh G.2.1 (ad 1) S, wSh G.2.1 (ad 2) Fc, wTe G.2.1 (ad 4) C, wSb G.2.1 (ad 5) ou, wAd G.2.1 (ad 6) D, wAb G.2.1 (ad 7) B, wHo G.2.1 (ad 3) cu ct hs, hsL G.2.1 hs, blk G.2.1 sv]) (L' := [wXo G.2.1 (ad 0) (xF ad) (svV sv) K, wSh G.2.1 (ad 1) S, wSh G.2.1 (ad 2) Fc, wTe G.2.1 (ad 4) C, wSb G.2.1 (ad 5) ou, wAd G.2.1 (ad 6) D, wAb G.2.1 (ad 7) B, wHo G.2.1 (ad 3) cu ct hs, [(fo, .inl (G.2.1 5, 1, .inr (.inr (.inr (.inl f0)))))], hsL G.2.1 hs, blk G.2.1 sv]) h9 11 [0, 1, 2, 3, 4, 5, 6, 7, 10, 8, 9] rfl rfl rfl
    refine vx_catch F.o (name := eARE) (tableOf []) ⟨0, 8, 11, 123⟩ (tableOf []) htab pass_nil rfl (by decide) (F.t _ (List.mem_of_getElem? (i := 1320) (by decide +kernel)) rfl _) (F.t _ (List.mem_of_getElem? (i := 1332) (by decide +kernel)) rfl _) hce hcv hcl ?_
    refine lv_astore_n (lv' := [(2, .ref q), (0, .ref ((ad 0) 0)), (1, .ref fo)]) F.x F.b dL_sealedFraction_11 rfl hl (by decide) rfl (fun ls hl => ?_)
    refine lv_iconst (v := 1) F.x F.b dL_sealedFraction_12 (by decide) ?_
    exact eiX F w hr hlocks rfl ⟨f0, rfl, by rw [if_pos hc0], fun z => absurd hc0 z⟩ (Nat.le_of_ble_eq_true rfl) (Nat.le_of_ble_eq_true rfl) dL_sealedFraction_13
  · obtain ⟨hc0, h9, rfl⟩ := h9
    have w := w.jn (L1 := [wXo G.2.1 (ad 0) (xF ad) (svV sv) K, wSh G.2.1 (ad 1) S, wSh G.2.1 (ad 2) Fc, wTe G.2.1 (ad 4) C, wSb G.2.1 (ad 5) ou, wAd G.2.1 (ad 6) D, wAb G.2.1 (ad 7) B, wHo G.2.1 (ad 3) cu ct hs, hsL G.2.1 hs, blk G.2.1 sv]) (L' := [wXo G.2.1 (ad 0) (xF ad) (svV sv) K, wSh G.2.1 (ad 1) S, wSh G.2.1 (ad 2) Fc, wTe G.2.1 (ad 4) C, wSb G.2.1 (ad 5) ou, wAd G.2.1 (ad 6) D, wAb G.2.1 (ad 7) B, wHo G.2.1 (ad 3) cu ct hs, [(fo, .inl (G.2.1 5, 1, .inr (.inr (.inr (.inl f0)))))], hsL G.2.1 hs, blk G.2.1 sv]) h9 11 [0, 1, 2, 3, 4, 5, 6, 7, 10, 8, 9] rfl rfl rfl
    refine lv_f2d F.x F.b dL_sealedFraction_6 (n64_of ((FP.f2d_nan _).trans (ff_ok _ _ (fun z => hc0 ((nI_eq (a := c0) (b := 0) (by omega) (by omega)).mp z))))) ?_
    refine rDs F w (ws' := fl [wXo G.2.1 (ad 0) (xF ad) (svV sv) K, wSh G.2.1 (ad 1) S, wSh G.2.1 (ad 2) Fc, wTe G.2.1 (ad 4) C, wSb G.2.1 (ad 5) ou, wAd G.2.1 (ad 6) D, wAb G.2.1 (ad 7) B, wHo G.2.1 (ad 3) cu ct hs, [(fo, .inl (G.2.1 5, 1, .inr (.inr (.inr (.inl (vf_upd f0 (Int32.toNatClampNeg 0) (FP.f2d (frF v c0))))))))], hsL G.2.1 hs, blk G.2.1 sv]) 38 rfl (by decide) rfl dL_sealedFraction_7 (fun H locs w => ?_)
    refine lv_goto (tgt := 14) F.x F.b dL_sealedFraction_8 (by decide) ?_
    refine lv_iconst (v := 0) F.x F.b dL_sealedFraction_14 (by decide) ?_
    exact eiX F w hr hlocks rfl ⟨_, rfl, by rw [if_neg hc0], fun _ => updD0 _ _⟩ (Nat.le_of_ble_eq_true rfl) (Nat.le_of_ble_eq_true rfl) dL_sealedFraction_15

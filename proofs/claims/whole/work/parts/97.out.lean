/-! printed by wip/whole/tools/gen97.py: writeLot, writeBays, outputCharacter -/
theorem q305 : Cond.fieldLink RX6 36 "CustomsShed" "output" "Ljava/lang/StringBuilder;" ∈ lw_tbl := List.mem_of_getElem? (i := 305) (by decide +kernel)
theorem q453 : Cond.methodLink RX6 262 yJ4_setLength_d00df ∈ lw_tbl := List.mem_of_getElem? (i := 453) (by decide +kernel)
theorem q796 : Cond.methodLink RX6 277 yX3_signOfBay ∈ lw_tbl := List.mem_of_getElem? (i := 796) (by decide +kernel)
theorem q822 : Cond.methodLink RX6 275 yJ4_length_8abf5 ∈ lw_tbl := List.mem_of_getElem? (i := 822) (by decide +kernel)
theorem q1361 : Cond.methodLink RX6 272 yX0_placeOf ∈ lw_tbl := List.mem_of_getElem? (i := 1361) (by decide +kernel)
theorem q1369 : Cond.methodLink RX6 281 yJ4_charAt_5068e ∈ lw_tbl := List.mem_of_getElem? (i := 1369) (by decide +kernel)
theorem m_J4_setLength_d00df : YM yJ4_setLength_d00df cJ4_setLength_d00df 2 (none) 1 := ⟨⟨List.mem_of_getElem? (i := 456) (by decide +kernel), by decide +kernel⟩, List.mem_of_getElem? (i := 63) (by decide +kernel), ⟨by decide, by decide⟩, by decide +kernel⟩
theorem v_J4_setLength_d00df : YV yJ4_setLength_d00df := ⟨(List.mem_of_getElem? (i := 454) (by decide +kernel)), List.mem_of_getElem? (i := 455) (by decide +kernel)⟩
theorem m_J4_append_cf468 : YM yJ4_append_cf468 cJ4_append_cf468 2 (some (.object "java/lang/StringBuilder")) 1 := ⟨⟨List.mem_of_getElem? (i := 803) (by decide +kernel), by decide +kernel⟩, List.mem_of_getElem? (i := 63) (by decide +kernel), ⟨by decide, by decide⟩, by decide +kernel⟩
theorem v_J4_append_cf468 : YV yJ4_append_cf468 := ⟨(List.mem_of_getElem? (i := 801) (by decide +kernel)), List.mem_of_getElem? (i := 802) (by decide +kernel)⟩
theorem m_J4_append_bf812 : YM yJ4_append_bf812 cJ4_append_bf812 2 (some (.object "java/lang/StringBuilder")) 1 := ⟨⟨List.mem_of_getElem? (i := 587) (by decide +kernel), by decide +kernel⟩, List.mem_of_getElem? (i := 63) (by decide +kernel), ⟨by decide, by decide⟩, by decide +kernel⟩
theorem v_J4_append_bf812 : YV yJ4_append_bf812 := ⟨(List.mem_of_getElem? (i := 585) (by decide +kernel)), List.mem_of_getElem? (i := 586) (by decide +kernel)⟩
theorem m_J4_length_8abf5 : YM yJ4_length_8abf5 cJ4_length_8abf5 1 (some (.int)) 0 := ⟨⟨List.mem_of_getElem? (i := 632) (by decide +kernel), by decide +kernel⟩, List.mem_of_getElem? (i := 63) (by decide +kernel), ⟨by decide, by decide⟩, by decide +kernel⟩
theorem v_J4_length_8abf5 : YV yJ4_length_8abf5 := ⟨(List.mem_of_getElem? (i := 631) (by decide +kernel)), List.mem_of_getElem? (i := 2051) (by decide +kernel)⟩
theorem m_X3_signOfBay : YM yX3_signOfBay cX3_signOfBay 4 (some (.char)) 1 := ⟨⟨List.mem_of_getElem? (i := 799) (by decide +kernel), by decide +kernel⟩, List.mem_of_getElem? (i := 57) (by decide +kernel), ⟨by decide, by decide⟩, by decide +kernel⟩
theorem v_X3_signOfBay : YV yX3_signOfBay := ⟨(List.mem_of_getElem? (i := 797) (by decide +kernel)), List.mem_of_getElem? (i := 798) (by decide +kernel)⟩
theorem m_J4_charAt_5068e : YM yJ4_charAt_5068e cJ4_charAt_5068e 2 (some (.char)) 1 := ⟨⟨List.mem_of_getElem? (i := 1372) (by decide +kernel), by decide +kernel⟩, List.mem_of_getElem? (i := 63) (by decide +kernel), ⟨by decide, by decide⟩, by decide +kernel⟩
theorem v_J4_charAt_5068e : YV yJ4_charAt_5068e := ⟨(List.mem_of_getElem? (i := 1370) (by decide +kernel)), List.mem_of_getElem? (i := 1371) (by decide +kernel)⟩
set_option maxRecDepth 100000 in
set_option maxHeartbeats 4000000 in
theorem k_writeLot {G : cG} (g : GOK G) (gM : MG G) {ks kv : Nat → Nat} (hSG : SG G ks kv) (pv : PV G) {d1 d2 : Nat} (hD : DGs G d1 d2) {ad : Nat → Nat → Nat} {N : Nat} {K S Fc C D B : Mem} {cu ct : Nat} {hs : hS} {sv : sV} {ou : oB} {M : Mem} {x1 : Int32} (h : Top N K S C cu ct hs sv ou M) : KT G ad N yX6_writeLot cX6_writeLot 4 .int [.ref ((ad 0) 0), .int x1] (fl (wTop G.2.1 ad K S Fc C D B cu ct hs sv ou)) [(eNSE, 1)] (f_X7_writeLot M x1) := by
  rcases lot_both h x1 with ⟨hq, b9, M', e2, e3, e4⟩ | ⟨pp, k, v1, v2, b, z, M', ⟨hp, hq, ⟨ek, hk⟩, ⟨ev1, hv1⟩, ⟨ev2, hv2⟩, ⟨eb, hb⟩, fg5, fg6, hz, hzc⟩, e2, hW⟩
  · refine CX.of g (by decide) rfl (Nat.le_of_ble_eq_true rfl) ?_
    intro p l e s m below meth c A ls hst htab F hr hlocks w hl
    generalize ([.ref ((ad 0) 0), .int x1] : List Value).toArray = args
    have hl : lv_has ls 4 [(0, .ref ((ad 0) 0)), (1, .int x1)] := hl
    have w : Wd G A s.heap (fl [wXo G.2.1 (ad 0) (xF ad) (svV sv) K, wSh G.2.1 (ad 1) S, wSh G.2.1 (ad 2) Fc, wTe G.2.1 (ad 4) C, wSb G.2.1 (ad 5) ou, wAd G.2.1 (ad 6) D, wAb G.2.1 (ad 7) B, wHo G.2.1 (ad 3) cu ct hs, hsL G.2.1 hs, blk G.2.1 sv]) _ _ := w
    refine lv_aload_n F.x F.b dX6_writeLot_0 rfl (lv_at hl 0 rfl) ?_
    refine lv_iload_n F.x F.b dX6_writeLot_1 rfl (lv_at hl 1 rfl) ?_
    refine kXi F w hst (LC := [wXo G.2.1 (ad 0) (xF ad) (svV sv) K, wSh G.2.1 (ad 1) S]) (LR := [wSh G.2.1 (ad 2) Fc, wTe G.2.1 (ad 4) C, wSb G.2.1 (ad 5) ou, wAd G.2.1 (ad 6) D, wAb G.2.1 (ad 7) B, wHo G.2.1 (ad 3) cu ct hs, hsL G.2.1 hs, blk G.2.1 sv]) (As := [.int x1]) (rest := []) (t_X6_slotOf_no F.1 hq gM) m_X6_slotOf v_X6_slotOf q1047 (ci := 10) (q0 := 0) rfl rfl rfl 10 [0, 1, 2, 3, 4, 5, 6, 7, 8, 9] rfl rfl rfl ⟨Nat.le_of_ble_eq_true rfl, Nat.le_of_ble_eq_true rfl⟩ rfl hl.1 rfl (Nat.le_of_ble_eq_true rfl) dX6_writeLot_2 ⟨Nat.le_of_ble_eq_true rfl, Nat.le_of_ble_eq_true rfl⟩ (fun E w1 ce q H locs hx w hce hcv hcl => by obtain ⟨rfl, hx⟩ := hx; exact exX (w.jn (L1 := [wXo G.2.1 (ad 0) (xF ad) (svV sv) K, wSh G.2.1 (ad 1) S]) (L' := [wXo G.2.1 (ad 0) (xF ad) (svV sv) K, wSh G.2.1 (ad 1) S, wSh G.2.1 (ad 2) Fc, wTe G.2.1 (ad 4) C, wSb G.2.1 (ad 5) ou, wAd G.2.1 (ad 6) D, wAb G.2.1 (ad 7) B, wHo G.2.1 (ad 3) cu ct hs, hsL G.2.1 hs, blk G.2.1 sv]) hx 10 [0, 1, 2, 3, 4, 5, 6, 7, 8, 9] rfl rfl rfl) htab hlocks hce hcv hcl ⟨K, S, Fc, C, D, B, cu, ct, hs, sv, ou, M', b9, 1, rfl, e2, e3, List.mem_cons_self, h.ask e4⟩ (Nat.le_of_ble_eq_true rfl) (Nat.le_of_ble_eq_true rfl)) (fun r9 w1 H locs h9 w => ?_)
    exact False.elim h9
  · obtain ⟨va, cp, n, mb, f⟩ := ou
    obtain ⟨L0, hT⟩ := OuR.tx h.2.2.2.2.2
    refine CX.of g (by decide) rfl (Nat.le_of_ble_eq_true rfl) ?_
    intro p l e s m below meth c A ls hst htab F hr hlocks w hl
    generalize ([.ref ((ad 0) 0), .int x1] : List Value).toArray = args
    have hl : lv_has ls 4 [(0, .ref ((ad 0) 0)), (1, .int x1)] := hl
    have w : Wd G A s.heap (fl [wXo G.2.1 (ad 0) (xF ad) (svV sv) K, wSh G.2.1 (ad 1) S, wSh G.2.1 (ad 2) Fc, wTe G.2.1 (ad 4) C, wSb G.2.1 (ad 5) (va, cp, n, mb, f), wAd G.2.1 (ad 6) D, wAb G.2.1 (ad 7) B, wHo G.2.1 (ad 3) cu ct hs, hsL G.2.1 hs, blk G.2.1 sv]) _ _ := w
    refine lv_aload_n F.x F.b dX6_writeLot_0 rfl (lv_at hl 0 rfl) ?_
    refine lv_iload_n F.x F.b dX6_writeLot_1 rfl (lv_at hl 1 rfl) ?_
    refine kXi F w hst (LC := [wXo G.2.1 (ad 0) (xF ad) (svV sv) K, wSh G.2.1 (ad 1) S]) (LR := [wSh G.2.1 (ad 2) Fc, wTe G.2.1 (ad 4) C, wSb G.2.1 (ad 5) (va, cp, n, mb, f), wAd G.2.1 (ad 6) D, wAb G.2.1 (ad 7) B, wHo G.2.1 (ad 3) cu ct hs, hsL G.2.1 hs, blk G.2.1 sv]) (As := [.int x1]) (rest := []) (t_X6_slotOf_ok F.1 hq hp) m_X6_slotOf v_X6_slotOf q1047 (ci := 10) (q0 := 0) rfl rfl rfl 10 [0, 1, 2, 3, 4, 5, 6, 7, 8, 9] rfl rfl rfl ⟨Nat.le_of_ble_eq_true rfl, Nat.le_of_ble_eq_true rfl⟩ rfl hl.1 rfl (Nat.le_of_ble_eq_true rfl) dX6_writeLot_2 ⟨Nat.le_of_ble_eq_true rfl, Nat.le_of_ble_eq_true rfl⟩ (fun _ _ _ _ _ _ hx => False.elim hx) (fun r9 w1 H locs h9 w => ?_)
    obtain ⟨rfl, h9⟩ := h9
    have w := w.jn (L1 := [wXo G.2.1 (ad 0) (xF ad) (svV sv) K, wSh G.2.1 (ad 1) S]) (L' := [wXo G.2.1 (ad 0) (xF ad) (svV sv) K, wSh G.2.1 (ad 1) S, wSh G.2.1 (ad 2) Fc, wTe G.2.1 (ad 4) C, wSb G.2.1 (ad 5) (va, cp, n, mb, f), wAd G.2.1 (ad 6) D, wAb G.2.1 (ad 7) B, wHo G.2.1 (ad 3) cu ct hs, hsL G.2.1 hs, blk G.2.1 sv]) h9 10 [0, 1, 2, 3, 4, 5, 6, 7, 8, 9] rfl rfl rfl
    refine lv_istore_n (lv' := [(2, .int (nI pp)), (0, .ref ((ad 0) 0)), (1, .int x1)]) F.x F.b dX6_writeLot_5 rfl hl (by decide) rfl (fun ls hl => ?_)
    refine lv_aload_n F.x F.b dX6_writeLot_6 rfl (lv_at hl 1 rfl) ?_
    refine rg F w cl6 0 rfl 0 (by decide) q301 rfl (v := .ref ((ad 1) 0)) rfl dX6_writeLot_7 ?_
    refine rgN F w cl4 1 rfl 0 (by decide) q188 rfl (v := .ref ((ad 1) 1)) rfl dX6_writeLot_10 ?_
    refine lv_astore_n (lv' := [(3, .ref ((ad 1) 1)), (2, .int (nI pp)), (0, .ref ((ad 0) 0)), (1, .int x1)]) F.x F.b dX6_writeLot_13 rfl hl (by decide) rfl (fun ls hl => ?_)
    refine lv_aload_n F.x F.b dX6_writeLot_14 rfl (lv_at hl 2 rfl) ?_
    refine rg F w cl6 0 rfl 4 (by decide) q305 rfl (v := .ref ((ad 5) 0)) rfl dX6_writeLot_15 ?_
    refine lv_iconst (v := 0) F.x F.b dX6_writeLot_18 (by decide) ?_
    refine kXv F w hst (LC := [wSb G.2.1 (ad 5) (va, cp, n, mb, f)]) (LR := [wXo G.2.1 (ad 0) (xF ad) (svV sv) K, wSh G.2.1 (ad 1) S, wSh G.2.1 (ad 2) Fc, wTe G.2.1 (ad 4) C, wAd G.2.1 (ad 6) D, wAb G.2.1 (ad 7) B, wHo G.2.1 (ad 3) cu ct hs, hsL G.2.1 hs, blk G.2.1 sv]) (As := [.int 0]) (rest := []) (t_J4_setLength_d00df F.1 pv hT).toX m_J4_setLength_d00df v_J4_setLength_d00df q453 (ci := 1) (q0 := 32) rfl rfl rfl 10 [4, 0, 1, 2, 3, 5, 6, 7, 8, 9] rfl rfl rfl ⟨Nat.le_of_ble_eq_true rfl, Nat.le_of_ble_eq_true rfl⟩ rfl hl.1 rfl (Nat.le_of_ble_eq_true rfl) dX6_writeLot_19 ⟨Nat.le_of_ble_eq_true rfl, Nat.le_of_ble_eq_true rfl⟩ (fun _ _ _ _ _ _ hx => False.elim hx) (fun w1 H locs h9 w => ?_)
    obtain ⟨va1, mb1, f1, h9⟩ := h9
    have w := w.jn (L1 := [wSb G.2.1 (ad 5) (va1, cp, 0, mb1, f1)]) (L' := [wXo G.2.1 (ad 0) (xF ad) (svV sv) K, wSh G.2.1 (ad 1) S, wSh G.2.1 (ad 2) Fc, wTe G.2.1 (ad 4) C, wSb G.2.1 (ad 5) (va1, cp, 0, mb1, f1), wAd G.2.1 (ad 6) D, wAb G.2.1 (ad 7) B, wHo G.2.1 (ad 3) cu ct hs, hsL G.2.1 hs, blk G.2.1 sv]) h9 10 [1, 2, 3, 4, 0, 5, 6, 7, 8, 9] rfl rfl rfl
    have hT0 : Tx (va1, cp, 0, mb1, f1) [] := Tx.nil hT.1
    have hcp16 : 16 ≤ cp := by rcases hT.1 with e | e <;> (have e : cp = _ := e; omega)
    refine lv_aload_n F.x F.b dX6_writeLot_22 rfl (lv_at hl 2 rfl) ?_
    refine rg F w cl6 0 rfl 4 (by decide) q305 rfl (v := .ref ((ad 5) 0)) rfl dX6_writeLot_23 ?_
    refine lv_aload_n F.x F.b dX6_writeLot_26 rfl (lv_at hl 0 rfl) ?_
    refine rgN F w cl3 2 rfl 1 (by decide) q110 rfl (v := .ref ((ad 1) 3)) rfl dX6_writeLot_27 ?_
    refine lv_iload_n F.x F.b dX6_writeLot_30 rfl (lv_at hl 1 rfl) ?_
    refine rc F w 4 (n := 16) (f := S.2 1) rfl (ib_nI hp (by omega)) dX6_writeLot_31 ?_
    rw [show (S.2 1 (Int32.toNatClampNeg (nI pp))) = (nI k) from by rw [nI_clamp (by omega)]; exact ek]
    refine kVr F w (LC := [wSb G.2.1 (ad 5) (va1, cp, 0, mb1, f1)]) (LR := [wXo G.2.1 (ad 0) (xF ad) (svV sv) K, wSh G.2.1 (ad 1) S, wSh G.2.1 (ad 2) Fc, wTe G.2.1 (ad 4) C, wAd G.2.1 (ad 6) D, wAb G.2.1 (ad 7) B, wHo G.2.1 (ad 3) cu ct hs, hsL G.2.1 hs, blk G.2.1 sv]) (As := [.int (nI k)]) (rest := []) (t_J4_append_cf468 F.1 hSG pv hT0 hk (gm := 0) (gs := 0) (Or.inl ⟨by omega, rfl⟩)) m_J4_append_cf468 v_J4_append_cf468 (List.mem_of_getElem? (i := 800) (by decide +kernel)) (ci := 1) (q0 := 32) rfl rfl rfl 10 [4, 0, 1, 2, 3, 5, 6, 7, 8, 9] rfl rfl rfl ⟨Nat.le_of_ble_eq_true rfl, Nat.le_of_ble_eq_true rfl⟩ rfl hl.1 rfl (Nat.le_of_ble_eq_true rfl) dX6_writeLot_32 ⟨Nat.le_of_ble_eq_true rfl, Nat.le_of_ble_eq_true rfl⟩ (fun a9 w1 H locs h9 w => ?_)
    obtain ⟨rfl, va2, f2, h9, hT2⟩ := h9
    have w := w.jn (L1 := [wSb G.2.1 (ad 5) (va2, cp, (0 + 1), mb1, f2)]) (L' := [wXo G.2.1 (ad 0) (xF ad) (svV sv) K, wSh G.2.1 (ad 1) S, wSh G.2.1 (ad 2) Fc, wTe G.2.1 (ad 4) C, wSb G.2.1 (ad 5) (va2, cp, (0 + 1), mb1, f2), wAd G.2.1 (ad 6) D, wAb G.2.1 (ad 7) B, wHo G.2.1 (ad 3) cu ct hs, hsL G.2.1 hs, blk G.2.1 sv]) h9 10 [1, 2, 3, 4, 0, 5, 6, 7, 8, 9] rfl rfl rfl
    refine lv_aload_n F.x F.b dX6_writeLot_35 rfl (lv_at hl 0 rfl) ?_
    refine rgN F w cl3 2 rfl 2 (by decide) q112 rfl (v := .ref ((ad 1) 4)) rfl dX6_writeLot_36 ?_
    refine lv_iload_n F.x F.b dX6_writeLot_39 rfl (lv_at hl 1 rfl) ?_
    refine ri F w 5 (n := 16) (f := S.2 2) rfl (ib_nI hp (by omega)) dX6_writeLot_40 ?_
    rw [show (S.2 2 (Int32.toNatClampNeg (nI pp))) = (nI v1) from by rw [nI_clamp (by omega)]; exact ev1]
    refine kVr F w (LC := [wSb G.2.1 (ad 5) (va2, cp, (0 + 1), mb1, f2)]) (LR := [wXo G.2.1 (ad 0) (xF ad) (svV sv) K, wSh G.2.1 (ad 1) S, wSh G.2.1 (ad 2) Fc, wTe G.2.1 (ad 4) C, wAd G.2.1 (ad 6) D, wAb G.2.1 (ad 7) B, wHo G.2.1 (ad 3) cu ct hs, hsL G.2.1 hs, blk G.2.1 sv]) (As := [.int (nI v1)]) (rest := []) (t_J4_append_bf812 F.1 hSG hD pv hT2 hv1 (by omega)) m_J4_append_bf812 v_J4_append_bf812 (List.mem_of_getElem? (i := 1360) (by decide +kernel)) (ci := 1) (q0 := 32) rfl rfl rfl 10 [4, 0, 1, 2, 3, 5, 6, 7, 8, 9] rfl rfl rfl ⟨Nat.le_of_ble_eq_true rfl, Nat.le_of_ble_eq_true rfl⟩ rfl hl.1 rfl (Nat.le_of_ble_eq_true rfl) dX6_writeLot_41 ⟨Nat.le_of_ble_eq_true rfl, Nat.le_of_ble_eq_true rfl⟩ (fun a9 w1 H locs h9 w => ?_)
    obtain ⟨rfl, va3, n3, f3, h9, hT3⟩ := h9
    have w := w.jn (L1 := [wSb G.2.1 (ad 5) (va3, cp, n3, mb1, f3)]) (L' := [wXo G.2.1 (ad 0) (xF ad) (svV sv) K, wSh G.2.1 (ad 1) S, wSh G.2.1 (ad 2) Fc, wTe G.2.1 (ad 4) C, wSb G.2.1 (ad 5) (va3, cp, n3, mb1, f3), wAd G.2.1 (ad 6) D, wAb G.2.1 (ad 7) B, wHo G.2.1 (ad 3) cu ct hs, hsL G.2.1 hs, blk G.2.1 sv]) h9 10 [1, 2, 3, 4, 0, 5, 6, 7, 8, 9] rfl rfl rfl
    have hb3 := Tx.num_le hT2 hT3
    refine lv_pop F.x F.b dX6_writeLot_44 rfl ?_
    refine lv_aload_n F.x F.b dX6_writeLot_45 rfl (lv_at hl 2 rfl) ?_
    refine rg F w cl6 0 rfl 4 (by decide) q305 rfl (v := .ref ((ad 5) 0)) rfl dX6_writeLot_46 ?_
    refine lv_bipush (v := 42) F.x F.b dX6_writeLot_49 (by decide) ?_
    refine kVr F w (LC := [wSb G.2.1 (ad 5) (va3, cp, n3, mb1, f3)]) (LR := [wXo G.2.1 (ad 0) (xF ad) (svV sv) K, wSh G.2.1 (ad 1) S, wSh G.2.1 (ad 2) Fc, wTe G.2.1 (ad 4) C, wAd G.2.1 (ad 6) D, wAb G.2.1 (ad 7) B, wHo G.2.1 (ad 3) cu ct hs, hsL G.2.1 hs, blk G.2.1 sv]) (As := [.int (nI 42)]) (rest := []) (t_J4_append_cf468 F.1 hSG pv hT3 (by omega : 42 < 128) (gm := 0) (gs := 0) (Or.inl ⟨by omega, rfl⟩)) m_J4_append_cf468 v_J4_append_cf468 (List.mem_of_getElem? (i := 800) (by decide +kernel)) (ci := 1) (q0 := 32) rfl rfl rfl 10 [4, 0, 1, 2, 3, 5, 6, 7, 8, 9] rfl rfl rfl ⟨Nat.le_of_ble_eq_true rfl, Nat.le_of_ble_eq_true rfl⟩ rfl hl.1 rfl (Nat.le_of_ble_eq_true rfl) dX6_writeLot_51 ⟨Nat.le_of_ble_eq_true rfl, Nat.le_of_ble_eq_true rfl⟩ (fun a9 w1 H locs h9 w => ?_)
    obtain ⟨rfl, va4, f4, h9, hT4⟩ := h9
    have w := w.jn (L1 := [wSb G.2.1 (ad 5) (va4, cp, (n3 + 1), mb1, f4)]) (L' := [wXo G.2.1 (ad 0) (xF ad) (svV sv) K, wSh G.2.1 (ad 1) S, wSh G.2.1 (ad 2) Fc, wTe G.2.1 (ad 4) C, wSb G.2.1 (ad 5) (va4, cp, (n3 + 1), mb1, f4), wAd G.2.1 (ad 6) D, wAb G.2.1 (ad 7) B, wHo G.2.1 (ad 3) cu ct hs, hsL G.2.1 hs, blk G.2.1 sv]) h9 10 [1, 2, 3, 4, 0, 5, 6, 7, 8, 9] rfl rfl rfl
    refine lv_aload_n F.x F.b dX6_writeLot_54 rfl (lv_at hl 0 rfl) ?_
    refine rgN F w cl3 2 rfl 3 (by decide) q115 rfl (v := .ref ((ad 1) 5)) rfl dX6_writeLot_55 ?_
    refine lv_iload_n F.x F.b dX6_writeLot_58 rfl (lv_at hl 1 rfl) ?_
    refine ri F w 6 (n := 16) (f := S.2 3) rfl (ib_nI hp (by omega)) dX6_writeLot_59 ?_
    rw [show (S.2 3 (Int32.toNatClampNeg (nI pp))) = (nI v2) from by rw [nI_clamp (by omega)]; exact ev2]
    refine kVr F w (LC := [wSb G.2.1 (ad 5) (va4, cp, (n3 + 1), mb1, f4)]) (LR := [wXo G.2.1 (ad 0) (xF ad) (svV sv) K, wSh G.2.1 (ad 1) S, wSh G.2.1 (ad 2) Fc, wTe G.2.1 (ad 4) C, wAd G.2.1 (ad 6) D, wAb G.2.1 (ad 7) B, wHo G.2.1 (ad 3) cu ct hs, hsL G.2.1 hs, blk G.2.1 sv]) (As := [.int (nI v2)]) (rest := []) (t_J4_append_bf812 F.1 hSG hD pv hT4 hv2 (by omega)) m_J4_append_bf812 v_J4_append_bf812 (List.mem_of_getElem? (i := 1360) (by decide +kernel)) (ci := 1) (q0 := 32) rfl rfl rfl 10 [4, 0, 1, 2, 3, 5, 6, 7, 8, 9] rfl rfl rfl ⟨Nat.le_of_ble_eq_true rfl, Nat.le_of_ble_eq_true rfl⟩ rfl hl.1 rfl (Nat.le_of_ble_eq_true rfl) dX6_writeLot_60 ⟨Nat.le_of_ble_eq_true rfl, Nat.le_of_ble_eq_true rfl⟩ (fun a9 w1 H locs h9 w => ?_)
    obtain ⟨rfl, va5, n5, f5, h9, hT5⟩ := h9
    have w := w.jn (L1 := [wSb G.2.1 (ad 5) (va5, cp, n5, mb1, f5)]) (L' := [wXo G.2.1 (ad 0) (xF ad) (svV sv) K, wSh G.2.1 (ad 1) S, wSh G.2.1 (ad 2) Fc, wTe G.2.1 (ad 4) C, wSb G.2.1 (ad 5) (va5, cp, n5, mb1, f5), wAd G.2.1 (ad 6) D, wAb G.2.1 (ad 7) B, wHo G.2.1 (ad 3) cu ct hs, hsL G.2.1 hs, blk G.2.1 sv]) h9 10 [1, 2, 3, 4, 0, 5, 6, 7, 8, 9] rfl rfl rfl
    have hb5 := Tx.num_le hT4 hT5
    refine lv_pop F.x F.b dX6_writeLot_63 rfl ?_
    refine lv_aload_n F.x F.b dX6_writeLot_64 rfl (lv_at hl 2 rfl) ?_
    refine rg F w cl6 0 rfl 4 (by decide) q305 rfl (v := .ref ((ad 5) 0)) rfl dX6_writeLot_65 ?_
    refine lv_bipush (v := 64) F.x F.b dX6_writeLot_68 (by decide) ?_
    refine kVr F w (LC := [wSb G.2.1 (ad 5) (va5, cp, n5, mb1, f5)]) (LR := [wXo G.2.1 (ad 0) (xF ad) (svV sv) K, wSh G.2.1 (ad 1) S, wSh G.2.1 (ad 2) Fc, wTe G.2.1 (ad 4) C, wAd G.2.1 (ad 6) D, wAb G.2.1 (ad 7) B, wHo G.2.1 (ad 3) cu ct hs, hsL G.2.1 hs, blk G.2.1 sv]) (As := [.int (nI 64)]) (rest := []) (t_J4_append_cf468 F.1 hSG pv hT5 (by omega : 64 < 128) (gm := 0) (gs := 0) (Or.inl ⟨by omega, rfl⟩)) m_J4_append_cf468 v_J4_append_cf468 (List.mem_of_getElem? (i := 800) (by decide +kernel)) (ci := 1) (q0 := 32) rfl rfl rfl 10 [4, 0, 1, 2, 3, 5, 6, 7, 8, 9] rfl rfl rfl ⟨Nat.le_of_ble_eq_true rfl, Nat.le_of_ble_eq_true rfl⟩ rfl hl.1 rfl (Nat.le_of_ble_eq_true rfl) dX6_writeLot_70 ⟨Nat.le_of_ble_eq_true rfl, Nat.le_of_ble_eq_true rfl⟩ (fun a9 w1 H locs h9 w => ?_)
    obtain ⟨rfl, va6, f6, h9, hT6⟩ := h9
    have w := w.jn (L1 := [wSb G.2.1 (ad 5) (va6, cp, (n5 + 1), mb1, f6)]) (L' := [wXo G.2.1 (ad 0) (xF ad) (svV sv) K, wSh G.2.1 (ad 1) S, wSh G.2.1 (ad 2) Fc, wTe G.2.1 (ad 4) C, wSb G.2.1 (ad 5) (va6, cp, (n5 + 1), mb1, f6), wAd G.2.1 (ad 6) D, wAb G.2.1 (ad 7) B, wHo G.2.1 (ad 3) cu ct hs, hsL G.2.1 hs, blk G.2.1 sv]) h9 10 [1, 2, 3, 4, 0, 5, 6, 7, 8, 9] rfl rfl rfl
    refine lv_aload_n F.x F.b dX6_writeLot_73 rfl (lv_at hl 0 rfl) ?_
    refine rgN F w cl3 2 rfl 4 (by decide) q118 rfl (v := .ref ((ad 1) 6)) rfl dX6_writeLot_74 ?_
    refine lv_iload_n F.x F.b dX6_writeLot_77 rfl (lv_at hl 1 rfl) ?_
    refine ri F w 7 (n := 16) (f := S.2 4) rfl (ib_nI hp (by omega)) dX6_writeLot_78 ?_
    rw [show (S.2 4 (Int32.toNatClampNeg (nI pp))) = (nI b) from by rw [nI_clamp (by omega)]; exact eb]
    refine kVr F w (LC := [wSb G.2.1 (ad 5) (va6, cp, (n5 + 1), mb1, f6)]) (LR := [wXo G.2.1 (ad 0) (xF ad) (svV sv) K, wSh G.2.1 (ad 1) S, wSh G.2.1 (ad 2) Fc, wTe G.2.1 (ad 4) C, wAd G.2.1 (ad 6) D, wAb G.2.1 (ad 7) B, wHo G.2.1 (ad 3) cu ct hs, hsL G.2.1 hs, blk G.2.1 sv]) (As := [.int (nI b)]) (rest := []) (t_J4_append_bf812 F.1 hSG hD pv hT6 hb (by omega)) m_J4_append_bf812 v_J4_append_bf812 (List.mem_of_getElem? (i := 1360) (by decide +kernel)) (ci := 1) (q0 := 32) rfl rfl rfl 10 [4, 0, 1, 2, 3, 5, 6, 7, 8, 9] rfl rfl rfl ⟨Nat.le_of_ble_eq_true rfl, Nat.le_of_ble_eq_true rfl⟩ rfl hl.1 rfl (Nat.le_of_ble_eq_true rfl) dX6_writeLot_79 ⟨Nat.le_of_ble_eq_true rfl, Nat.le_of_ble_eq_true rfl⟩ (fun a9 w1 H locs h9 w => ?_)
    obtain ⟨rfl, va7, n7, f7, h9, hT7⟩ := h9
    have w := w.jn (L1 := [wSb G.2.1 (ad 5) (va7, cp, n7, mb1, f7)]) (L' := [wXo G.2.1 (ad 0) (xF ad) (svV sv) K, wSh G.2.1 (ad 1) S, wSh G.2.1 (ad 2) Fc, wTe G.2.1 (ad 4) C, wSb G.2.1 (ad 5) (va7, cp, n7, mb1, f7), wAd G.2.1 (ad 6) D, wAb G.2.1 (ad 7) B, wHo G.2.1 (ad 3) cu ct hs, hsL G.2.1 hs, blk G.2.1 sv]) h9 10 [1, 2, 3, 4, 0, 5, 6, 7, 8, 9] rfl rfl rfl
    have hb7 := Tx.num_le hT6 hT7
    refine lv_pop F.x F.b dX6_writeLot_82 rfl ?_
    refine lv_aload_n F.x F.b dX6_writeLot_83 rfl (lv_at hl 0 rfl) ?_
    refine rgN F w cl3 2 rfl 5 (by decide) q121 rfl (v := .ref ((ad 1) 7)) rfl dX6_writeLot_84 ?_
    refine lv_iload_n F.x F.b dX6_writeLot_87 rfl (lv_at hl 1 rfl) ?_
    refine rz F w 8 (n := 16) (f := S.2 5) rfl (ib_nI hp (by omega)) dX6_writeLot_88 ?_
    rw [show (S.2 5 (Int32.toNatClampNeg (nI pp))) = S.2 5 pp from by rw [nI_clamp (by omega)]]
    rcases fg5 with z5 | z5
    · refine lv_if_eq (tgt := 102) F.x F.b dX6_writeLot_89 (by decide) (fun _ => ?_) (fun c9 => absurd z5 c9)
      refine lv_aload_n F.x F.b dX6_writeLot_102 rfl (lv_at hl 0 rfl) ?_
      refine rgN F w cl3 2 rfl 6 (by decide) q124 rfl (v := .ref ((ad 1) 8)) rfl dX6_writeLot_103 ?_
      refine lv_iload_n F.x F.b dX6_writeLot_106 rfl (lv_at hl 1 rfl) ?_
      refine rz F w 9 (n := 16) (f := S.2 6) rfl (ib_nI hp (by omega)) dX6_writeLot_107 ?_
      rw [show (S.2 6 (Int32.toNatClampNeg (nI pp))) = S.2 6 pp from by rw [nI_clamp (by omega)]]
      rcases fg6 with z6 | z6
      · refine lv_if_eq (tgt := 121) F.x F.b dX6_writeLot_108 (by decide) (fun _ => ?_) (fun c9 => absurd z6 c9)
        refine lv_aload_n F.x F.b dX6_writeLot_121 rfl (lv_at hl 2 rfl) ?_
        refine rg F w cl6 0 rfl 0 (by decide) q301 rfl (v := .ref ((ad 1) 0)) rfl dX6_writeLot_122 ?_
        refine rgN F w cl4 1 rfl 2 (by decide) q192 rfl (v := .ref ((ad 1) 12)) rfl dX6_writeLot_125 ?_
        refine lv_iload_n F.x F.b dX6_writeLot_128 rfl (lv_at hl 3 rfl) ?_
        refine kXi F w hst (LC := [wSh G.2.1 (ad 1) S]) (LR := [wXo G.2.1 (ad 0) (xF ad) (svV sv) K, wSh G.2.1 (ad 2) Fc, wTe G.2.1 (ad 4) C, wSb G.2.1 (ad 5) (va7, cp, n7, mb1, f7), wAd G.2.1 (ad 6) D, wAb G.2.1 (ad 7) B, wHo G.2.1 (ad 3) cu ct hs, hsL G.2.1 hs, blk G.2.1 sv]) (As := [.int x1]) (rest := []) (t_X0_placeOf F.1 hz).toX m_X0_placeOf v_X0_placeOf q1361 (ci := 4) (q0 := 13) rfl rfl rfl 10 [1, 0, 2, 3, 4, 5, 6, 7, 8, 9] rfl rfl rfl ⟨Nat.le_of_ble_eq_true rfl, Nat.le_of_ble_eq_true rfl⟩ rfl hl.1 rfl (Nat.le_of_ble_eq_true rfl) dX6_writeLot_129 ⟨Nat.le_of_ble_eq_true rfl, Nat.le_of_ble_eq_true rfl⟩ (fun _ _ _ _ _ _ hx => False.elim hx) (fun r9 w1 H locs h9 w => ?_)
        obtain ⟨hz9, h9⟩ := h9
        have w := w.jn (L1 := [wSh G.2.1 (ad 1) S]) (L' := [wXo G.2.1 (ad 0) (xF ad) (svV sv) K, wSh G.2.1 (ad 1) S, wSh G.2.1 (ad 2) Fc, wTe G.2.1 (ad 4) C, wSb G.2.1 (ad 5) (va7, cp, n7, mb1, f7), wAd G.2.1 (ad 6) D, wAb G.2.1 (ad 7) B, wHo G.2.1 (ad 3) cu ct hs, hsL G.2.1 hs, blk G.2.1 sv]) h9 10 [1, 0, 2, 3, 4, 5, 6, 7, 8, 9] rfl rfl rfl
        rw [hz9]
        rcases hzc with zz | ⟨jj, hjj, zz⟩
        · refine lv_if_lt (tgt := 145) F.x F.b dX6_writeLot_132 (by decide) (fun _ => ?_) (fun c9 => absurd (by rw [zz]; decide) c9)
          refine lv_aload_n F.x F.b dX6_writeLot_145 rfl (lv_at hl 2 rfl) ?_
          refine rg F w cl6 0 rfl 4 (by decide) q305 rfl (v := .ref ((ad 5) 0)) rfl dX6_writeLot_146 ?_
          refine kXi F w hst (LC := [wSb G.2.1 (ad 5) (va7, cp, n7, mb1, f7)]) (LR := [wXo G.2.1 (ad 0) (xF ad) (svV sv) K, wSh G.2.1 (ad 1) S, wSh G.2.1 (ad 2) Fc, wTe G.2.1 (ad 4) C, wAd G.2.1 (ad 6) D, wAb G.2.1 (ad 7) B, wHo G.2.1 (ad 3) cu ct hs, hsL G.2.1 hs, blk G.2.1 sv]) (As := []) (rest := []) (t_J4_length_8abf5 F.1 (o := ad 5) (va := va7) (cp := cp) (n := n7) (mb := mb1) (f := f7)).toX m_J4_length_8abf5 v_J4_length_8abf5 q822 (ci := 1) (q0 := 32) rfl rfl rfl 10 [4, 0, 1, 2, 3, 5, 6, 7, 8, 9] rfl rfl rfl ⟨Nat.le_of_ble_eq_true rfl, Nat.le_of_ble_eq_true rfl⟩ rfl hl.1 rfl (Nat.le_of_ble_eq_true rfl) dX6_writeLot_149 ⟨Nat.le_of_ble_eq_true rfl, Nat.le_of_ble_eq_true rfl⟩ (fun _ _ _ _ _ _ hx => False.elim hx) (fun r9 w1 H locs h9 w => ?_)
          obtain ⟨rfl, h9⟩ := h9
          have w := w.jn (L1 := [wSb G.2.1 (ad 5) (va7, cp, n7, mb1, f7)]) (L' := [wXo G.2.1 (ad 0) (xF ad) (svV sv) K, wSh G.2.1 (ad 1) S, wSh G.2.1 (ad 2) Fc, wTe G.2.1 (ad 4) C, wSb G.2.1 (ad 5) (va7, cp, n7, mb1, f7), wAd G.2.1 (ad 6) D, wAb G.2.1 (ad 7) B, wHo G.2.1 (ad 3) cu ct hs, hsL G.2.1 hs, blk G.2.1 sv]) h9 10 [1, 2, 3, 4, 0, 5, 6, 7, 8, 9] rfl rfl rfl
          have hL : lotTx k v1 v2 b (S.2 5 pp) (S.2 6 pp) z = _ := (show lotTx k v1 v2 b (S.2 5 pp) (S.2 6 pp) z = [] ++ [k] ++ dgN v1 ++ [42] ++ dgN v2 ++ [64] ++ dgN b from by simp [lotTx, z5, z6, zz])
          rw [hL] at e2 hW
          have hTn : n7 = _ := hT7.2.1
          have hl12 := lotTx_le k v1 v2 b (S.2 5 pp) (S.2 6 pp) z
          rw [hL] at hl12
          obtain ⟨e4, e3⟩ := h.written hT7 hW (by omega)
          exact eiX F w hr hlocks rfl ⟨K, S, Fc, C, D, B, cu, ct, hs, sv, (va7, cp, n7, mb1, f7), M', rfl, (by rw [hTn]; exact e2), e3, e4⟩ (Nat.le_of_ble_eq_true rfl) (Nat.le_of_ble_eq_true rfl) dX6_writeLot_152
        · refine lv_if_lt (tgt := 145) F.x F.b dX6_writeLot_132 (by decide) (fun c9 => absurd c9 (by rw [zz]; exact Int32.not_lt.mpr (nI_pos' (n := jj) (by omega)))) (fun _ => ?_)
          have zz : ¬ z = -1 := by rw [zz]; exact nI_nm1 (by omega)
          refine lv_aload_n F.x F.b dX6_writeLot_135 rfl (lv_at hl 2 rfl) ?_
          refine rg F w cl6 0 rfl 4 (by decide) q305 rfl (v := .ref ((ad 5) 0)) rfl dX6_writeLot_136 ?_
          refine lv_bipush (v := 63) F.x F.b dX6_writeLot_139 (by decide) ?_
          refine kVr F w (LC := [wSb G.2.1 (ad 5) (va7, cp, n7, mb1, f7)]) (LR := [wXo G.2.1 (ad 0) (xF ad) (svV sv) K, wSh G.2.1 (ad 1) S, wSh G.2.1 (ad 2) Fc, wTe G.2.1 (ad 4) C, wAd G.2.1 (ad 6) D, wAb G.2.1 (ad 7) B, wHo G.2.1 (ad 3) cu ct hs, hsL G.2.1 hs, blk G.2.1 sv]) (As := [.int (nI 63)]) (rest := []) (t_J4_append_cf468 F.1 hSG pv hT7 (by omega : 63 < 128) (gm := 0) (gs := 0) (Or.inl ⟨by omega, rfl⟩)) m_J4_append_cf468 v_J4_append_cf468 (List.mem_of_getElem? (i := 800) (by decide +kernel)) (ci := 1) (q0 := 32) rfl rfl rfl 10 [4, 0, 1, 2, 3, 5, 6, 7, 8, 9] rfl rfl rfl ⟨Nat.le_of_ble_eq_true rfl, Nat.le_of_ble_eq_true rfl⟩ rfl hl.1 rfl (Nat.le_of_ble_eq_true rfl) dX6_writeLot_141 ⟨Nat.le_of_ble_eq_true rfl, Nat.le_of_ble_eq_true rfl⟩ (fun a9 w1 H locs h9 w => ?_)
          obtain ⟨rfl, va8, f8, h9, hT8⟩ := h9
          have w := w.jn (L1 := [wSb G.2.1 (ad 5) (va8, cp, (n7 + 1), mb1, f8)]) (L' := [wXo G.2.1 (ad 0) (xF ad) (svV sv) K, wSh G.2.1 (ad 1) S, wSh G.2.1 (ad 2) Fc, wTe G.2.1 (ad 4) C, wSb G.2.1 (ad 5) (va8, cp, (n7 + 1), mb1, f8), wAd G.2.1 (ad 6) D, wAb G.2.1 (ad 7) B, wHo G.2.1 (ad 3) cu ct hs, hsL G.2.1 hs, blk G.2.1 sv]) h9 10 [1, 2, 3, 4, 0, 5, 6, 7, 8, 9] rfl rfl rfl
          refine lv_pop F.x F.b dX6_writeLot_144 rfl ?_
          refine lv_aload_n F.x F.b dX6_writeLot_145 rfl (lv_at hl 2 rfl) ?_
          refine rg F w cl6 0 rfl 4 (by decide) q305 rfl (v := .ref ((ad 5) 0)) rfl dX6_writeLot_146 ?_
          refine kXi F w hst (LC := [wSb G.2.1 (ad 5) (va8, cp, (n7 + 1), mb1, f8)]) (LR := [wXo G.2.1 (ad 0) (xF ad) (svV sv) K, wSh G.2.1 (ad 1) S, wSh G.2.1 (ad 2) Fc, wTe G.2.1 (ad 4) C, wAd G.2.1 (ad 6) D, wAb G.2.1 (ad 7) B, wHo G.2.1 (ad 3) cu ct hs, hsL G.2.1 hs, blk G.2.1 sv]) (As := []) (rest := []) (t_J4_length_8abf5 F.1 (o := ad 5) (va := va8) (cp := cp) (n := (n7 + 1)) (mb := mb1) (f := f8)).toX m_J4_length_8abf5 v_J4_length_8abf5 q822 (ci := 1) (q0 := 32) rfl rfl rfl 10 [4, 0, 1, 2, 3, 5, 6, 7, 8, 9] rfl rfl rfl ⟨Nat.le_of_ble_eq_true rfl, Nat.le_of_ble_eq_true rfl⟩ rfl hl.1 rfl (Nat.le_of_ble_eq_true rfl) dX6_writeLot_149 ⟨Nat.le_of_ble_eq_true rfl, Nat.le_of_ble_eq_true rfl⟩ (fun _ _ _ _ _ _ hx => False.elim hx) (fun r9 w1 H locs h9 w => ?_)
          obtain ⟨rfl, h9⟩ := h9
          have w := w.jn (L1 := [wSb G.2.1 (ad 5) (va8, cp, (n7 + 1), mb1, f8)]) (L' := [wXo G.2.1 (ad 0) (xF ad) (svV sv) K, wSh G.2.1 (ad 1) S, wSh G.2.1 (ad 2) Fc, wTe G.2.1 (ad 4) C, wSb G.2.1 (ad 5) (va8, cp, (n7 + 1), mb1, f8), wAd G.2.1 (ad 6) D, wAb G.2.1 (ad 7) B, wHo G.2.1 (ad 3) cu ct hs, hsL G.2.1 hs, blk G.2.1 sv]) h9 10 [1, 2, 3, 4, 0, 5, 6, 7, 8, 9] rfl rfl rfl
          have hL : lotTx k v1 v2 b (S.2 5 pp) (S.2 6 pp) z = _ := (show lotTx k v1 v2 b (S.2 5 pp) (S.2 6 pp) z = [] ++ [k] ++ dgN v1 ++ [42] ++ dgN v2 ++ [64] ++ dgN b ++ [63] from by simp [lotTx, z5, z6, zz])
          rw [hL] at e2 hW
          have hTn : (n7 + 1) = _ := hT8.2.1
          have hl12 := lotTx_le k v1 v2 b (S.2 5 pp) (S.2 6 pp) z
          rw [hL] at hl12
          obtain ⟨e4, e3⟩ := h.written hT8 hW (by omega)
          exact eiX F w hr hlocks rfl ⟨K, S, Fc, C, D, B, cu, ct, hs, sv, (va8, cp, (n7 + 1), mb1, f8), M', rfl, (by rw [hTn]; exact e2), e3, e4⟩ (Nat.le_of_ble_eq_true rfl) (Nat.le_of_ble_eq_true rfl) dX6_writeLot_152
      · refine lv_if_eq (tgt := 121) F.x F.b dX6_writeLot_108 (by decide) (fun c9 => absurd c9 (by rw [z6]; decide)) (fun _ => ?_)
        refine lv_aload_n F.x F.b dX6_writeLot_111 rfl (lv_at hl 2 rfl) ?_
        refine rg F w cl6 0 rfl 4 (by decide) q305 rfl (v := .ref ((ad 5) 0)) rfl dX6_writeLot_112 ?_
        refine lv_bipush (v := 126) F.x F.b dX6_writeLot_115 (by decide) ?_
        refine kVr F w (LC := [wSb G.2.1 (ad 5) (va7, cp, n7, mb1, f7)]) (LR := [wXo G.2.1 (ad 0) (xF ad) (svV sv) K, wSh G.2.1 (ad 1) S, wSh G.2.1 (ad 2) Fc, wTe G.2.1 (ad 4) C, wAd G.2.1 (ad 6) D, wAb G.2.1 (ad 7) B, wHo G.2.1 (ad 3) cu ct hs, hsL G.2.1 hs, blk G.2.1 sv]) (As := [.int (nI 126)]) (rest := []) (t_J4_append_cf468 F.1 hSG pv hT7 (by omega : 126 < 128) (gm := 0) (gs := 0) (Or.inl ⟨by omega, rfl⟩)) m_J4_append_cf468 v_J4_append_cf468 (List.mem_of_getElem? (i := 800) (by decide +kernel)) (ci := 1) (q0 := 32) rfl rfl rfl 10 [4, 0, 1, 2, 3, 5, 6, 7, 8, 9] rfl rfl rfl ⟨Nat.le_of_ble_eq_true rfl, Nat.le_of_ble_eq_true rfl⟩ rfl hl.1 rfl (Nat.le_of_ble_eq_true rfl) dX6_writeLot_117 ⟨Nat.le_of_ble_eq_true rfl, Nat.le_of_ble_eq_true rfl⟩ (fun a9 w1 H locs h9 w => ?_)
        obtain ⟨rfl, va8, f8, h9, hT8⟩ := h9
        have w := w.jn (L1 := [wSb G.2.1 (ad 5) (va8, cp, (n7 + 1), mb1, f8)]) (L' := [wXo G.2.1 (ad 0) (xF ad) (svV sv) K, wSh G.2.1 (ad 1) S, wSh G.2.1 (ad 2) Fc, wTe G.2.1 (ad 4) C, wSb G.2.1 (ad 5) (va8, cp, (n7 + 1), mb1, f8), wAd G.2.1 (ad 6) D, wAb G.2.1 (ad 7) B, wHo G.2.1 (ad 3) cu ct hs, hsL G.2.1 hs, blk G.2.1 sv]) h9 10 [1, 2, 3, 4, 0, 5, 6, 7, 8, 9] rfl rfl rfl
        refine lv_pop F.x F.b dX6_writeLot_120 rfl ?_
        refine lv_aload_n F.x F.b dX6_writeLot_121 rfl (lv_at hl 2 rfl) ?_
        refine rg F w cl6 0 rfl 0 (by decide) q301 rfl (v := .ref ((ad 1) 0)) rfl dX6_writeLot_122 ?_
        refine rgN F w cl4 1 rfl 2 (by decide) q192 rfl (v := .ref ((ad 1) 12)) rfl dX6_writeLot_125 ?_
        refine lv_iload_n F.x F.b dX6_writeLot_128 rfl (lv_at hl 3 rfl) ?_
        refine kXi F w hst (LC := [wSh G.2.1 (ad 1) S]) (LR := [wXo G.2.1 (ad 0) (xF ad) (svV sv) K, wSh G.2.1 (ad 2) Fc, wTe G.2.1 (ad 4) C, wSb G.2.1 (ad 5) (va8, cp, (n7 + 1), mb1, f8), wAd G.2.1 (ad 6) D, wAb G.2.1 (ad 7) B, wHo G.2.1 (ad 3) cu ct hs, hsL G.2.1 hs, blk G.2.1 sv]) (As := [.int x1]) (rest := []) (t_X0_placeOf F.1 hz).toX m_X0_placeOf v_X0_placeOf q1361 (ci := 4) (q0 := 13) rfl rfl rfl 10 [1, 0, 2, 3, 4, 5, 6, 7, 8, 9] rfl rfl rfl ⟨Nat.le_of_ble_eq_true rfl, Nat.le_of_ble_eq_true rfl⟩ rfl hl.1 rfl (Nat.le_of_ble_eq_true rfl) dX6_writeLot_129 ⟨Nat.le_of_ble_eq_true rfl, Nat.le_of_ble_eq_true rfl⟩ (fun _ _ _ _ _ _ hx => False.elim hx) (fun r9 w1 H locs h9 w => ?_)
        obtain ⟨hz9, h9⟩ := h9
        have w := w.jn (L1 := [wSh G.2.1 (ad 1) S]) (L' := [wXo G.2.1 (ad 0) (xF ad) (svV sv) K, wSh G.2.1 (ad 1) S, wSh G.2.1 (ad 2) Fc, wTe G.2.1 (ad 4) C, wSb G.2.1 (ad 5) (va8, cp, (n7 + 1), mb1, f8), wAd G.2.1 (ad 6) D, wAb G.2.1 (ad 7) B, wHo G.2.1 (ad 3) cu ct hs, hsL G.2.1 hs, blk G.2.1 sv]) h9 10 [1, 0, 2, 3, 4, 5, 6, 7, 8, 9] rfl rfl rfl
        rw [hz9]
        rcases hzc with zz | ⟨jj, hjj, zz⟩
        · refine lv_if_lt (tgt := 145) F.x F.b dX6_writeLot_132 (by decide) (fun _ => ?_) (fun c9 => absurd (by rw [zz]; decide) c9)
          refine lv_aload_n F.x F.b dX6_writeLot_145 rfl (lv_at hl 2 rfl) ?_
          refine rg F w cl6 0 rfl 4 (by decide) q305 rfl (v := .ref ((ad 5) 0)) rfl dX6_writeLot_146 ?_
          refine kXi F w hst (LC := [wSb G.2.1 (ad 5) (va8, cp, (n7 + 1), mb1, f8)]) (LR := [wXo G.2.1 (ad 0) (xF ad) (svV sv) K, wSh G.2.1 (ad 1) S, wSh G.2.1 (ad 2) Fc, wTe G.2.1 (ad 4) C, wAd G.2.1 (ad 6) D, wAb G.2.1 (ad 7) B, wHo G.2.1 (ad 3) cu ct hs, hsL G.2.1 hs, blk G.2.1 sv]) (As := []) (rest := []) (t_J4_length_8abf5 F.1 (o := ad 5) (va := va8) (cp := cp) (n := (n7 + 1)) (mb := mb1) (f := f8)).toX m_J4_length_8abf5 v_J4_length_8abf5 q822 (ci := 1) (q0 := 32) rfl rfl rfl 10 [4, 0, 1, 2, 3, 5, 6, 7, 8, 9] rfl rfl rfl ⟨Nat.le_of_ble_eq_true rfl, Nat.le_of_ble_eq_true rfl⟩ rfl hl.1 rfl (Nat.le_of_ble_eq_true rfl) dX6_writeLot_149 ⟨Nat.le_of_ble_eq_true rfl, Nat.le_of_ble_eq_true rfl⟩ (fun _ _ _ _ _ _ hx => False.elim hx) (fun r9 w1 H locs h9 w => ?_)
          obtain ⟨rfl, h9⟩ := h9
          have w := w.jn (L1 := [wSb G.2.1 (ad 5) (va8, cp, (n7 + 1), mb1, f8)]) (L' := [wXo G.2.1 (ad 0) (xF ad) (svV sv) K, wSh G.2.1 (ad 1) S, wSh G.2.1 (ad 2) Fc, wTe G.2.1 (ad 4) C, wSb G.2.1 (ad 5) (va8, cp, (n7 + 1), mb1, f8), wAd G.2.1 (ad 6) D, wAb G.2.1 (ad 7) B, wHo G.2.1 (ad 3) cu ct hs, hsL G.2.1 hs, blk G.2.1 sv]) h9 10 [1, 2, 3, 4, 0, 5, 6, 7, 8, 9] rfl rfl rfl
          have hL : lotTx k v1 v2 b (S.2 5 pp) (S.2 6 pp) z = _ := (show lotTx k v1 v2 b (S.2 5 pp) (S.2 6 pp) z = [] ++ [k] ++ dgN v1 ++ [42] ++ dgN v2 ++ [64] ++ dgN b ++ [126] from by simp [lotTx, z5, z6, zz])
          rw [hL] at e2 hW
          have hTn : (n7 + 1) = _ := hT8.2.1
          have hl12 := lotTx_le k v1 v2 b (S.2 5 pp) (S.2 6 pp) z
          rw [hL] at hl12
          obtain ⟨e4, e3⟩ := h.written hT8 hW (by omega)
          exact eiX F w hr hlocks rfl ⟨K, S, Fc, C, D, B, cu, ct, hs, sv, (va8, cp, (n7 + 1), mb1, f8), M', rfl, (by rw [hTn]; exact e2), e3, e4⟩ (Nat.le_of_ble_eq_true rfl) (Nat.le_of_ble_eq_true rfl) dX6_writeLot_152
        · refine lv_if_lt (tgt := 145) F.x F.b dX6_writeLot_132 (by decide) (fun c9 => absurd c9 (by rw [zz]; exact Int32.not_lt.mpr (nI_pos' (n := jj) (by omega)))) (fun _ => ?_)
          have zz : ¬ z = -1 := by rw [zz]; exact nI_nm1 (by omega)
          refine lv_aload_n F.x F.b dX6_writeLot_135 rfl (lv_at hl 2 rfl) ?_
          refine rg F w cl6 0 rfl 4 (by decide) q305 rfl (v := .ref ((ad 5) 0)) rfl dX6_writeLot_136 ?_
          refine lv_bipush (v := 63) F.x F.b dX6_writeLot_139 (by decide) ?_
          refine kVr F w (LC := [wSb G.2.1 (ad 5) (va8, cp, (n7 + 1), mb1, f8)]) (LR := [wXo G.2.1 (ad 0) (xF ad) (svV sv) K, wSh G.2.1 (ad 1) S, wSh G.2.1 (ad 2) Fc, wTe G.2.1 (ad 4) C, wAd G.2.1 (ad 6) D, wAb G.2.1 (ad 7) B, wHo G.2.1 (ad 3) cu ct hs, hsL G.2.1 hs, blk G.2.1 sv]) (As := [.int (nI 63)]) (rest := []) (t_J4_append_cf468 F.1 hSG pv hT8 (by omega : 63 < 128) (gm := 0) (gs := 0) (Or.inl ⟨by omega, rfl⟩)) m_J4_append_cf468 v_J4_append_cf468 (List.mem_of_getElem? (i := 800) (by decide +kernel)) (ci := 1) (q0 := 32) rfl rfl rfl 10 [4, 0, 1, 2, 3, 5, 6, 7, 8, 9] rfl rfl rfl ⟨Nat.le_of_ble_eq_true rfl, Nat.le_of_ble_eq_true rfl⟩ rfl hl.1 rfl (Nat.le_of_ble_eq_true rfl) dX6_writeLot_141 ⟨Nat.le_of_ble_eq_true rfl, Nat.le_of_ble_eq_true rfl⟩ (fun a9 w1 H locs h9 w => ?_)
          obtain ⟨rfl, va9, f9, h9, hT9⟩ := h9
          have w := w.jn (L1 := [wSb G.2.1 (ad 5) (va9, cp, ((n7 + 1) + 1), mb1, f9)]) (L' := [wXo G.2.1 (ad 0) (xF ad) (svV sv) K, wSh G.2.1 (ad 1) S, wSh G.2.1 (ad 2) Fc, wTe G.2.1 (ad 4) C, wSb G.2.1 (ad 5) (va9, cp, ((n7 + 1) + 1), mb1, f9), wAd G.2.1 (ad 6) D, wAb G.2.1 (ad 7) B, wHo G.2.1 (ad 3) cu ct hs, hsL G.2.1 hs, blk G.2.1 sv]) h9 10 [1, 2, 3, 4, 0, 5, 6, 7, 8, 9] rfl rfl rfl
          refine lv_pop F.x F.b dX6_writeLot_144 rfl ?_
          refine lv_aload_n F.x F.b dX6_writeLot_145 rfl (lv_at hl 2 rfl) ?_
          refine rg F w cl6 0 rfl 4 (by decide) q305 rfl (v := .ref ((ad 5) 0)) rfl dX6_writeLot_146 ?_
          refine kXi F w hst (LC := [wSb G.2.1 (ad 5) (va9, cp, ((n7 + 1) + 1), mb1, f9)]) (LR := [wXo G.2.1 (ad 0) (xF ad) (svV sv) K, wSh G.2.1 (ad 1) S, wSh G.2.1 (ad 2) Fc, wTe G.2.1 (ad 4) C, wAd G.2.1 (ad 6) D, wAb G.2.1 (ad 7) B, wHo G.2.1 (ad 3) cu ct hs, hsL G.2.1 hs, blk G.2.1 sv]) (As := []) (rest := []) (t_J4_length_8abf5 F.1 (o := ad 5) (va := va9) (cp := cp) (n := ((n7 + 1) + 1)) (mb := mb1) (f := f9)).toX m_J4_length_8abf5 v_J4_length_8abf5 q822 (ci := 1) (q0 := 32) rfl rfl rfl 10 [4, 0, 1, 2, 3, 5, 6, 7, 8, 9] rfl rfl rfl ⟨Nat.le_of_ble_eq_true rfl, Nat.le_of_ble_eq_true rfl⟩ rfl hl.1 rfl (Nat.le_of_ble_eq_true rfl) dX6_writeLot_149 ⟨Nat.le_of_ble_eq_true rfl, Nat.le_of_ble_eq_true rfl⟩ (fun _ _ _ _ _ _ hx => False.elim hx) (fun r9 w1 H locs h9 w => ?_)
          obtain ⟨rfl, h9⟩ := h9
          have w := w.jn (L1 := [wSb G.2.1 (ad 5) (va9, cp, ((n7 + 1) + 1), mb1, f9)]) (L' := [wXo G.2.1 (ad 0) (xF ad) (svV sv) K, wSh G.2.1 (ad 1) S, wSh G.2.1 (ad 2) Fc, wTe G.2.1 (ad 4) C, wSb G.2.1 (ad 5) (va9, cp, ((n7 + 1) + 1), mb1, f9), wAd G.2.1 (ad 6) D, wAb G.2.1 (ad 7) B, wHo G.2.1 (ad 3) cu ct hs, hsL G.2.1 hs, blk G.2.1 sv]) h9 10 [1, 2, 3, 4, 0, 5, 6, 7, 8, 9] rfl rfl rfl
          have hL : lotTx k v1 v2 b (S.2 5 pp) (S.2 6 pp) z = _ := (show lotTx k v1 v2 b (S.2 5 pp) (S.2 6 pp) z = [] ++ [k] ++ dgN v1 ++ [42] ++ dgN v2 ++ [64] ++ dgN b ++ [126] ++ [63] from by simp [lotTx, z5, z6, zz])
          rw [hL] at e2 hW
          have hTn : ((n7 + 1) + 1) = _ := hT9.2.1
          have hl12 := lotTx_le k v1 v2 b (S.2 5 pp) (S.2 6 pp) z
          rw [hL] at hl12
          obtain ⟨e4, e3⟩ := h.written hT9 hW (by omega)
          exact eiX F w hr hlocks rfl ⟨K, S, Fc, C, D, B, cu, ct, hs, sv, (va9, cp, ((n7 + 1) + 1), mb1, f9), M', rfl, (by rw [hTn]; exact e2), e3, e4⟩ (Nat.le_of_ble_eq_true rfl) (Nat.le_of_ble_eq_true rfl) dX6_writeLot_152
    · refine lv_if_eq (tgt := 102) F.x F.b dX6_writeLot_89 (by decide) (fun c9 => absurd c9 (by rw [z5]; decide)) (fun _ => ?_)
      refine lv_aload_n F.x F.b dX6_writeLot_92 rfl (lv_at hl 2 rfl) ?_
      refine rg F w cl6 0 rfl 4 (by decide) q305 rfl (v := .ref ((ad 5) 0)) rfl dX6_writeLot_93 ?_
      refine lv_bipush (v := 35) F.x F.b dX6_writeLot_96 (by decide) ?_
      refine kVr F w (LC := [wSb G.2.1 (ad 5) (va7, cp, n7, mb1, f7)]) (LR := [wXo G.2.1 (ad 0) (xF ad) (svV sv) K, wSh G.2.1 (ad 1) S, wSh G.2.1 (ad 2) Fc, wTe G.2.1 (ad 4) C, wAd G.2.1 (ad 6) D, wAb G.2.1 (ad 7) B, wHo G.2.1 (ad 3) cu ct hs, hsL G.2.1 hs, blk G.2.1 sv]) (As := [.int (nI 35)]) (rest := []) (t_J4_append_cf468 F.1 hSG pv hT7 (by omega : 35 < 128) (gm := 0) (gs := 0) (Or.inl ⟨by omega, rfl⟩)) m_J4_append_cf468 v_J4_append_cf468 (List.mem_of_getElem? (i := 800) (by decide +kernel)) (ci := 1) (q0 := 32) rfl rfl rfl 10 [4, 0, 1, 2, 3, 5, 6, 7, 8, 9] rfl rfl rfl ⟨Nat.le_of_ble_eq_true rfl, Nat.le_of_ble_eq_true rfl⟩ rfl hl.1 rfl (Nat.le_of_ble_eq_true rfl) dX6_writeLot_98 ⟨Nat.le_of_ble_eq_true rfl, Nat.le_of_ble_eq_true rfl⟩ (fun a9 w1 H locs h9 w => ?_)
      obtain ⟨rfl, va8, f8, h9, hT8⟩ := h9
      have w := w.jn (L1 := [wSb G.2.1 (ad 5) (va8, cp, (n7 + 1), mb1, f8)]) (L' := [wXo G.2.1 (ad 0) (xF ad) (svV sv) K, wSh G.2.1 (ad 1) S, wSh G.2.1 (ad 2) Fc, wTe G.2.1 (ad 4) C, wSb G.2.1 (ad 5) (va8, cp, (n7 + 1), mb1, f8), wAd G.2.1 (ad 6) D, wAb G.2.1 (ad 7) B, wHo G.2.1 (ad 3) cu ct hs, hsL G.2.1 hs, blk G.2.1 sv]) h9 10 [1, 2, 3, 4, 0, 5, 6, 7, 8, 9] rfl rfl rfl
      refine lv_pop F.x F.b dX6_writeLot_101 rfl ?_
      refine lv_aload_n F.x F.b dX6_writeLot_102 rfl (lv_at hl 0 rfl) ?_
      refine rgN F w cl3 2 rfl 6 (by decide) q124 rfl (v := .ref ((ad 1) 8)) rfl dX6_writeLot_103 ?_
      refine lv_iload_n F.x F.b dX6_writeLot_106 rfl (lv_at hl 1 rfl) ?_
      refine rz F w 9 (n := 16) (f := S.2 6) rfl (ib_nI hp (by omega)) dX6_writeLot_107 ?_
      rw [show (S.2 6 (Int32.toNatClampNeg (nI pp))) = S.2 6 pp from by rw [nI_clamp (by omega)]]
      rcases fg6 with z6 | z6
      · refine lv_if_eq (tgt := 121) F.x F.b dX6_writeLot_108 (by decide) (fun _ => ?_) (fun c9 => absurd z6 c9)
        refine lv_aload_n F.x F.b dX6_writeLot_121 rfl (lv_at hl 2 rfl) ?_
        refine rg F w cl6 0 rfl 0 (by decide) q301 rfl (v := .ref ((ad 1) 0)) rfl dX6_writeLot_122 ?_
        refine rgN F w cl4 1 rfl 2 (by decide) q192 rfl (v := .ref ((ad 1) 12)) rfl dX6_writeLot_125 ?_
        refine lv_iload_n F.x F.b dX6_writeLot_128 rfl (lv_at hl 3 rfl) ?_
        refine kXi F w hst (LC := [wSh G.2.1 (ad 1) S]) (LR := [wXo G.2.1 (ad 0) (xF ad) (svV sv) K, wSh G.2.1 (ad 2) Fc, wTe G.2.1 (ad 4) C, wSb G.2.1 (ad 5) (va8, cp, (n7 + 1), mb1, f8), wAd G.2.1 (ad 6) D, wAb G.2.1 (ad 7) B, wHo G.2.1 (ad 3) cu ct hs, hsL G.2.1 hs, blk G.2.1 sv]) (As := [.int x1]) (rest := []) (t_X0_placeOf F.1 hz).toX m_X0_placeOf v_X0_placeOf q1361 (ci := 4) (q0 := 13) rfl rfl rfl 10 [1, 0, 2, 3, 4, 5, 6, 7, 8, 9] rfl rfl rfl ⟨Nat.le_of_ble_eq_true rfl, Nat.le_of_ble_eq_true rfl⟩ rfl hl.1 rfl (Nat.le_of_ble_eq_true rfl) dX6_writeLot_129 ⟨Nat.le_of_ble_eq_true rfl, Nat.le_of_ble_eq_true rfl⟩ (fun _ _ _ _ _ _ hx => False.elim hx) (fun r9 w1 H locs h9 w => ?_)
        obtain ⟨hz9, h9⟩ := h9
        have w := w.jn (L1 := [wSh G.2.1 (ad 1) S]) (L' := [wXo G.2.1 (ad 0) (xF ad) (svV sv) K, wSh G.2.1 (ad 1) S, wSh G.2.1 (ad 2) Fc, wTe G.2.1 (ad 4) C, wSb G.2.1 (ad 5) (va8, cp, (n7 + 1), mb1, f8), wAd G.2.1 (ad 6) D, wAb G.2.1 (ad 7) B, wHo G.2.1 (ad 3) cu ct hs, hsL G.2.1 hs, blk G.2.1 sv]) h9 10 [1, 0, 2, 3, 4, 5, 6, 7, 8, 9] rfl rfl rfl
        rw [hz9]
        rcases hzc with zz | ⟨jj, hjj, zz⟩
        · refine lv_if_lt (tgt := 145) F.x F.b dX6_writeLot_132 (by decide) (fun _ => ?_) (fun c9 => absurd (by rw [zz]; decide) c9)
          refine lv_aload_n F.x F.b dX6_writeLot_145 rfl (lv_at hl 2 rfl) ?_
          refine rg F w cl6 0 rfl 4 (by decide) q305 rfl (v := .ref ((ad 5) 0)) rfl dX6_writeLot_146 ?_
          refine kXi F w hst (LC := [wSb G.2.1 (ad 5) (va8, cp, (n7 + 1), mb1, f8)]) (LR := [wXo G.2.1 (ad 0) (xF ad) (svV sv) K, wSh G.2.1 (ad 1) S, wSh G.2.1 (ad 2) Fc, wTe G.2.1 (ad 4) C, wAd G.2.1 (ad 6) D, wAb G.2.1 (ad 7) B, wHo G.2.1 (ad 3) cu ct hs, hsL G.2.1 hs, blk G.2.1 sv]) (As := []) (rest := []) (t_J4_length_8abf5 F.1 (o := ad 5) (va := va8) (cp := cp) (n := (n7 + 1)) (mb := mb1) (f := f8)).toX m_J4_length_8abf5 v_J4_length_8abf5 q822 (ci := 1) (q0 := 32) rfl rfl rfl 10 [4, 0, 1, 2, 3, 5, 6, 7, 8, 9] rfl rfl rfl ⟨Nat.le_of_ble_eq_true rfl, Nat.le_of_ble_eq_true rfl⟩ rfl hl.1 rfl (Nat.le_of_ble_eq_true rfl) dX6_writeLot_149 ⟨Nat.le_of_ble_eq_true rfl, Nat.le_of_ble_eq_true rfl⟩ (fun _ _ _ _ _ _ hx => False.elim hx) (fun r9 w1 H locs h9 w => ?_)
          obtain ⟨rfl, h9⟩ := h9
          have w := w.jn (L1 := [wSb G.2.1 (ad 5) (va8, cp, (n7 + 1), mb1, f8)]) (L' := [wXo G.2.1 (ad 0) (xF ad) (svV sv) K, wSh G.2.1 (ad 1) S, wSh G.2.1 (ad 2) Fc, wTe G.2.1 (ad 4) C, wSb G.2.1 (ad 5) (va8, cp, (n7 + 1), mb1, f8), wAd G.2.1 (ad 6) D, wAb G.2.1 (ad 7) B, wHo G.2.1 (ad 3) cu ct hs, hsL G.2.1 hs, blk G.2.1 sv]) h9 10 [1, 2, 3, 4, 0, 5, 6, 7, 8, 9] rfl rfl rfl
          have hL : lotTx k v1 v2 b (S.2 5 pp) (S.2 6 pp) z = _ := (show lotTx k v1 v2 b (S.2 5 pp) (S.2 6 pp) z = [] ++ [k] ++ dgN v1 ++ [42] ++ dgN v2 ++ [64] ++ dgN b ++ [35] from by simp [lotTx, z5, z6, zz])
          rw [hL] at e2 hW
          have hTn : (n7 + 1) = _ := hT8.2.1
          have hl12 := lotTx_le k v1 v2 b (S.2 5 pp) (S.2 6 pp) z
          rw [hL] at hl12
          obtain ⟨e4, e3⟩ := h.written hT8 hW (by omega)
          exact eiX F w hr hlocks rfl ⟨K, S, Fc, C, D, B, cu, ct, hs, sv, (va8, cp, (n7 + 1), mb1, f8), M', rfl, (by rw [hTn]; exact e2), e3, e4⟩ (Nat.le_of_ble_eq_true rfl) (Nat.le_of_ble_eq_true rfl) dX6_writeLot_152
        · refine lv_if_lt (tgt := 145) F.x F.b dX6_writeLot_132 (by decide) (fun c9 => absurd c9 (by rw [zz]; exact Int32.not_lt.mpr (nI_pos' (n := jj) (by omega)))) (fun _ => ?_)
          have zz : ¬ z = -1 := by rw [zz]; exact nI_nm1 (by omega)
          refine lv_aload_n F.x F.b dX6_writeLot_135 rfl (lv_at hl 2 rfl) ?_
          refine rg F w cl6 0 rfl 4 (by decide) q305 rfl (v := .ref ((ad 5) 0)) rfl dX6_writeLot_136 ?_
          refine lv_bipush (v := 63) F.x F.b dX6_writeLot_139 (by decide) ?_
          refine kVr F w (LC := [wSb G.2.1 (ad 5) (va8, cp, (n7 + 1), mb1, f8)]) (LR := [wXo G.2.1 (ad 0) (xF ad) (svV sv) K, wSh G.2.1 (ad 1) S, wSh G.2.1 (ad 2) Fc, wTe G.2.1 (ad 4) C, wAd G.2.1 (ad 6) D, wAb G.2.1 (ad 7) B, wHo G.2.1 (ad 3) cu ct hs, hsL G.2.1 hs, blk G.2.1 sv]) (As := [.int (nI 63)]) (rest := []) (t_J4_append_cf468 F.1 hSG pv hT8 (by omega : 63 < 128) (gm := 0) (gs := 0) (Or.inl ⟨by omega, rfl⟩)) m_J4_append_cf468 v_J4_append_cf468 (List.mem_of_getElem? (i := 800) (by decide +kernel)) (ci := 1) (q0 := 32) rfl rfl rfl 10 [4, 0, 1, 2, 3, 5, 6, 7, 8, 9] rfl rfl rfl ⟨Nat.le_of_ble_eq_true rfl, Nat.le_of_ble_eq_true rfl⟩ rfl hl.1 rfl (Nat.le_of_ble_eq_true rfl) dX6_writeLot_141 ⟨Nat.le_of_ble_eq_true rfl, Nat.le_of_ble_eq_true rfl⟩ (fun a9 w1 H locs h9 w => ?_)
          obtain ⟨rfl, va9, f9, h9, hT9⟩ := h9
          have w := w.jn (L1 := [wSb G.2.1 (ad 5) (va9, cp, ((n7 + 1) + 1), mb1, f9)]) (L' := [wXo G.2.1 (ad 0) (xF ad) (svV sv) K, wSh G.2.1 (ad 1) S, wSh G.2.1 (ad 2) Fc, wTe G.2.1 (ad 4) C, wSb G.2.1 (ad 5) (va9, cp, ((n7 + 1) + 1), mb1, f9), wAd G.2.1 (ad 6) D, wAb G.2.1 (ad 7) B, wHo G.2.1 (ad 3) cu ct hs, hsL G.2.1 hs, blk G.2.1 sv]) h9 10 [1, 2, 3, 4, 0, 5, 6, 7, 8, 9] rfl rfl rfl
          refine lv_pop F.x F.b dX6_writeLot_144 rfl ?_
          refine lv_aload_n F.x F.b dX6_writeLot_145 rfl (lv_at hl 2 rfl) ?_
          refine rg F w cl6 0 rfl 4 (by decide) q305 rfl (v := .ref ((ad 5) 0)) rfl dX6_writeLot_146 ?_
          refine kXi F w hst (LC := [wSb G.2.1 (ad 5) (va9, cp, ((n7 + 1) + 1), mb1, f9)]) (LR := [wXo G.2.1 (ad 0) (xF ad) (svV sv) K, wSh G.2.1 (ad 1) S, wSh G.2.1 (ad 2) Fc, wTe G.2.1 (ad 4) C, wAd G.2.1 (ad 6) D, wAb G.2.1 (ad 7) B, wHo G.2.1 (ad 3) cu ct hs, hsL G.2.1 hs, blk G.2.1 sv]) (As := []) (rest := []) (t_J4_length_8abf5 F.1 (o := ad 5) (va := va9) (cp := cp) (n := ((n7 + 1) + 1)) (mb := mb1) (f := f9)).toX m_J4_length_8abf5 v_J4_length_8abf5 q822 (ci := 1) (q0 := 32) rfl rfl rfl 10 [4, 0, 1, 2, 3, 5, 6, 7, 8, 9] rfl rfl rfl ⟨Nat.le_of_ble_eq_true rfl, Nat.le_of_ble_eq_true rfl⟩ rfl hl.1 rfl (Nat.le_of_ble_eq_true rfl) dX6_writeLot_149 ⟨Nat.le_of_ble_eq_true rfl, Nat.le_of_ble_eq_true rfl⟩ (fun _ _ _ _ _ _ hx => False.elim hx) (fun r9 w1 H locs h9 w => ?_)
          obtain ⟨rfl, h9⟩ := h9
          have w := w.jn (L1 := [wSb G.2.1 (ad 5) (va9, cp, ((n7 + 1) + 1), mb1, f9)]) (L' := [wXo G.2.1 (ad 0) (xF ad) (svV sv) K, wSh G.2.1 (ad 1) S, wSh G.2.1 (ad 2) Fc, wTe G.2.1 (ad 4) C, wSb G.2.1 (ad 5) (va9, cp, ((n7 + 1) + 1), mb1, f9), wAd G.2.1 (ad 6) D, wAb G.2.1 (ad 7) B, wHo G.2.1 (ad 3) cu ct hs, hsL G.2.1 hs, blk G.2.1 sv]) h9 10 [1, 2, 3, 4, 0, 5, 6, 7, 8, 9] rfl rfl rfl
          have hL : lotTx k v1 v2 b (S.2 5 pp) (S.2 6 pp) z = _ := (show lotTx k v1 v2 b (S.2 5 pp) (S.2 6 pp) z = [] ++ [k] ++ dgN v1 ++ [42] ++ dgN v2 ++ [64] ++ dgN b ++ [35] ++ [63] from by simp [lotTx, z5, z6, zz])
          rw [hL] at e2 hW
          have hTn : ((n7 + 1) + 1) = _ := hT9.2.1
          have hl12 := lotTx_le k v1 v2 b (S.2 5 pp) (S.2 6 pp) z
          rw [hL] at hl12
          obtain ⟨e4, e3⟩ := h.written hT9 hW (by omega)
          exact eiX F w hr hlocks rfl ⟨K, S, Fc, C, D, B, cu, ct, hs, sv, (va9, cp, ((n7 + 1) + 1), mb1, f9), M', rfl, (by rw [hTn]; exact e2), e3, e4⟩ (Nat.le_of_ble_eq_true rfl) (Nat.le_of_ble_eq_true rfl) dX6_writeLot_152
      · refine lv_if_eq (tgt := 121) F.x F.b dX6_writeLot_108 (by decide) (fun c9 => absurd c9 (by rw [z6]; decide)) (fun _ => ?_)
        refine lv_aload_n F.x F.b dX6_writeLot_111 rfl (lv_at hl 2 rfl) ?_
        refine rg F w cl6 0 rfl 4 (by decide) q305 rfl (v := .ref ((ad 5) 0)) rfl dX6_writeLot_112 ?_
        refine lv_bipush (v := 126) F.x F.b dX6_writeLot_115 (by decide) ?_
        refine kVr F w (LC := [wSb G.2.1 (ad 5) (va8, cp, (n7 + 1), mb1, f8)]) (LR := [wXo G.2.1 (ad 0) (xF ad) (svV sv) K, wSh G.2.1 (ad 1) S, wSh G.2.1 (ad 2) Fc, wTe G.2.1 (ad 4) C, wAd G.2.1 (ad 6) D, wAb G.2.1 (ad 7) B, wHo G.2.1 (ad 3) cu ct hs, hsL G.2.1 hs, blk G.2.1 sv]) (As := [.int (nI 126)]) (rest := []) (t_J4_append_cf468 F.1 hSG pv hT8 (by omega : 126 < 128) (gm := 0) (gs := 0) (Or.inl ⟨by omega, rfl⟩)) m_J4_append_cf468 v_J4_append_cf468 (List.mem_of_getElem? (i := 800) (by decide +kernel)) (ci := 1) (q0 := 32) rfl rfl rfl 10 [4, 0, 1, 2, 3, 5, 6, 7, 8, 9] rfl rfl rfl ⟨Nat.le_of_ble_eq_true rfl, Nat.le_of_ble_eq_true rfl⟩ rfl hl.1 rfl (Nat.le_of_ble_eq_true rfl) dX6_writeLot_117 ⟨Nat.le_of_ble_eq_true rfl, Nat.le_of_ble_eq_true rfl⟩ (fun a9 w1 H locs h9 w => ?_)
        obtain ⟨rfl, va9, f9, h9, hT9⟩ := h9
        have w := w.jn (L1 := [wSb G.2.1 (ad 5) (va9, cp, ((n7 + 1) + 1), mb1, f9)]) (L' := [wXo G.2.1 (ad 0) (xF ad) (svV sv) K, wSh G.2.1 (ad 1) S, wSh G.2.1 (ad 2) Fc, wTe G.2.1 (ad 4) C, wSb G.2.1 (ad 5) (va9, cp, ((n7 + 1) + 1), mb1, f9), wAd G.2.1 (ad 6) D, wAb G.2.1 (ad 7) B, wHo G.2.1 (ad 3) cu ct hs, hsL G.2.1 hs, blk G.2.1 sv]) h9 10 [1, 2, 3, 4, 0, 5, 6, 7, 8, 9] rfl rfl rfl
        refine lv_pop F.x F.b dX6_writeLot_120 rfl ?_
        refine lv_aload_n F.x F.b dX6_writeLot_121 rfl (lv_at hl 2 rfl) ?_
        refine rg F w cl6 0 rfl 0 (by decide) q301 rfl (v := .ref ((ad 1) 0)) rfl dX6_writeLot_122 ?_
        refine rgN F w cl4 1 rfl 2 (by decide) q192 rfl (v := .ref ((ad 1) 12)) rfl dX6_writeLot_125 ?_
        refine lv_iload_n F.x F.b dX6_writeLot_128 rfl (lv_at hl 3 rfl) ?_
        refine kXi F w hst (LC := [wSh G.2.1 (ad 1) S]) (LR := [wXo G.2.1 (ad 0) (xF ad) (svV sv) K, wSh G.2.1 (ad 2) Fc, wTe G.2.1 (ad 4) C, wSb G.2.1 (ad 5) (va9, cp, ((n7 + 1) + 1), mb1, f9), wAd G.2.1 (ad 6) D, wAb G.2.1 (ad 7) B, wHo G.2.1 (ad 3) cu ct hs, hsL G.2.1 hs, blk G.2.1 sv]) (As := [.int x1]) (rest := []) (t_X0_placeOf F.1 hz).toX m_X0_placeOf v_X0_placeOf q1361 (ci := 4) (q0 := 13) rfl rfl rfl 10 [1, 0, 2, 3, 4, 5, 6, 7, 8, 9] rfl rfl rfl ⟨Nat.le_of_ble_eq_true rfl, Nat.le_of_ble_eq_true rfl⟩ rfl hl.1 rfl (Nat.le_of_ble_eq_true rfl) dX6_writeLot_129 ⟨Nat.le_of_ble_eq_true rfl, Nat.le_of_ble_eq_true rfl⟩ (fun _ _ _ _ _ _ hx => False.elim hx) (fun r9 w1 H locs h9 w => ?_)
        obtain ⟨hz9, h9⟩ := h9
        have w := w.jn (L1 := [wSh G.2.1 (ad 1) S]) (L' := [wXo G.2.1 (ad 0) (xF ad) (svV sv) K, wSh G.2.1 (ad 1) S, wSh G.2.1 (ad 2) Fc, wTe G.2.1 (ad 4) C, wSb G.2.1 (ad 5) (va9, cp, ((n7 + 1) + 1), mb1, f9), wAd G.2.1 (ad 6) D, wAb G.2.1 (ad 7) B, wHo G.2.1 (ad 3) cu ct hs, hsL G.2.1 hs, blk G.2.1 sv]) h9 10 [1, 0, 2, 3, 4, 5, 6, 7, 8, 9] rfl rfl rfl
        rw [hz9]
        rcases hzc with zz | ⟨jj, hjj, zz⟩
        · refine lv_if_lt (tgt := 145) F.x F.b dX6_writeLot_132 (by decide) (fun _ => ?_) (fun c9 => absurd (by rw [zz]; decide) c9)
          refine lv_aload_n F.x F.b dX6_writeLot_145 rfl (lv_at hl 2 rfl) ?_
          refine rg F w cl6 0 rfl 4 (by decide) q305 rfl (v := .ref ((ad 5) 0)) rfl dX6_writeLot_146 ?_
          refine kXi F w hst (LC := [wSb G.2.1 (ad 5) (va9, cp, ((n7 + 1) + 1), mb1, f9)]) (LR := [wXo G.2.1 (ad 0) (xF ad) (svV sv) K, wSh G.2.1 (ad 1) S, wSh G.2.1 (ad 2) Fc, wTe G.2.1 (ad 4) C, wAd G.2.1 (ad 6) D, wAb G.2.1 (ad 7) B, wHo G.2.1 (ad 3) cu ct hs, hsL G.2.1 hs, blk G.2.1 sv]) (As := []) (rest := []) (t_J4_length_8abf5 F.1 (o := ad 5) (va := va9) (cp := cp) (n := ((n7 + 1) + 1)) (mb := mb1) (f := f9)).toX m_J4_length_8abf5 v_J4_length_8abf5 q822 (ci := 1) (q0 := 32) rfl rfl rfl 10 [4, 0, 1, 2, 3, 5, 6, 7, 8, 9] rfl rfl rfl ⟨Nat.le_of_ble_eq_true rfl, Nat.le_of_ble_eq_true rfl⟩ rfl hl.1 rfl (Nat.le_of_ble_eq_true rfl) dX6_writeLot_149 ⟨Nat.le_of_ble_eq_true rfl, Nat.le_of_ble_eq_true rfl⟩ (fun _ _ _ _ _ _ hx => False.elim hx) (fun r9 w1 H locs h9 w => ?_)
          obtain ⟨rfl, h9⟩ := h9
          have w := w.jn (L1 := [wSb G.2.1 (ad 5) (va9, cp, ((n7 + 1) + 1), mb1, f9)]) (L' := [wXo G.2.1 (ad 0) (xF ad) (svV sv) K, wSh G.2.1 (ad 1) S, wSh G.2.1 (ad 2) Fc, wTe G.2.1 (ad 4) C, wSb G.2.1 (ad 5) (va9, cp, ((n7 + 1) + 1), mb1, f9), wAd G.2.1 (ad 6) D, wAb G.2.1 (ad 7) B, wHo G.2.1 (ad 3) cu ct hs, hsL G.2.1 hs, blk G.2.1 sv]) h9 10 [1, 2, 3, 4, 0, 5, 6, 7, 8, 9] rfl rfl rfl
          have hL : lotTx k v1 v2 b (S.2 5 pp) (S.2 6 pp) z = _ := (show lotTx k v1 v2 b (S.2 5 pp) (S.2 6 pp) z = [] ++ [k] ++ dgN v1 ++ [42] ++ dgN v2 ++ [64] ++ dgN b ++ [35] ++ [126] from by simp [lotTx, z5, z6, zz])
          rw [hL] at e2 hW
          have hTn : ((n7 + 1) + 1) = _ := hT9.2.1
          have hl12 := lotTx_le k v1 v2 b (S.2 5 pp) (S.2 6 pp) z
          rw [hL] at hl12
          obtain ⟨e4, e3⟩ := h.written hT9 hW (by omega)
          exact eiX F w hr hlocks rfl ⟨K, S, Fc, C, D, B, cu, ct, hs, sv, (va9, cp, ((n7 + 1) + 1), mb1, f9), M', rfl, (by rw [hTn]; exact e2), e3, e4⟩ (Nat.le_of_ble_eq_true rfl) (Nat.le_of_ble_eq_true rfl) dX6_writeLot_152
        · refine lv_if_lt (tgt := 145) F.x F.b dX6_writeLot_132 (by decide) (fun c9 => absurd c9 (by rw [zz]; exact Int32.not_lt.mpr (nI_pos' (n := jj) (by omega)))) (fun _ => ?_)
          have zz : ¬ z = -1 := by rw [zz]; exact nI_nm1 (by omega)
          refine lv_aload_n F.x F.b dX6_writeLot_135 rfl (lv_at hl 2 rfl) ?_
          refine rg F w cl6 0 rfl 4 (by decide) q305 rfl (v := .ref ((ad 5) 0)) rfl dX6_writeLot_136 ?_
          refine lv_bipush (v := 63) F.x F.b dX6_writeLot_139 (by decide) ?_
          refine kVr F w (LC := [wSb G.2.1 (ad 5) (va9, cp, ((n7 + 1) + 1), mb1, f9)]) (LR := [wXo G.2.1 (ad 0) (xF ad) (svV sv) K, wSh G.2.1 (ad 1) S, wSh G.2.1 (ad 2) Fc, wTe G.2.1 (ad 4) C, wAd G.2.1 (ad 6) D, wAb G.2.1 (ad 7) B, wHo G.2.1 (ad 3) cu ct hs, hsL G.2.1 hs, blk G.2.1 sv]) (As := [.int (nI 63)]) (rest := []) (t_J4_append_cf468 F.1 hSG pv hT9 (by omega : 63 < 128) (gm := 0) (gs := 0) (Or.inl ⟨by omega, rfl⟩)) m_J4_append_cf468 v_J4_append_cf468 (List.mem_of_getElem? (i := 800) (by decide +kernel)) (ci := 1) (q0 := 32) rfl rfl rfl 10 [4, 0, 1, 2, 3, 5, 6, 7, 8, 9] rfl rfl rfl ⟨Nat.le_of_ble_eq_true rfl, Nat.le_of_ble_eq_true rfl⟩ rfl hl.1 rfl (Nat.le_of_ble_eq_true rfl) dX6_writeLot_141 ⟨Nat.le_of_ble_eq_true rfl, Nat.le_of_ble_eq_true rfl⟩ (fun a9 w1 H locs h9 w => ?_)
          obtain ⟨rfl, va10, f10, h9, hT10⟩ := h9
          have w := w.jn (L1 := [wSb G.2.1 (ad 5) (va10, cp, (((n7 + 1) + 1) + 1), mb1, f10)]) (L' := [wXo G.2.1 (ad 0) (xF ad) (svV sv) K, wSh G.2.1 (ad 1) S, wSh G.2.1 (ad 2) Fc, wTe G.2.1 (ad 4) C, wSb G.2.1 (ad 5) (va10, cp, (((n7 + 1) + 1) + 1), mb1, f10), wAd G.2.1 (ad 6) D, wAb G.2.1 (ad 7) B, wHo G.2.1 (ad 3) cu ct hs, hsL G.2.1 hs, blk G.2.1 sv]) h9 10 [1, 2, 3, 4, 0, 5, 6, 7, 8, 9] rfl rfl rfl
          refine lv_pop F.x F.b dX6_writeLot_144 rfl ?_
          refine lv_aload_n F.x F.b dX6_writeLot_145 rfl (lv_at hl 2 rfl) ?_
          refine rg F w cl6 0 rfl 4 (by decide) q305 rfl (v := .ref ((ad 5) 0)) rfl dX6_writeLot_146 ?_
          refine kXi F w hst (LC := [wSb G.2.1 (ad 5) (va10, cp, (((n7 + 1) + 1) + 1), mb1, f10)]) (LR := [wXo G.2.1 (ad 0) (xF ad) (svV sv) K, wSh G.2.1 (ad 1) S, wSh G.2.1 (ad 2) Fc, wTe G.2.1 (ad 4) C, wAd G.2.1 (ad 6) D, wAb G.2.1 (ad 7) B, wHo G.2.1 (ad 3) cu ct hs, hsL G.2.1 hs, blk G.2.1 sv]) (As := []) (rest := []) (t_J4_length_8abf5 F.1 (o := ad 5) (va := va10) (cp := cp) (n := (((n7 + 1) + 1) + 1)) (mb := mb1) (f := f10)).toX m_J4_length_8abf5 v_J4_length_8abf5 q822 (ci := 1) (q0 := 32) rfl rfl rfl 10 [4, 0, 1, 2, 3, 5, 6, 7, 8, 9] rfl rfl rfl ⟨Nat.le_of_ble_eq_true rfl, Nat.le_of_ble_eq_true rfl⟩ rfl hl.1 rfl (Nat.le_of_ble_eq_true rfl) dX6_writeLot_149 ⟨Nat.le_of_ble_eq_true rfl, Nat.le_of_ble_eq_true rfl⟩ (fun _ _ _ _ _ _ hx => False.elim hx) (fun r9 w1 H locs h9 w => ?_)
          obtain ⟨rfl, h9⟩ := h9
          have w := w.jn (L1 := [wSb G.2.1 (ad 5) (va10, cp, (((n7 + 1) + 1) + 1), mb1, f10)]) (L' := [wXo G.2.1 (ad 0) (xF ad) (svV sv) K, wSh G.2.1 (ad 1) S, wSh G.2.1 (ad 2) Fc, wTe G.2.1 (ad 4) C, wSb G.2.1 (ad 5) (va10, cp, (((n7 + 1) + 1) + 1), mb1, f10), wAd G.2.1 (ad 6) D, wAb G.2.1 (ad 7) B, wHo G.2.1 (ad 3) cu ct hs, hsL G.2.1 hs, blk G.2.1 sv]) h9 10 [1, 2, 3, 4, 0, 5, 6, 7, 8, 9] rfl rfl rfl
          have hL : lotTx k v1 v2 b (S.2 5 pp) (S.2 6 pp) z = _ := (show lotTx k v1 v2 b (S.2 5 pp) (S.2 6 pp) z = [] ++ [k] ++ dgN v1 ++ [42] ++ dgN v2 ++ [64] ++ dgN b ++ [35] ++ [126] ++ [63] from by simp [lotTx, z5, z6, zz])
          rw [hL] at e2 hW
          have hTn : (((n7 + 1) + 1) + 1) = _ := hT10.2.1
          have hl12 := lotTx_le k v1 v2 b (S.2 5 pp) (S.2 6 pp) z
          rw [hL] at hl12
          obtain ⟨e4, e3⟩ := h.written hT10 hW (by omega)
          exact eiX F w hr hlocks rfl ⟨K, S, Fc, C, D, B, cu, ct, hs, sv, (va10, cp, (((n7 + 1) + 1) + 1), mb1, f10), M', rfl, (by rw [hTn]; exact e2), e3, e4⟩ (Nat.le_of_ble_eq_true rfl) (Nat.le_of_ble_eq_true rfl) dX6_writeLot_152
set_option maxRecDepth 100000 in
set_option maxHeartbeats 4000000 in
theorem k_writeBays {G : cG} (g : GOK G) (gM : MG G) {ks kv : Nat → Nat} (hSG : SG G ks kv) (pv : PV G) {d1 d2 : Nat} (hD : DGs G d1 d2) {ad : Nat → Nat → Nat} {N : Nat} {K S Fc C D B : Mem} {cu ct : Nat} {hs : hS} {sv : sV} {ou : oB} {M : Mem} (h : Top N K S C cu ct hs sv ou M) : KT G ad N yX6_writeBays cX6_writeBays 2 .int [.ref ((ad 0) 0)] (fl (wTop G.2.1 ad K S Fc C D B cu ct hs sv ou)) [] (f_X7_writeBays M) := by
  obtain ⟨va, cp, n, mb, f⟩ := ou
  obtain ⟨L0, hT⟩ := OuR.tx h.2.2.2.2.2
  obtain ⟨sg, M', hsg, e2, hW⟩ := bays_both h.1
  refine CX.of g (by decide) rfl (Nat.le_of_ble_eq_true rfl) ?_
  intro p l e s m below meth c A ls hst htab F hr hlocks w hl
  generalize ([.ref ((ad 0) 0)] : List Value).toArray = args
  have hl : lv_has ls 2 [(0, .ref ((ad 0) 0))] := hl
  have w : Wd G A s.heap (fl [wXo G.2.1 (ad 0) (xF ad) (svV sv) K, wSh G.2.1 (ad 1) S, wSh G.2.1 (ad 2) Fc, wTe G.2.1 (ad 4) C, wSb G.2.1 (ad 5) (va, cp, n, mb, f), wAd G.2.1 (ad 6) D, wAb G.2.1 (ad 7) B, wHo G.2.1 (ad 3) cu ct hs, hsL G.2.1 hs, blk G.2.1 sv]) _ _ := w
  refine lv_aload_n F.x F.b dX6_writeBays_0 rfl (lv_at hl 0 rfl) ?_
  refine rg F w cl6 0 rfl 4 (by decide) q305 rfl (v := .ref ((ad 5) 0)) rfl dX6_writeBays_1 ?_
  refine lv_iconst (v := 0) F.x F.b dX6_writeBays_4 (by decide) ?_
  refine kXv F w hst (LC := [wSb G.2.1 (ad 5) (va, cp, n, mb, f)]) (LR := [wXo G.2.1 (ad 0) (xF ad) (svV sv) K, wSh G.2.1 (ad 1) S, wSh G.2.1 (ad 2) Fc, wTe G.2.1 (ad 4) C, wAd G.2.1 (ad 6) D, wAb G.2.1 (ad 7) B, wHo G.2.1 (ad 3) cu ct hs, hsL G.2.1 hs, blk G.2.1 sv]) (As := [.int 0]) (rest := []) (t_J4_setLength_d00df F.1 pv hT).toX m_J4_setLength_d00df v_J4_setLength_d00df q453 (ci := 1) (q0 := 32) rfl rfl rfl 10 [4, 0, 1, 2, 3, 5, 6, 7, 8, 9] rfl rfl rfl ⟨Nat.le_of_ble_eq_true rfl, Nat.le_of_ble_eq_true rfl⟩ rfl hl.1 rfl (Nat.le_of_ble_eq_true rfl) dX6_writeBays_5 ⟨Nat.le_of_ble_eq_true rfl, Nat.le_of_ble_eq_true rfl⟩ (fun _ _ _ _ _ _ hx => False.elim hx) (fun w1 H locs h9 w => ?_)
  obtain ⟨va1, mb1, f1, h9⟩ := h9
  have w := w.jn (L1 := [wSb G.2.1 (ad 5) (va1, cp, 0, mb1, f1)]) (L' := [wXo G.2.1 (ad 0) (xF ad) (svV sv) K, wSh G.2.1 (ad 1) S, wSh G.2.1 (ad 2) Fc, wTe G.2.1 (ad 4) C, wSb G.2.1 (ad 5) (va1, cp, 0, mb1, f1), wAd G.2.1 (ad 6) D, wAb G.2.1 (ad 7) B, wHo G.2.1 (ad 3) cu ct hs, hsL G.2.1 hs, blk G.2.1 sv]) h9 10 [1, 2, 3, 4, 0, 5, 6, 7, 8, 9] rfl rfl rfl
  have hT0 : Tx (va1, cp, 0, mb1, f1) [] := Tx.nil hT.1
  have hcp16 : 16 ≤ cp := by rcases hT.1 with e | e <;> (have e : cp = _ := e; omega)
  refine lv_iconst (v := 0) F.x F.b dX6_writeBays_8 (by decide) ?_
  refine lv_istore_n (lv' := [(1, .int 0), (0, .ref ((ad 0) 0))]) F.x F.b dX6_writeBays_9 rfl hl (by decide) rfl (fun ls hl => ?_)
  have Lp : ∀ (d x : Nat), x + d = 24 → ∀ (va cp : Nat) (mb : Int32) (f : Nat → Int32) (cells slots : Nat) (H : Heap) (locs : List Loc) (ls : Array Slot), Wd G A s.heap (fl [wXo G.2.1 (ad 0) (xF ad) (svV sv) K, wSh G.2.1 (ad 1) S, wSh G.2.1 (ad 2) Fc, wTe G.2.1 (ad 4) C, wSb G.2.1 (ad 5) (va, cp, x, mb, f), wAd G.2.1 (ad 6) D, wAb G.2.1 (ad 7) B, wHo G.2.1 (ad 3) cu ct hs, hsL G.2.1 hs, blk G.2.1 sv]) H locs → Tx (va, cp, x, mb, f) ((List.range x).map sg) → ((cp = 34 ∧ cells ≤ 1 ∧ slots ≤ 34) ∨ (cp = 16 ∧ cells = 0 ∧ slots = 0)) → lv_has ls 2 [(1, .int (nI x)), (0, .ref ((ad 0) 0))] → W p l e { frames := 40, cells := 20, slots := 200, locals := 1500 } s m args below meth c H locs cells slots (XI G A (OKr G ad N (f_X7_writeBays M)) (NOe G ad N [] (f_X7_writeBays M)) 20 200 below args s) (F0 m 10 ls []) := by
    intro d
    induction d with
    | zero =>
      intro x hx va cp mb f cells slots H locs ls w hT hcs hl
      obtain rfl : x = 24 := by omega
      refine lv_iload_n F.x F.b dX6_writeBays_10 rfl (lv_at hl 0 rfl) ?_
      refine lv_bipush (v := 24) F.x F.b dX6_writeBays_11 (by decide) ?_
      refine lv_icmp_ge (tgt := 41) F.x F.b dX6_writeBays_13 (by decide) (fun _ => ?_) (fun c9 => absurd (Int32.le_refl (24 : Int32)) c9)
      refine lv_aload_n F.x F.b dX6_writeBays_41 rfl (lv_at hl 1 rfl) ?_
      refine rg F w cl6 0 rfl 4 (by decide) q305 rfl (v := .ref ((ad 5) 0)) rfl dX6_writeBays_42 ?_
      refine kXi F w hst (LC := [wSb G.2.1 (ad 5) (va, cp, 24, mb, f)]) (LR := [wXo G.2.1 (ad 0) (xF ad) (svV sv) K, wSh G.2.1 (ad 1) S, wSh G.2.1 (ad 2) Fc, wTe G.2.1 (ad 4) C, wAd G.2.1 (ad 6) D, wAb G.2.1 (ad 7) B, wHo G.2.1 (ad 3) cu ct hs, hsL G.2.1 hs, blk G.2.1 sv]) (As := []) (rest := []) (t_J4_length_8abf5 F.1 (o := ad 5) (va := va) (cp := cp) (n := 24) (mb := mb) (f := f)).toX m_J4_length_8abf5 v_J4_length_8abf5 q822 (ci := 1) (q0 := 32) rfl rfl rfl 10 [4, 0, 1, 2, 3, 5, 6, 7, 8, 9] rfl rfl rfl ⟨Nat.le_of_ble_eq_true rfl, Nat.le_of_ble_eq_true rfl⟩ rfl hl.1 rfl (Nat.le_of_ble_eq_true rfl) dX6_writeBays_45 ⟨(by show cells + 0 ≤ 20; omega), (by show slots + 0 ≤ 200; omega)⟩ (fun _ _ _ _ _ _ hx => False.elim hx) (fun r9 w1 H locs h9 w => ?_)
      obtain ⟨rfl, h9⟩ := h9
      have w := w.jn (L1 := [wSb G.2.1 (ad 5) (va, cp, 24, mb, f)]) (L' := [wXo G.2.1 (ad 0) (xF ad) (svV sv) K, wSh G.2.1 (ad 1) S, wSh G.2.1 (ad 2) Fc, wTe G.2.1 (ad 4) C, wSb G.2.1 (ad 5) (va, cp, 24, mb, f), wAd G.2.1 (ad 6) D, wAb G.2.1 (ad 7) B, wHo G.2.1 (ad 3) cu ct hs, hsL G.2.1 hs, blk G.2.1 sv]) h9 10 [1, 2, 3, 4, 0, 5, 6, 7, 8, 9] rfl rfl rfl
      obtain ⟨e4, e3⟩ := h.written hT hW (by simp)
      exact eiX F w hr hlocks rfl ⟨K, S, Fc, C, D, B, cu, ct, hs, sv, (va, cp, 24, mb, f), M', rfl, e2, e3, e4⟩ (by omega) (by omega) dX6_writeBays_48
    | succ d ih =>
      intro x hx va cp mb f cells slots H locs ls w hT hcs hl
      obtain ⟨sg1, sg2⟩ := hsg x (by omega)
      obtain ⟨gm, gs, mm, hq, hi, hc1⟩ : ∃ gm gs mm, ((x + 1 ≤ cp ∧ cp = mm) ∨ (cp = 16 ∧ x = 16 ∧ 1 ≤ gm ∧ 34 ≤ gs ∧ 34 = mm)) ∧ ((mm = 34 ∧ cells + 0 + gm ≤ 1 ∧ slots + 0 + gs ≤ 34) ∨ (mm = 16 ∧ cells + 0 + gm = 0 ∧ slots + 0 + gs = 0)) ∧ cells + 0 + gm ≤ 20 ∧ slots + 0 + gs ≤ 200 := by
        have hxc : x ≤ cp := by have e1 : x = ((List.range x).map sg).length := hT.2.1; have e2 := hT.2.2.1; have e2 : ((List.range x).map sg).length ≤ cp := e2; omega
        rcases hcs with ⟨a, b, c⟩ | ⟨a, b, c⟩
        · exact ⟨0, 0, 34, Or.inl ⟨by omega, a⟩, Or.inl ⟨rfl, by omega, by omega⟩, by omega, by omega⟩
        · rcases Nat.lt_or_ge x 16 with q | q
          · exact ⟨0, 0, 16, Or.inl ⟨by omega, a⟩, Or.inr ⟨rfl, by omega, by omega⟩, by omega, by omega⟩
          · exact ⟨1, 34, 34, Or.inr ⟨a, by omega, by omega, by omega, rfl⟩, Or.inl ⟨rfl, by omega, by omega⟩, by omega, by omega⟩
      refine lv_iload_n F.x F.b dX6_writeBays_10 rfl (lv_at hl 0 rfl) ?_
      refine lv_bipush (v := 24) F.x F.b dX6_writeBays_11 (by decide) ?_
      refine lv_icmp_ge (tgt := 41) F.x F.b dX6_writeBays_13 (by decide) (fun c9 => absurd c9 (nI_ge (a := x) (b := 24) (by omega) (by omega))) (fun _ => ?_)
      refine lv_aload_n F.x F.b dX6_writeBays_16 rfl (lv_at hl 1 rfl) ?_
      refine rg F w cl6 0 rfl 4 (by decide) q305 rfl (v := .ref ((ad 5) 0)) rfl dX6_writeBays_17 ?_
      refine lv_aload_n F.x F.b dX6_writeBays_20 rfl (lv_at hl 1 rfl) ?_
      refine rg F w cl6 0 rfl 0 (by decide) q301 rfl (v := .ref ((ad 1) 0)) rfl dX6_writeBays_21 ?_
      refine rgN F w cl4 1 rfl 0 (by decide) q188 rfl (v := .ref ((ad 1) 1)) rfl dX6_writeBays_24 ?_
      refine lv_iload_n F.x F.b dX6_writeBays_27 rfl (lv_at hl 0 rfl) ?_
      refine kXi F w hst (LC := [wSh G.2.1 (ad 1) S]) (LR := [wXo G.2.1 (ad 0) (xF ad) (svV sv) K, wSh G.2.1 (ad 2) Fc, wTe G.2.1 (ad 4) C, wSb G.2.1 (ad 5) (va, cp, x, mb, f), wAd G.2.1 (ad 6) D, wAb G.2.1 (ad 7) B, wHo G.2.1 (ad 3) cu ct hs, hsL G.2.1 hs, blk G.2.1 sv]) (As := [.int (nI x)]) (rest := [.ref ((ad 5) 0)]) (t_X3_signOfBay F.1 sg2).toX m_X3_signOfBay v_X3_signOfBay q796 (ci := 7) (q0 := 2) rfl rfl rfl 10 [1, 0, 2, 3, 4, 5, 6, 7, 8, 9] rfl rfl rfl ⟨Nat.le_of_ble_eq_true rfl, Nat.le_of_ble_eq_true rfl⟩ rfl hl.1 rfl (Nat.le_of_ble_eq_true rfl) dX6_writeBays_28 ⟨(by show cells + 0 ≤ 20; omega), (by show slots + 0 ≤ 200; omega)⟩ (fun _ _ _ _ _ _ hx => False.elim hx) (fun r9 w1 H locs h9 w => ?_)
      obtain ⟨rfl, h9⟩ := h9
      have w := w.jn (L1 := [wSh G.2.1 (ad 1) S]) (L' := [wXo G.2.1 (ad 0) (xF ad) (svV sv) K, wSh G.2.1 (ad 1) S, wSh G.2.1 (ad 2) Fc, wTe G.2.1 (ad 4) C, wSb G.2.1 (ad 5) (va, cp, x, mb, f), wAd G.2.1 (ad 6) D, wAb G.2.1 (ad 7) B, wHo G.2.1 (ad 3) cu ct hs, hsL G.2.1 hs, blk G.2.1 sv]) h9 10 [1, 0, 2, 3, 4, 5, 6, 7, 8, 9] rfl rfl rfl
      refine kVr F w (LC := [wSb G.2.1 (ad 5) (va, cp, x, mb, f)]) (LR := [wXo G.2.1 (ad 0) (xF ad) (svV sv) K, wSh G.2.1 (ad 1) S, wSh G.2.1 (ad 2) Fc, wTe G.2.1 (ad 4) C, wAd G.2.1 (ad 6) D, wAb G.2.1 (ad 7) B, wHo G.2.1 (ad 3) cu ct hs, hsL G.2.1 hs, blk G.2.1 sv]) (As := [.int (nI (sg x))]) (rest := []) (t_J4_append_cf468 F.1 hSG pv hT sg1 hq) m_J4_append_cf468 v_J4_append_cf468 (List.mem_of_getElem? (i := 800) (by decide +kernel)) (ci := 1) (q0 := 32) rfl rfl rfl 10 [4, 0, 1, 2, 3, 5, 6, 7, 8, 9] rfl rfl rfl ⟨Nat.le_of_ble_eq_true rfl, Nat.le_of_ble_eq_true rfl⟩ rfl hl.1 rfl (Nat.le_of_ble_eq_true rfl) dX6_writeBays_31 hc1 (fun a9 w1 H locs h9 w => ?_)
      obtain ⟨rfl, va2, f2, h9, hT2⟩ := h9
      have w := w.jn (L1 := [wSb G.2.1 (ad 5) (va2, mm, (x + 1), mb, f2)]) (L' := [wXo G.2.1 (ad 0) (xF ad) (svV sv) K, wSh G.2.1 (ad 1) S, wSh G.2.1 (ad 2) Fc, wTe G.2.1 (ad 4) C, wSb G.2.1 (ad 5) (va2, mm, (x + 1), mb, f2), wAd G.2.1 (ad 6) D, wAb G.2.1 (ad 7) B, wHo G.2.1 (ad 3) cu ct hs, hsL G.2.1 hs, blk G.2.1 sv]) h9 10 [1, 2, 3, 4, 0, 5, 6, 7, 8, 9] rfl rfl rfl
      refine lv_pop F.x F.b dX6_writeBays_34 rfl ?_
      refine lv_iinc (v := (nI (x + 1))) (lv' := [(1, .int (nI (x + 1))), (0, .ref ((ad 0) 0))]) F.x F.b dX6_writeBays_35 hl (k := 0) rfl (nI_1 x) (by decide) rfl (fun ls hl => ?_)
      refine lv_goto (tgt := 10) F.x F.b dX6_writeBays_38 (by decide) ?_
      exact ih (x + 1) (by omega) va2 mm mb f2 _ _ H locs ls w (by rw [List.range_succ, List.map_append]; exact hT2) hi hl
  exact Lp 24 0 rfl va1 cp mb1 f1 _ _ _ _ _ w hT0 (by rcases hT.1 with e | e; exact Or.inr ⟨e, rfl, rfl⟩; exact Or.inl ⟨e, by decide, by decide⟩) hl
set_option maxRecDepth 100000 in
set_option maxHeartbeats 4000000 in
theorem k_outputCharacter {G : cG} (g : GOK G) (gM : MG G) {ks kv : Nat → Nat} (hSG : SG G ks kv) (pv : PV G) {d1 d2 : Nat} (hD : DGs G d1 d2) {ad : Nat → Nat → Nat} {N : Nat} {K S Fc C D B : Mem} {cu ct : Nat} {hs : hS} {sv : sV} {ou : oB} {M : Mem} {x1 : Int32} (h : Top N K S C cu ct hs sv ou M) : KT G ad N yX6_outputCharacter cX6_outputCharacter 2 .char [.ref ((ad 0) 0), .int x1] (fl (wTop G.2.1 ad K S Fc C D B cu ct hs sv ou)) [(eIOB, 1)] (f_X7_outputCharacter M x1) := by
  obtain ⟨va, cp, n, mb, f⟩ := ou
  rcases out_both h x1 with ⟨hi, b9, M', e2, e3, e4⟩ | ⟨i, ch, hi, rfl, hch, hfi, M', e2, e3, e4⟩
  · have hnc : n ≤ cp := h.2.2.2.2.2.2.1
    have hc35 : cp < 35 := by rcases h.2.2.2.2.2.1 with e | e <;> (have e : cp = _ := e; omega)
    have hi : x1 < 0 ∨ nI n ≤ x1 := hi
    refine CX.of g (by decide) rfl (Nat.le_of_ble_eq_true rfl) ?_
    intro p l e s m below meth c A ls hst htab F hr hlocks w hl
    generalize ([.ref ((ad 0) 0), .int x1] : List Value).toArray = args
    have hl : lv_has ls 2 [(0, .ref ((ad 0) 0)), (1, .int x1)] := hl
    have w : Wd G A s.heap (fl [wXo G.2.1 (ad 0) (xF ad) (svV sv) K, wSh G.2.1 (ad 1) S, wSh G.2.1 (ad 2) Fc, wTe G.2.1 (ad 4) C, wSb G.2.1 (ad 5) (va, cp, n, mb, f), wAd G.2.1 (ad 6) D, wAb G.2.1 (ad 7) B, wHo G.2.1 (ad 3) cu ct hs, hsL G.2.1 hs, blk G.2.1 sv]) _ _ := w
    refine lv_iload_n F.x F.b dX6_outputCharacter_0 rfl (lv_at hl 1 rfl) ?_
    refine lv_aload_n F.x F.b dX6_outputCharacter_1 rfl (lv_at hl 0 rfl) ?_
    refine rg F w cl6 0 rfl 4 (by decide) q305 rfl (v := .ref ((ad 5) 0)) rfl dX6_outputCharacter_2 ?_
    refine kXi F w hst (LC := [wSb G.2.1 (ad 5) (va, cp, n, mb, f)]) (LR := [wXo G.2.1 (ad 0) (xF ad) (svV sv) K, wSh G.2.1 (ad 1) S, wSh G.2.1 (ad 2) Fc, wTe G.2.1 (ad 4) C, wAd G.2.1 (ad 6) D, wAb G.2.1 (ad 7) B, wHo G.2.1 (ad 3) cu ct hs, hsL G.2.1 hs, blk G.2.1 sv]) (As := []) (rest := [.int x1]) (t_J4_length_8abf5 F.1 (o := ad 5) (va := va) (cp := cp) (n := n) (mb := mb) (f := f)).toX m_J4_length_8abf5 v_J4_length_8abf5 q822 (ci := 1) (q0 := 32) rfl rfl rfl 10 [4, 0, 1, 2, 3, 5, 6, 7, 8, 9] rfl rfl rfl ⟨Nat.le_of_ble_eq_true rfl, Nat.le_of_ble_eq_true rfl⟩ rfl hl.1 rfl (Nat.le_of_ble_eq_true rfl) dX6_outputCharacter_5 ⟨Nat.le_of_ble_eq_true rfl, Nat.le_of_ble_eq_true rfl⟩ (fun _ _ _ _ _ _ hx => False.elim hx) (fun r9 w1 H locs h9 w => ?_)
    obtain ⟨rfl, h9⟩ := h9
    have w := w.jn (L1 := [wSb G.2.1 (ad 5) (va, cp, n, mb, f)]) (L' := [wXo G.2.1 (ad 0) (xF ad) (svV sv) K, wSh G.2.1 (ad 1) S, wSh G.2.1 (ad 2) Fc, wTe G.2.1 (ad 4) C, wSb G.2.1 (ad 5) (va, cp, n, mb, f), wAd G.2.1 (ad 6) D, wAb G.2.1 (ad 7) B, wHo G.2.1 (ad 3) cu ct hs, hsL G.2.1 hs, blk G.2.1 sv]) h9 10 [1, 2, 3, 4, 0, 5, 6, 7, 8, 9] rfl rfl rfl
    refine kXSv F w hst (As := [.int x1, .int (nI n)]) (rest := []) (t_X6_checkIndex_no F.1 gM hi) m_X6_checkIndex v_X6_checkIndex q1037 ⟨Nat.le_of_ble_eq_true rfl, Nat.le_of_ble_eq_true rfl⟩ rfl hl.1 rfl (Nat.le_of_ble_eq_true rfl) dX6_outputCharacter_8 ⟨Nat.le_of_ble_eq_true rfl, Nat.le_of_ble_eq_true rfl⟩ (fun E w1 ce q H locs hx w hce hcv hcl => by obtain ⟨rfl, rfl⟩ := hx; exact exX w htab hlocks hce hcv hcl ⟨K, S, Fc, C, D, B, cu, ct, hs, sv, (va, cp, n, mb, f), M', b9, 1, rfl, e2, e3, List.mem_cons_self, h.ask e4⟩ (Nat.le_of_ble_eq_true rfl) (Nat.le_of_ble_eq_true rfl)) (fun w1 H locs h9 w => ?_)
    exact False.elim h9
  · have hnc : n ≤ cp := h.2.2.2.2.2.2.1
    have hc35 : cp < 35 := by rcases h.2.2.2.2.2.1 with e | e <;> (have e : cp = _ := e; omega)
    have hi : i < n := hi
    have hfi : f i = nI ch := hfi
    refine CX.of g (by decide) rfl (Nat.le_of_ble_eq_true rfl) ?_
    intro p l e s m below meth c A ls hst htab F hr hlocks w hl
    generalize ([.ref ((ad 0) 0), .int (nI i)] : List Value).toArray = args
    have hl : lv_has ls 2 [(0, .ref ((ad 0) 0)), (1, .int (nI i))] := hl
    have w : Wd G A s.heap (fl [wXo G.2.1 (ad 0) (xF ad) (svV sv) K, wSh G.2.1 (ad 1) S, wSh G.2.1 (ad 2) Fc, wTe G.2.1 (ad 4) C, wSb G.2.1 (ad 5) (va, cp, n, mb, f), wAd G.2.1 (ad 6) D, wAb G.2.1 (ad 7) B, wHo G.2.1 (ad 3) cu ct hs, hsL G.2.1 hs, blk G.2.1 sv]) _ _ := w
    refine lv_iload_n F.x F.b dX6_outputCharacter_0 rfl (lv_at hl 1 rfl) ?_
    refine lv_aload_n F.x F.b dX6_outputCharacter_1 rfl (lv_at hl 0 rfl) ?_
    refine rg F w cl6 0 rfl 4 (by decide) q305 rfl (v := .ref ((ad 5) 0)) rfl dX6_outputCharacter_2 ?_
    refine kXi F w hst (LC := [wSb G.2.1 (ad 5) (va, cp, n, mb, f)]) (LR := [wXo G.2.1 (ad 0) (xF ad) (svV sv) K, wSh G.2.1 (ad 1) S, wSh G.2.1 (ad 2) Fc, wTe G.2.1 (ad 4) C, wAd G.2.1 (ad 6) D, wAb G.2.1 (ad 7) B, wHo G.2.1 (ad 3) cu ct hs, hsL G.2.1 hs, blk G.2.1 sv]) (As := []) (rest := [.int (nI i)]) (t_J4_length_8abf5 F.1 (o := ad 5) (va := va) (cp := cp) (n := n) (mb := mb) (f := f)).toX m_J4_length_8abf5 v_J4_length_8abf5 q822 (ci := 1) (q0 := 32) rfl rfl rfl 10 [4, 0, 1, 2, 3, 5, 6, 7, 8, 9] rfl rfl rfl ⟨Nat.le_of_ble_eq_true rfl, Nat.le_of_ble_eq_true rfl⟩ rfl hl.1 rfl (Nat.le_of_ble_eq_true rfl) dX6_outputCharacter_5 ⟨Nat.le_of_ble_eq_true rfl, Nat.le_of_ble_eq_true rfl⟩ (fun _ _ _ _ _ _ hx => False.elim hx) (fun r9 w1 H locs h9 w => ?_)
    obtain ⟨rfl, h9⟩ := h9
    have w := w.jn (L1 := [wSb G.2.1 (ad 5) (va, cp, n, mb, f)]) (L' := [wXo G.2.1 (ad 0) (xF ad) (svV sv) K, wSh G.2.1 (ad 1) S, wSh G.2.1 (ad 2) Fc, wTe G.2.1 (ad 4) C, wSb G.2.1 (ad 5) (va, cp, n, mb, f), wAd G.2.1 (ad 6) D, wAb G.2.1 (ad 7) B, wHo G.2.1 (ad 3) cu ct hs, hsL G.2.1 hs, blk G.2.1 sv]) h9 10 [1, 2, 3, 4, 0, 5, 6, 7, 8, 9] rfl rfl rfl
    refine kXSv F w hst (As := [.int (nI i), .int (nI n)]) (rest := []) (t_X6_checkIndex_ok F.1 (fun q => q.elim (nI_pos (n := i) (by omega)) (nI_ge hi (by omega)))) m_X6_checkIndex v_X6_checkIndex q1037 ⟨Nat.le_of_ble_eq_true rfl, Nat.le_of_ble_eq_true rfl⟩ rfl hl.1 rfl (Nat.le_of_ble_eq_true rfl) dX6_outputCharacter_8 ⟨Nat.le_of_ble_eq_true rfl, Nat.le_of_ble_eq_true rfl⟩ (fun _ _ _ _ _ _ hx => False.elim hx) (fun w1 H locs h9 w => ?_)
    obtain rfl := h9
    have w : Wd G A s.heap (fl [wXo G.2.1 (ad 0) (xF ad) (svV sv) K, wSh G.2.1 (ad 1) S, wSh G.2.1 (ad 2) Fc, wTe G.2.1 (ad 4) C, wSb G.2.1 (ad 5) (va, cp, n, mb, f), wAd G.2.1 (ad 6) D, wAb G.2.1 (ad 7) B, wHo G.2.1 (ad 3) cu ct hs, hsL G.2.1 hs, blk G.2.1 sv]) _ _ := w
    refine lv_aload_n F.x F.b dX6_outputCharacter_11 rfl (lv_at hl 0 rfl) ?_
    refine rg F w cl6 0 rfl 4 (by decide) q305 rfl (v := .ref ((ad 5) 0)) rfl dX6_outputCharacter_12 ?_
    refine lv_iload_n F.x F.b dX6_outputCharacter_15 rfl (lv_at hl 1 rfl) ?_
    refine kXi F w hst (LC := [wSb G.2.1 (ad 5) (va, cp, n, mb, f)]) (LR := [wXo G.2.1 (ad 0) (xF ad) (svV sv) K, wSh G.2.1 (ad 1) S, wSh G.2.1 (ad 2) Fc, wTe G.2.1 (ad 4) C, wAd G.2.1 (ad 6) D, wAb G.2.1 (ad 7) B, wHo G.2.1 (ad 3) cu ct hs, hsL G.2.1 hs, blk G.2.1 sv]) (As := [.int (nI i)]) (rest := []) (t_J4_charAt_5068e F.1 (o := ad 5) (va := va) (cp := cp) (n := n) (mb := mb) (f := f) hSG hi hnc hc35 hch hfi).toX m_J4_charAt_5068e v_J4_charAt_5068e q1369 (ci := 1) (q0 := 32) rfl rfl rfl 10 [4, 0, 1, 2, 3, 5, 6, 7, 8, 9] rfl rfl rfl ⟨Nat.le_of_ble_eq_true rfl, Nat.le_of_ble_eq_true rfl⟩ rfl hl.1 rfl (Nat.le_of_ble_eq_true rfl) dX6_outputCharacter_16 ⟨Nat.le_of_ble_eq_true rfl, Nat.le_of_ble_eq_true rfl⟩ (fun _ _ _ _ _ _ hx => False.elim hx) (fun r9 w1 H locs h9 w => ?_)
    obtain ⟨rfl, h9⟩ := h9
    have w := w.jn (L1 := [wSb G.2.1 (ad 5) (va, cp, n, mb, f)]) (L' := [wXo G.2.1 (ad 0) (xF ad) (svV sv) K, wSh G.2.1 (ad 1) S, wSh G.2.1 (ad 2) Fc, wTe G.2.1 (ad 4) C, wSb G.2.1 (ad 5) (va, cp, n, mb, f), wAd G.2.1 (ad 6) D, wAb G.2.1 (ad 7) B, wHo G.2.1 (ad 3) cu ct hs, hsL G.2.1 hs, blk G.2.1 sv]) h9 10 [1, 2, 3, 4, 0, 5, 6, 7, 8, 9] rfl rfl rfl
    exact eiX F w hr hlocks (ch_nar ch hch).2.2.2.2 ⟨K, S, Fc, C, D, B, cu, ct, hs, sv, (va, cp, n, mb, f), M', rfl, e2, e3, h.ask e4⟩ (Nat.le_of_ble_eq_true rfl) (Nat.le_of_ble_eq_true rfl) dX6_outputCharacter_19

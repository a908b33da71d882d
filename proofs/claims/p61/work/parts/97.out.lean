/-! printed by wip/p61/tools/gen97.py: writeLot, outputCharacter, exact -/
theorem q69 : Cond.fieldLinkNest RX6 98 "CustomsShed$Lots" "kinds" "[C" "CustomsShed" ∈ lw_tbl := List.mem_of_getElem? (i := 69) (by decide +kernel)
theorem q264 : Cond.fieldLink RX6 36 "CustomsShed" "output" "Ljava/lang/StringBuilder;" ∈ lw_tbl := List.mem_of_getElem? (i := 264) (by decide +kernel)
theorem q1183 : Cond.methodLink RX6 262 yJ4_setLength_d00df ∈ lw_tbl := List.mem_of_getElem? (i := 1183) (by decide +kernel)
theorem q1249 : Cond.methodLink RX6 272 yX0_placeOf ∈ lw_tbl := List.mem_of_getElem? (i := 1249) (by decide +kernel)
theorem q1250 : Cond.methodLink RX6 275 yJ4_length_8abf5 ∈ lw_tbl := List.mem_of_getElem? (i := 1250) (by decide +kernel)
theorem q1258 : Cond.methodLink RX6 281 yJ4_charAt_5068e ∈ lw_tbl := List.mem_of_getElem? (i := 1258) (by decide +kernel)
theorem m_J4_setLength_d00df : YM yJ4_setLength_d00df cJ4_setLength_d00df 2 (none) 1 := ⟨⟨List.mem_of_getElem? (i := 1186) (by decide +kernel), by decide +kernel⟩, List.mem_of_getElem? (i := 23) (by decide +kernel), ⟨by decide, by decide⟩, by decide +kernel⟩
theorem v_J4_setLength_d00df : YV yJ4_setLength_d00df := ⟨(List.mem_of_getElem? (i := 1184) (by decide +kernel)), List.mem_of_getElem? (i := 1185) (by decide +kernel)⟩
theorem m_J4_append_cf468 : YM yJ4_append_cf468 cJ4_append_cf468 2 (some (.object "java/lang/StringBuilder")) 1 := ⟨⟨List.mem_of_getElem? (i := 1238) (by decide +kernel), by decide +kernel⟩, List.mem_of_getElem? (i := 23) (by decide +kernel), ⟨by decide, by decide⟩, by decide +kernel⟩
theorem v_J4_append_cf468 : YV yJ4_append_cf468 := ⟨(List.mem_of_getElem? (i := 1236) (by decide +kernel)), List.mem_of_getElem? (i := 1237) (by decide +kernel)⟩
theorem m_J4_append_bf812 : YM yJ4_append_bf812 cJ4_append_bf812 2 (some (.object "java/lang/StringBuilder")) 1 := ⟨⟨List.mem_of_getElem? (i := 914) (by decide +kernel), by decide +kernel⟩, List.mem_of_getElem? (i := 23) (by decide +kernel), ⟨by decide, by decide⟩, by decide +kernel⟩
theorem v_J4_append_bf812 : YV yJ4_append_bf812 := ⟨(List.mem_of_getElem? (i := 912) (by decide +kernel)), List.mem_of_getElem? (i := 913) (by decide +kernel)⟩
theorem m_J4_length_8abf5 : YM yJ4_length_8abf5 cJ4_length_8abf5 1 (some (.int)) 0 := ⟨⟨List.mem_of_getElem? (i := 959) (by decide +kernel), by decide +kernel⟩, List.mem_of_getElem? (i := 23) (by decide +kernel), ⟨by decide, by decide⟩, by decide +kernel⟩
theorem v_J4_length_8abf5 : YV yJ4_length_8abf5 := ⟨(List.mem_of_getElem? (i := 958) (by decide +kernel)), List.mem_of_getElem? (i := 1522) (by decide +kernel)⟩
theorem m_J4_charAt_5068e : YM yJ4_charAt_5068e cJ4_charAt_5068e 2 (some (.char)) 1 := ⟨⟨List.mem_of_getElem? (i := 1261) (by decide +kernel), by decide +kernel⟩, List.mem_of_getElem? (i := 23) (by decide +kernel), ⟨by decide, by decide⟩, by decide +kernel⟩
theorem v_J4_charAt_5068e : YV yJ4_charAt_5068e := ⟨(List.mem_of_getElem? (i := 1259) (by decide +kernel)), List.mem_of_getElem? (i := 1260) (by decide +kernel)⟩
set_option maxRecDepth 100000 in
set_option maxHeartbeats 4000000 in
theorem k_writeLot_ok {G : cG} (g : GOK G) {ks kv : Nat → Nat} (hSG : SG G ks kv) (pv : PV G) {d1 d2 : Nat} (hD : DGs G d1 d2) {ad : Nat → Nat → Nat} {svx : Value} {K S : Mem} {x1 : Int32} {pp k v1 v2 b : Nat} {z : Int32} {ou : oB} {L0 : List Nat} (hP : LotP S x1 pp k v1 v2 b z) (hT : Tx ou L0) : CX G yX6_writeLot cX6_writeLot 4 .int 6 148 0 0 [.ref ((ad 0) 0), .int x1] (fl [wXo G.2.1 (ad 0) (xF ad) svx K, wSh G.2.1 (ad 1) S, wSb G.2.1 (ad 5) ou]) (fun r9 w1 => ∃ ou9 : oB, r9 = nI (lotTx k v1 v2 b (S.2 5 pp) (S.2 6 pp) z).length ∧ Tx ou9 (lotTx k v1 v2 b (S.2 5 pp) (S.2 6 pp) z) ∧ w1 = fl [wXo G.2.1 (ad 0) (xF ad) svx K, wSh G.2.1 (ad 1) S, wSb G.2.1 (ad 5) ou9]) (fun _ _ => False) := by
  obtain ⟨va, cp, n, mb, f⟩ := ou
  refine CX.of g (by decide) rfl (Nat.le_of_ble_eq_true rfl) ?_
  intro p l e s m below meth c A ls hst htab F hr hlocks w hl
  generalize ([.ref ((ad 0) 0), .int x1] : List Value).toArray = args
  have hl : lv_has ls 4 [(0, .ref ((ad 0) 0)), (1, .int x1)] := hl
  have w : Wd G A s.heap (fl [wXo G.2.1 (ad 0) (xF ad) svx K, wSh G.2.1 (ad 1) S, wSb G.2.1 (ad 5) (va, cp, n, mb, f)]) _ _ := w
  obtain ⟨hp, hq, ⟨ek, hk⟩, ⟨ev1, hv1⟩, ⟨ev2, hv2⟩, ⟨eb, hb⟩, fg5, fg6, hz, hzc⟩ := hP
  refine lv_aload_n F.x F.b dX6_writeLot_0 rfl (lv_at hl 0 rfl) ?_
  refine lv_iload_n F.x F.b dX6_writeLot_1 rfl (lv_at hl 1 rfl) ?_
  refine kXi F w hst (LC := [wXo G.2.1 (ad 0) (xF ad) svx K, wSh G.2.1 (ad 1) S]) (LR := [wSb G.2.1 (ad 5) (va, cp, n, mb, f)]) (As := [.int x1]) (rest := []) (t_X6_slotOf_ok F.1 hq hp) m_X6_slotOf v_X6_slotOf q479 (ci := 10) (q0 := 0) rfl rfl rfl 3 [0, 1, 2] rfl rfl rfl ⟨Nat.le_of_ble_eq_true rfl, Nat.le_of_ble_eq_true rfl⟩ rfl hl.1 rfl (Nat.le_of_ble_eq_true rfl) dX6_writeLot_2 ⟨Nat.le_of_ble_eq_true rfl, Nat.le_of_ble_eq_true rfl⟩ (fun _ _ _ _ _ _ hx => False.elim hx) (fun r9 w1 H locs h9 w => ?_)
  obtain ⟨rfl, h9⟩ := h9
  have w := w.jn (L1 := [wXo G.2.1 (ad 0) (xF ad) svx K, wSh G.2.1 (ad 1) S]) (L' := [wXo G.2.1 (ad 0) (xF ad) svx K, wSh G.2.1 (ad 1) S, wSb G.2.1 (ad 5) (va, cp, n, mb, f)]) h9 3 [0, 1, 2] rfl rfl rfl
  refine lv_istore_n (lv' := [(2, .int (nI pp)), (0, .ref ((ad 0) 0)), (1, .int x1)]) F.x F.b dX6_writeLot_5 rfl hl (by decide) rfl (fun ls hl => ?_)
  refine lv_aload_n F.x F.b dX6_writeLot_6 rfl (lv_at hl 1 rfl) ?_
  refine rg F w cl6 0 rfl 0 (by decide) q260 rfl (v := .ref ((ad 1) 0)) rfl dX6_writeLot_7 ?_
  refine rgN F w cl4 1 rfl 0 (by decide) q147 rfl (v := .ref ((ad 1) 1)) rfl dX6_writeLot_10 ?_
  refine lv_astore_n (lv' := [(3, .ref ((ad 1) 1)), (2, .int (nI pp)), (0, .ref ((ad 0) 0)), (1, .int x1)]) F.x F.b dX6_writeLot_13 rfl hl (by decide) rfl (fun ls hl => ?_)
  refine lv_aload_n F.x F.b dX6_writeLot_14 rfl (lv_at hl 2 rfl) ?_
  refine rg F w cl6 0 rfl 4 (by decide) q264 rfl (v := .ref ((ad 5) 0)) rfl dX6_writeLot_15 ?_
  refine lv_iconst (v := 0) F.x F.b dX6_writeLot_18 (by decide) ?_
  refine kXv F w hst (LC := [wSb G.2.1 (ad 5) (va, cp, n, mb, f)]) (LR := [wXo G.2.1 (ad 0) (xF ad) svx K, wSh G.2.1 (ad 1) S]) (As := [.int 0]) (rest := []) (t_J4_setLength_d00df F.1 pv hT).toX m_J4_setLength_d00df v_J4_setLength_d00df q1183 (ci := 1) (q0 := 15) rfl rfl rfl 3 [2, 0, 1] rfl rfl rfl ⟨Nat.le_of_ble_eq_true rfl, Nat.le_of_ble_eq_true rfl⟩ rfl hl.1 rfl (Nat.le_of_ble_eq_true rfl) dX6_writeLot_19 ⟨Nat.le_of_ble_eq_true rfl, Nat.le_of_ble_eq_true rfl⟩ (fun _ _ _ _ _ _ hx => False.elim hx) (fun w1 H locs h9 w => ?_)
  obtain ⟨va1, mb1, f1, h9⟩ := h9
  have w := w.jn (L1 := [wSb G.2.1 (ad 5) (va1, cp, 0, mb1, f1)]) (L' := [wXo G.2.1 (ad 0) (xF ad) svx K, wSh G.2.1 (ad 1) S, wSb G.2.1 (ad 5) (va1, cp, 0, mb1, f1)]) h9 3 [1, 2, 0] rfl rfl rfl
  have hT0 : Tx (va1, cp, 0, mb1, f1) [] := Tx.nil hT.1
  have hcp16 : 16 ≤ cp := by rcases hT.1 with e | e <;> (have e : cp = _ := e; omega)
  refine lv_aload_n F.x F.b dX6_writeLot_22 rfl (lv_at hl 2 rfl) ?_
  refine rg F w cl6 0 rfl 4 (by decide) q264 rfl (v := .ref ((ad 5) 0)) rfl dX6_writeLot_23 ?_
  refine lv_aload_n F.x F.b dX6_writeLot_26 rfl (lv_at hl 0 rfl) ?_
  refine rgN F w cl3 2 rfl 1 (by decide) q69 rfl (v := .ref ((ad 1) 3)) rfl dX6_writeLot_27 ?_
  refine lv_iload_n F.x F.b dX6_writeLot_30 rfl (lv_at hl 1 rfl) ?_
  refine rc F w 4 (n := 16) (f := S.2 1) rfl (ib_nI hp (by omega)) dX6_writeLot_31 ?_
  rw [show (S.2 1 (Int32.toNatClampNeg (nI pp))) = (nI k) from by rw [nI_clamp (by omega)]; exact ek]
  refine kVr F w (LC := [wSb G.2.1 (ad 5) (va1, cp, 0, mb1, f1)]) (LR := [wXo G.2.1 (ad 0) (xF ad) svx K, wSh G.2.1 (ad 1) S]) (As := [.int (nI k)]) (rest := []) (t_J4_append_cf468 F.1 hSG pv hT0 hk (gm := 0) (gs := 0) (Or.inl ⟨by omega, rfl⟩)) m_J4_append_cf468 v_J4_append_cf468 (List.mem_of_getElem? (i := 1235) (by decide +kernel)) (ci := 1) (q0 := 15) rfl rfl rfl 3 [2, 0, 1] rfl rfl rfl ⟨Nat.le_of_ble_eq_true rfl, Nat.le_of_ble_eq_true rfl⟩ rfl hl.1 rfl (Nat.le_of_ble_eq_true rfl) dX6_writeLot_32 ⟨Nat.le_of_ble_eq_true rfl, Nat.le_of_ble_eq_true rfl⟩ (fun a9 w1 H locs h9 w => ?_)
  obtain ⟨rfl, va2, f2, h9, hT2⟩ := h9
  have w := w.jn (L1 := [wSb G.2.1 (ad 5) (va2, cp, (0 + 1), mb1, f2)]) (L' := [wXo G.2.1 (ad 0) (xF ad) svx K, wSh G.2.1 (ad 1) S, wSb G.2.1 (ad 5) (va2, cp, (0 + 1), mb1, f2)]) h9 3 [1, 2, 0] rfl rfl rfl
  refine lv_aload_n F.x F.b dX6_writeLot_35 rfl (lv_at hl 0 rfl) ?_
  refine rgN F w cl3 2 rfl 2 (by decide) q71 rfl (v := .ref ((ad 1) 4)) rfl dX6_writeLot_36 ?_
  refine lv_iload_n F.x F.b dX6_writeLot_39 rfl (lv_at hl 1 rfl) ?_
  refine ri F w 5 (n := 16) (f := S.2 2) rfl (ib_nI hp (by omega)) dX6_writeLot_40 ?_
  rw [show (S.2 2 (Int32.toNatClampNeg (nI pp))) = (nI v1) from by rw [nI_clamp (by omega)]; exact ev1]
  refine kVr F w (LC := [wSb G.2.1 (ad 5) (va2, cp, (0 + 1), mb1, f2)]) (LR := [wXo G.2.1 (ad 0) (xF ad) svx K, wSh G.2.1 (ad 1) S]) (As := [.int (nI v1)]) (rest := []) (t_J4_append_bf812 F.1 hSG hD pv hT2 hv1 (by omega)) m_J4_append_bf812 v_J4_append_bf812 (List.mem_of_getElem? (i := 1248) (by decide +kernel)) (ci := 1) (q0 := 15) rfl rfl rfl 3 [2, 0, 1] rfl rfl rfl ⟨Nat.le_of_ble_eq_true rfl, Nat.le_of_ble_eq_true rfl⟩ rfl hl.1 rfl (Nat.le_of_ble_eq_true rfl) dX6_writeLot_41 ⟨Nat.le_of_ble_eq_true rfl, Nat.le_of_ble_eq_true rfl⟩ (fun a9 w1 H locs h9 w => ?_)
  obtain ⟨rfl, va3, n3, f3, h9, hT3⟩ := h9
  have w := w.jn (L1 := [wSb G.2.1 (ad 5) (va3, cp, n3, mb1, f3)]) (L' := [wXo G.2.1 (ad 0) (xF ad) svx K, wSh G.2.1 (ad 1) S, wSb G.2.1 (ad 5) (va3, cp, n3, mb1, f3)]) h9 3 [1, 2, 0] rfl rfl rfl
  have hb3 := Tx.num_le hT2 hT3
  refine lv_pop F.x F.b dX6_writeLot_44 rfl ?_
  refine lv_aload_n F.x F.b dX6_writeLot_45 rfl (lv_at hl 2 rfl) ?_
  refine rg F w cl6 0 rfl 4 (by decide) q264 rfl (v := .ref ((ad 5) 0)) rfl dX6_writeLot_46 ?_
  refine lv_bipush (v := 42) F.x F.b dX6_writeLot_49 (by decide) ?_
  refine kVr F w (LC := [wSb G.2.1 (ad 5) (va3, cp, n3, mb1, f3)]) (LR := [wXo G.2.1 (ad 0) (xF ad) svx K, wSh G.2.1 (ad 1) S]) (As := [.int (nI 42)]) (rest := []) (t_J4_append_cf468 F.1 hSG pv hT3 (by omega : 42 < 128) (gm := 0) (gs := 0) (Or.inl ⟨by omega, rfl⟩)) m_J4_append_cf468 v_J4_append_cf468 (List.mem_of_getElem? (i := 1235) (by decide +kernel)) (ci := 1) (q0 := 15) rfl rfl rfl 3 [2, 0, 1] rfl rfl rfl ⟨Nat.le_of_ble_eq_true rfl, Nat.le_of_ble_eq_true rfl⟩ rfl hl.1 rfl (Nat.le_of_ble_eq_true rfl) dX6_writeLot_51 ⟨Nat.le_of_ble_eq_true rfl, Nat.le_of_ble_eq_true rfl⟩ (fun a9 w1 H locs h9 w => ?_)
  obtain ⟨rfl, va4, f4, h9, hT4⟩ := h9
  have w := w.jn (L1 := [wSb G.2.1 (ad 5) (va4, cp, (n3 + 1), mb1, f4)]) (L' := [wXo G.2.1 (ad 0) (xF ad) svx K, wSh G.2.1 (ad 1) S, wSb G.2.1 (ad 5) (va4, cp, (n3 + 1), mb1, f4)]) h9 3 [1, 2, 0] rfl rfl rfl
  refine lv_aload_n F.x F.b dX6_writeLot_54 rfl (lv_at hl 0 rfl) ?_
  refine rgN F w cl3 2 rfl 3 (by decide) q74 rfl (v := .ref ((ad 1) 5)) rfl dX6_writeLot_55 ?_
  refine lv_iload_n F.x F.b dX6_writeLot_58 rfl (lv_at hl 1 rfl) ?_
  refine ri F w 6 (n := 16) (f := S.2 3) rfl (ib_nI hp (by omega)) dX6_writeLot_59 ?_
  rw [show (S.2 3 (Int32.toNatClampNeg (nI pp))) = (nI v2) from by rw [nI_clamp (by omega)]; exact ev2]
  refine kVr F w (LC := [wSb G.2.1 (ad 5) (va4, cp, (n3 + 1), mb1, f4)]) (LR := [wXo G.2.1 (ad 0) (xF ad) svx K, wSh G.2.1 (ad 1) S]) (As := [.int (nI v2)]) (rest := []) (t_J4_append_bf812 F.1 hSG hD pv hT4 hv2 (by omega)) m_J4_append_bf812 v_J4_append_bf812 (List.mem_of_getElem? (i := 1248) (by decide +kernel)) (ci := 1) (q0 := 15) rfl rfl rfl 3 [2, 0, 1] rfl rfl rfl ⟨Nat.le_of_ble_eq_true rfl, Nat.le_of_ble_eq_true rfl⟩ rfl hl.1 rfl (Nat.le_of_ble_eq_true rfl) dX6_writeLot_60 ⟨Nat.le_of_ble_eq_true rfl, Nat.le_of_ble_eq_true rfl⟩ (fun a9 w1 H locs h9 w => ?_)
  obtain ⟨rfl, va5, n5, f5, h9, hT5⟩ := h9
  have w := w.jn (L1 := [wSb G.2.1 (ad 5) (va5, cp, n5, mb1, f5)]) (L' := [wXo G.2.1 (ad 0) (xF ad) svx K, wSh G.2.1 (ad 1) S, wSb G.2.1 (ad 5) (va5, cp, n5, mb1, f5)]) h9 3 [1, 2, 0] rfl rfl rfl
  have hb5 := Tx.num_le hT4 hT5
  refine lv_pop F.x F.b dX6_writeLot_63 rfl ?_
  refine lv_aload_n F.x F.b dX6_writeLot_64 rfl (lv_at hl 2 rfl) ?_
  refine rg F w cl6 0 rfl 4 (by decide) q264 rfl (v := .ref ((ad 5) 0)) rfl dX6_writeLot_65 ?_
  refine lv_bipush (v := 64) F.x F.b dX6_writeLot_68 (by decide) ?_
  refine kVr F w (LC := [wSb G.2.1 (ad 5) (va5, cp, n5, mb1, f5)]) (LR := [wXo G.2.1 (ad 0) (xF ad) svx K, wSh G.2.1 (ad 1) S]) (As := [.int (nI 64)]) (rest := []) (t_J4_append_cf468 F.1 hSG pv hT5 (by omega : 64 < 128) (gm := 0) (gs := 0) (Or.inl ⟨by omega, rfl⟩)) m_J4_append_cf468 v_J4_append_cf468 (List.mem_of_getElem? (i := 1235) (by decide +kernel)) (ci := 1) (q0 := 15) rfl rfl rfl 3 [2, 0, 1] rfl rfl rfl ⟨Nat.le_of_ble_eq_true rfl, Nat.le_of_ble_eq_true rfl⟩ rfl hl.1 rfl (Nat.le_of_ble_eq_true rfl) dX6_writeLot_70 ⟨Nat.le_of_ble_eq_true rfl, Nat.le_of_ble_eq_true rfl⟩ (fun a9 w1 H locs h9 w => ?_)
  obtain ⟨rfl, va6, f6, h9, hT6⟩ := h9
  have w := w.jn (L1 := [wSb G.2.1 (ad 5) (va6, cp, (n5 + 1), mb1, f6)]) (L' := [wXo G.2.1 (ad 0) (xF ad) svx K, wSh G.2.1 (ad 1) S, wSb G.2.1 (ad 5) (va6, cp, (n5 + 1), mb1, f6)]) h9 3 [1, 2, 0] rfl rfl rfl
  refine lv_aload_n F.x F.b dX6_writeLot_73 rfl (lv_at hl 0 rfl) ?_
  refine rgN F w cl3 2 rfl 4 (by decide) q77 rfl (v := .ref ((ad 1) 6)) rfl dX6_writeLot_74 ?_
  refine lv_iload_n F.x F.b dX6_writeLot_77 rfl (lv_at hl 1 rfl) ?_
  refine ri F w 7 (n := 16) (f := S.2 4) rfl (ib_nI hp (by omega)) dX6_writeLot_78 ?_
  rw [show (S.2 4 (Int32.toNatClampNeg (nI pp))) = (nI b) from by rw [nI_clamp (by omega)]; exact eb]
  refine kVr F w (LC := [wSb G.2.1 (ad 5) (va6, cp, (n5 + 1), mb1, f6)]) (LR := [wXo G.2.1 (ad 0) (xF ad) svx K, wSh G.2.1 (ad 1) S]) (As := [.int (nI b)]) (rest := []) (t_J4_append_bf812 F.1 hSG hD pv hT6 hb (by omega)) m_J4_append_bf812 v_J4_append_bf812 (List.mem_of_getElem? (i := 1248) (by decide +kernel)) (ci := 1) (q0 := 15) rfl rfl rfl 3 [2, 0, 1] rfl rfl rfl ⟨Nat.le_of_ble_eq_true rfl, Nat.le_of_ble_eq_true rfl⟩ rfl hl.1 rfl (Nat.le_of_ble_eq_true rfl) dX6_writeLot_79 ⟨Nat.le_of_ble_eq_true rfl, Nat.le_of_ble_eq_true rfl⟩ (fun a9 w1 H locs h9 w => ?_)
  obtain ⟨rfl, va7, n7, f7, h9, hT7⟩ := h9
  have w := w.jn (L1 := [wSb G.2.1 (ad 5) (va7, cp, n7, mb1, f7)]) (L' := [wXo G.2.1 (ad 0) (xF ad) svx K, wSh G.2.1 (ad 1) S, wSb G.2.1 (ad 5) (va7, cp, n7, mb1, f7)]) h9 3 [1, 2, 0] rfl rfl rfl
  have hb7 := Tx.num_le hT6 hT7
  refine lv_pop F.x F.b dX6_writeLot_82 rfl ?_
  refine lv_aload_n F.x F.b dX6_writeLot_83 rfl (lv_at hl 0 rfl) ?_
  refine rgN F w cl3 2 rfl 5 (by decide) q80 rfl (v := .ref ((ad 1) 7)) rfl dX6_writeLot_84 ?_
  refine lv_iload_n F.x F.b dX6_writeLot_87 rfl (lv_at hl 1 rfl) ?_
  refine rz F w 8 (n := 16) (f := S.2 5) rfl (ib_nI hp (by omega)) dX6_writeLot_88 ?_
  rw [show (S.2 5 (Int32.toNatClampNeg (nI pp))) = S.2 5 pp from by rw [nI_clamp (by omega)]]
  rcases fg5 with z5 | z5
  · refine lv_if_eq (tgt := 102) F.x F.b dX6_writeLot_89 (by decide) (fun _ => ?_) (fun c9 => absurd z5 c9)
    refine lv_aload_n F.x F.b dX6_writeLot_102 rfl (lv_at hl 0 rfl) ?_
    refine rgN F w cl3 2 rfl 6 (by decide) q83 rfl (v := .ref ((ad 1) 8)) rfl dX6_writeLot_103 ?_
    refine lv_iload_n F.x F.b dX6_writeLot_106 rfl (lv_at hl 1 rfl) ?_
    refine rz F w 9 (n := 16) (f := S.2 6) rfl (ib_nI hp (by omega)) dX6_writeLot_107 ?_
    rw [show (S.2 6 (Int32.toNatClampNeg (nI pp))) = S.2 6 pp from by rw [nI_clamp (by omega)]]
    rcases fg6 with z6 | z6
    · refine lv_if_eq (tgt := 121) F.x F.b dX6_writeLot_108 (by decide) (fun _ => ?_) (fun c9 => absurd z6 c9)
      refine lv_aload_n F.x F.b dX6_writeLot_121 rfl (lv_at hl 2 rfl) ?_
      refine rg F w cl6 0 rfl 0 (by decide) q260 rfl (v := .ref ((ad 1) 0)) rfl dX6_writeLot_122 ?_
      refine rgN F w cl4 1 rfl 2 (by decide) q151 rfl (v := .ref ((ad 1) 12)) rfl dX6_writeLot_125 ?_
      refine lv_iload_n F.x F.b dX6_writeLot_128 rfl (lv_at hl 3 rfl) ?_
      refine kXi F w hst (LC := [wSh G.2.1 (ad 1) S]) (LR := [wXo G.2.1 (ad 0) (xF ad) svx K, wSb G.2.1 (ad 5) (va7, cp, n7, mb1, f7)]) (As := [.int x1]) (rest := []) (t_X0_placeOf F.1 hz).toX m_X0_placeOf v_X0_placeOf q1249 (ci := 4) (q0 := 13) rfl rfl rfl 3 [1, 0, 2] rfl rfl rfl ⟨Nat.le_of_ble_eq_true rfl, Nat.le_of_ble_eq_true rfl⟩ rfl hl.1 rfl (Nat.le_of_ble_eq_true rfl) dX6_writeLot_129 ⟨Nat.le_of_ble_eq_true rfl, Nat.le_of_ble_eq_true rfl⟩ (fun _ _ _ _ _ _ hx => False.elim hx) (fun r9 w1 H locs h9 w => ?_)
      obtain ⟨hz9, h9⟩ := h9
      have w := w.jn (L1 := [wSh G.2.1 (ad 1) S]) (L' := [wXo G.2.1 (ad 0) (xF ad) svx K, wSh G.2.1 (ad 1) S, wSb G.2.1 (ad 5) (va7, cp, n7, mb1, f7)]) h9 3 [1, 0, 2] rfl rfl rfl
      rw [hz9]
      rcases hzc with zz | ⟨jj, hjj, zz⟩
      · refine lv_if_lt (tgt := 145) F.x F.b dX6_writeLot_132 (by decide) (fun _ => ?_) (fun c9 => absurd (by rw [zz]; decide) c9)
        refine lv_aload_n F.x F.b dX6_writeLot_145 rfl (lv_at hl 2 rfl) ?_
        refine rg F w cl6 0 rfl 4 (by decide) q264 rfl (v := .ref ((ad 5) 0)) rfl dX6_writeLot_146 ?_
        refine kXi F w hst (LC := [wSb G.2.1 (ad 5) (va7, cp, n7, mb1, f7)]) (LR := [wXo G.2.1 (ad 0) (xF ad) svx K, wSh G.2.1 (ad 1) S]) (As := []) (rest := []) (t_J4_length_8abf5 F.1 (o := ad 5) (va := va7) (cp := cp) (n := n7) (mb := mb1) (f := f7)).toX m_J4_length_8abf5 v_J4_length_8abf5 q1250 (ci := 1) (q0 := 15) rfl rfl rfl 3 [2, 0, 1] rfl rfl rfl ⟨Nat.le_of_ble_eq_true rfl, Nat.le_of_ble_eq_true rfl⟩ rfl hl.1 rfl (Nat.le_of_ble_eq_true rfl) dX6_writeLot_149 ⟨Nat.le_of_ble_eq_true rfl, Nat.le_of_ble_eq_true rfl⟩ (fun _ _ _ _ _ _ hx => False.elim hx) (fun r9 w1 H locs h9 w => ?_)
        obtain ⟨rfl, h9⟩ := h9
        have w := w.jn (L1 := [wSb G.2.1 (ad 5) (va7, cp, n7, mb1, f7)]) (L' := [wXo G.2.1 (ad 0) (xF ad) svx K, wSh G.2.1 (ad 1) S, wSb G.2.1 (ad 5) (va7, cp, n7, mb1, f7)]) h9 3 [1, 2, 0] rfl rfl rfl
        have hL : lotTx k v1 v2 b (S.2 5 pp) (S.2 6 pp) z = [] ++ [k] ++ dgN v1 ++ [42] ++ dgN v2 ++ [64] ++ dgN b := by simp [lotTx, z5, z6, zz]
        have hTn : n7 = _ := hT7.2.1
        exact eiX F w hr hlocks rfl ⟨(va7, cp, n7, mb1, f7), by rw [hL, hTn], by rw [hL]; exact hT7, rfl⟩ (Nat.le_of_ble_eq_true rfl) (Nat.le_of_ble_eq_true rfl) dX6_writeLot_152
      · refine lv_if_lt (tgt := 145) F.x F.b dX6_writeLot_132 (by decide) (fun c9 => absurd c9 (by rw [zz]; exact Int32.not_lt.mpr (nI_pos' (n := jj) (by omega)))) (fun _ => ?_)
        have zz : ¬ z = -1 := by rw [zz]; exact nI_nm1 (by omega)
        refine lv_aload_n F.x F.b dX6_writeLot_135 rfl (lv_at hl 2 rfl) ?_
        refine rg F w cl6 0 rfl 4 (by decide) q264 rfl (v := .ref ((ad 5) 0)) rfl dX6_writeLot_136 ?_
        refine lv_bipush (v := 63) F.x F.b dX6_writeLot_139 (by decide) ?_
        refine kVr F w (LC := [wSb G.2.1 (ad 5) (va7, cp, n7, mb1, f7)]) (LR := [wXo G.2.1 (ad 0) (xF ad) svx K, wSh G.2.1 (ad 1) S]) (As := [.int (nI 63)]) (rest := []) (t_J4_append_cf468 F.1 hSG pv hT7 (by omega : 63 < 128) (gm := 0) (gs := 0) (Or.inl ⟨by omega, rfl⟩)) m_J4_append_cf468 v_J4_append_cf468 (List.mem_of_getElem? (i := 1235) (by decide +kernel)) (ci := 1) (q0 := 15) rfl rfl rfl 3 [2, 0, 1] rfl rfl rfl ⟨Nat.le_of_ble_eq_true rfl, Nat.le_of_ble_eq_true rfl⟩ rfl hl.1 rfl (Nat.le_of_ble_eq_true rfl) dX6_writeLot_141 ⟨Nat.le_of_ble_eq_true rfl, Nat.le_of_ble_eq_true rfl⟩ (fun a9 w1 H locs h9 w => ?_)
        obtain ⟨rfl, va8, f8, h9, hT8⟩ := h9
        have w := w.jn (L1 := [wSb G.2.1 (ad 5) (va8, cp, (n7 + 1), mb1, f8)]) (L' := [wXo G.2.1 (ad 0) (xF ad) svx K, wSh G.2.1 (ad 1) S, wSb G.2.1 (ad 5) (va8, cp, (n7 + 1), mb1, f8)]) h9 3 [1, 2, 0] rfl rfl rfl
        refine lv_pop F.x F.b dX6_writeLot_144 rfl ?_
        refine lv_aload_n F.x F.b dX6_writeLot_145 rfl (lv_at hl 2 rfl) ?_
        refine rg F w cl6 0 rfl 4 (by decide) q264 rfl (v := .ref ((ad 5) 0)) rfl dX6_writeLot_146 ?_
        refine kXi F w hst (LC := [wSb G.2.1 (ad 5) (va8, cp, (n7 + 1), mb1, f8)]) (LR := [wXo G.2.1 (ad 0) (xF ad) svx K, wSh G.2.1 (ad 1) S]) (As := []) (rest := []) (t_J4_length_8abf5 F.1 (o := ad 5) (va := va8) (cp := cp) (n := (n7 + 1)) (mb := mb1) (f := f8)).toX m_J4_length_8abf5 v_J4_length_8abf5 q1250 (ci := 1) (q0 := 15) rfl rfl rfl 3 [2, 0, 1] rfl rfl rfl ⟨Nat.le_of_ble_eq_true rfl, Nat.le_of_ble_eq_true rfl⟩ rfl hl.1 rfl (Nat.le_of_ble_eq_true rfl) dX6_writeLot_149 ⟨Nat.le_of_ble_eq_true rfl, Nat.le_of_ble_eq_true rfl⟩ (fun _ _ _ _ _ _ hx => False.elim hx) (fun r9 w1 H locs h9 w => ?_)
        obtain ⟨rfl, h9⟩ := h9
        have w := w.jn (L1 := [wSb G.2.1 (ad 5) (va8, cp, (n7 + 1), mb1, f8)]) (L' := [wXo G.2.1 (ad 0) (xF ad) svx K, wSh G.2.1 (ad 1) S, wSb G.2.1 (ad 5) (va8, cp, (n7 + 1), mb1, f8)]) h9 3 [1, 2, 0] rfl rfl rfl
        have hL : lotTx k v1 v2 b (S.2 5 pp) (S.2 6 pp) z = [] ++ [k] ++ dgN v1 ++ [42] ++ dgN v2 ++ [64] ++ dgN b ++ [63] := by simp [lotTx, z5, z6, zz]
        have hTn : (n7 + 1) = _ := hT8.2.1
        exact eiX F w hr hlocks rfl ⟨(va8, cp, (n7 + 1), mb1, f8), by rw [hL, hTn], by rw [hL]; exact hT8, rfl⟩ (Nat.le_of_ble_eq_true rfl) (Nat.le_of_ble_eq_true rfl) dX6_writeLot_152
    · refine lv_if_eq (tgt := 121) F.x F.b dX6_writeLot_108 (by decide) (fun c9 => absurd c9 (by rw [z6]; decide)) (fun _ => ?_)
      refine lv_aload_n F.x F.b dX6_writeLot_111 rfl (lv_at hl 2 rfl) ?_
      refine rg F w cl6 0 rfl 4 (by decide) q264 rfl (v := .ref ((ad 5) 0)) rfl dX6_writeLot_112 ?_
      refine lv_bipush (v := 126) F.x F.b dX6_writeLot_115 (by decide) ?_
      refine kVr F w (LC := [wSb G.2.1 (ad 5) (va7, cp, n7, mb1, f7)]) (LR := [wXo G.2.1 (ad 0) (xF ad) svx K, wSh G.2.1 (ad 1) S]) (As := [.int (nI 126)]) (rest := []) (t_J4_append_cf468 F.1 hSG pv hT7 (by omega : 126 < 128) (gm := 0) (gs := 0) (Or.inl ⟨by omega, rfl⟩)) m_J4_append_cf468 v_J4_append_cf468 (List.mem_of_getElem? (i := 1235) (by decide +kernel)) (ci := 1) (q0 := 15) rfl rfl rfl 3 [2, 0, 1] rfl rfl rfl ⟨Nat.le_of_ble_eq_true rfl, Nat.le_of_ble_eq_true rfl⟩ rfl hl.1 rfl (Nat.le_of_ble_eq_true rfl) dX6_writeLot_117 ⟨Nat.le_of_ble_eq_true rfl, Nat.le_of_ble_eq_true rfl⟩ (fun a9 w1 H locs h9 w => ?_)
      obtain ⟨rfl, va8, f8, h9, hT8⟩ := h9
      have w := w.jn (L1 := [wSb G.2.1 (ad 5) (va8, cp, (n7 + 1), mb1, f8)]) (L' := [wXo G.2.1 (ad 0) (xF ad) svx K, wSh G.2.1 (ad 1) S, wSb G.2.1 (ad 5) (va8, cp, (n7 + 1), mb1, f8)]) h9 3 [1, 2, 0] rfl rfl rfl
      refine lv_pop F.x F.b dX6_writeLot_120 rfl ?_
      refine lv_aload_n F.x F.b dX6_writeLot_121 rfl (lv_at hl 2 rfl) ?_
      refine rg F w cl6 0 rfl 0 (by decide) q260 rfl (v := .ref ((ad 1) 0)) rfl dX6_writeLot_122 ?_
      refine rgN F w cl4 1 rfl 2 (by decide) q151 rfl (v := .ref ((ad 1) 12)) rfl dX6_writeLot_125 ?_
      refine lv_iload_n F.x F.b dX6_writeLot_128 rfl (lv_at hl 3 rfl) ?_
      refine kXi F w hst (LC := [wSh G.2.1 (ad 1) S]) (LR := [wXo G.2.1 (ad 0) (xF ad) svx K, wSb G.2.1 (ad 5) (va8, cp, (n7 + 1), mb1, f8)]) (As := [.int x1]) (rest := []) (t_X0_placeOf F.1 hz).toX m_X0_placeOf v_X0_placeOf q1249 (ci := 4) (q0 := 13) rfl rfl rfl 3 [1, 0, 2] rfl rfl rfl ⟨Nat.le_of_ble_eq_true rfl, Nat.le_of_ble_eq_true rfl⟩ rfl hl.1 rfl (Nat.le_of_ble_eq_true rfl) dX6_writeLot_129 ⟨Nat.le_of_ble_eq_true rfl, Nat.le_of_ble_eq_true rfl⟩ (fun _ _ _ _ _ _ hx => False.elim hx) (fun r9 w1 H locs h9 w => ?_)
      obtain ⟨hz9, h9⟩ := h9
      have w := w.jn (L1 := [wSh G.2.1 (ad 1) S]) (L' := [wXo G.2.1 (ad 0) (xF ad) svx K, wSh G.2.1 (ad 1) S, wSb G.2.1 (ad 5) (va8, cp, (n7 + 1), mb1, f8)]) h9 3 [1, 0, 2] rfl rfl rfl
      rw [hz9]
      rcases hzc with zz | ⟨jj, hjj, zz⟩
      · refine lv_if_lt (tgt := 145) F.x F.b dX6_writeLot_132 (by decide) (fun _ => ?_) (fun c9 => absurd (by rw [zz]; decide) c9)
        refine lv_aload_n F.x F.b dX6_writeLot_145 rfl (lv_at hl 2 rfl) ?_
        refine rg F w cl6 0 rfl 4 (by decide) q264 rfl (v := .ref ((ad 5) 0)) rfl dX6_writeLot_146 ?_
        refine kXi F w hst (LC := [wSb G.2.1 (ad 5) (va8, cp, (n7 + 1), mb1, f8)]) (LR := [wXo G.2.1 (ad 0) (xF ad) svx K, wSh G.2.1 (ad 1) S]) (As := []) (rest := []) (t_J4_length_8abf5 F.1 (o := ad 5) (va := va8) (cp := cp) (n := (n7 + 1)) (mb := mb1) (f := f8)).toX m_J4_length_8abf5 v_J4_length_8abf5 q1250 (ci := 1) (q0 := 15) rfl rfl rfl 3 [2, 0, 1] rfl rfl rfl ⟨Nat.le_of_ble_eq_true rfl, Nat.le_of_ble_eq_true rfl⟩ rfl hl.1 rfl (Nat.le_of_ble_eq_true rfl) dX6_writeLot_149 ⟨Nat.le_of_ble_eq_true rfl, Nat.le_of_ble_eq_true rfl⟩ (fun _ _ _ _ _ _ hx => False.elim hx) (fun r9 w1 H locs h9 w => ?_)
        obtain ⟨rfl, h9⟩ := h9
        have w := w.jn (L1 := [wSb G.2.1 (ad 5) (va8, cp, (n7 + 1), mb1, f8)]) (L' := [wXo G.2.1 (ad 0) (xF ad) svx K, wSh G.2.1 (ad 1) S, wSb G.2.1 (ad 5) (va8, cp, (n7 + 1), mb1, f8)]) h9 3 [1, 2, 0] rfl rfl rfl
        have hL : lotTx k v1 v2 b (S.2 5 pp) (S.2 6 pp) z = [] ++ [k] ++ dgN v1 ++ [42] ++ dgN v2 ++ [64] ++ dgN b ++ [126] := by simp [lotTx, z5, z6, zz]
        have hTn : (n7 + 1) = _ := hT8.2.1
        exact eiX F w hr hlocks rfl ⟨(va8, cp, (n7 + 1), mb1, f8), by rw [hL, hTn], by rw [hL]; exact hT8, rfl⟩ (Nat.le_of_ble_eq_true rfl) (Nat.le_of_ble_eq_true rfl) dX6_writeLot_152
      · refine lv_if_lt (tgt := 145) F.x F.b dX6_writeLot_132 (by decide) (fun c9 => absurd c9 (by rw [zz]; exact Int32.not_lt.mpr (nI_pos' (n := jj) (by omega)))) (fun _ => ?_)
        have zz : ¬ z = -1 := by rw [zz]; exact nI_nm1 (by omega)
        refine lv_aload_n F.x F.b dX6_writeLot_135 rfl (lv_at hl 2 rfl) ?_
        refine rg F w cl6 0 rfl 4 (by decide) q264 rfl (v := .ref ((ad 5) 0)) rfl dX6_writeLot_136 ?_
        refine lv_bipush (v := 63) F.x F.b dX6_writeLot_139 (by decide) ?_
        refine kVr F w (LC := [wSb G.2.1 (ad 5) (va8, cp, (n7 + 1), mb1, f8)]) (LR := [wXo G.2.1 (ad 0) (xF ad) svx K, wSh G.2.1 (ad 1) S]) (As := [.int (nI 63)]) (rest := []) (t_J4_append_cf468 F.1 hSG pv hT8 (by omega : 63 < 128) (gm := 0) (gs := 0) (Or.inl ⟨by omega, rfl⟩)) m_J4_append_cf468 v_J4_append_cf468 (List.mem_of_getElem? (i := 1235) (by decide +kernel)) (ci := 1) (q0 := 15) rfl rfl rfl 3 [2, 0, 1] rfl rfl rfl ⟨Nat.le_of_ble_eq_true rfl, Nat.le_of_ble_eq_true rfl⟩ rfl hl.1 rfl (Nat.le_of_ble_eq_true rfl) dX6_writeLot_141 ⟨Nat.le_of_ble_eq_true rfl, Nat.le_of_ble_eq_true rfl⟩ (fun a9 w1 H locs h9 w => ?_)
        obtain ⟨rfl, va9, f9, h9, hT9⟩ := h9
        have w := w.jn (L1 := [wSb G.2.1 (ad 5) (va9, cp, ((n7 + 1) + 1), mb1, f9)]) (L' := [wXo G.2.1 (ad 0) (xF ad) svx K, wSh G.2.1 (ad 1) S, wSb G.2.1 (ad 5) (va9, cp, ((n7 + 1) + 1), mb1, f9)]) h9 3 [1, 2, 0] rfl rfl rfl
        refine lv_pop F.x F.b dX6_writeLot_144 rfl ?_
        refine lv_aload_n F.x F.b dX6_writeLot_145 rfl (lv_at hl 2 rfl) ?_
        refine rg F w cl6 0 rfl 4 (by decide) q264 rfl (v := .ref ((ad 5) 0)) rfl dX6_writeLot_146 ?_
        refine kXi F w hst (LC := [wSb G.2.1 (ad 5) (va9, cp, ((n7 + 1) + 1), mb1, f9)]) (LR := [wXo G.2.1 (ad 0) (xF ad) svx K, wSh G.2.1 (ad 1) S]) (As := []) (rest := []) (t_J4_length_8abf5 F.1 (o := ad 5) (va := va9) (cp := cp) (n := ((n7 + 1) + 1)) (mb := mb1) (f := f9)).toX m_J4_length_8abf5 v_J4_length_8abf5 q1250 (ci := 1) (q0 := 15) rfl rfl rfl 3 [2, 0, 1] rfl rfl rfl ⟨Nat.le_of_ble_eq_true rfl, Nat.le_of_ble_eq_true rfl⟩ rfl hl.1 rfl (Nat.le_of_ble_eq_true rfl) dX6_writeLot_149 ⟨Nat.le_of_ble_eq_true rfl, Nat.le_of_ble_eq_true rfl⟩ (fun _ _ _ _ _ _ hx => False.elim hx) (fun r9 w1 H locs h9 w => ?_)
        obtain ⟨rfl, h9⟩ := h9
        have w := w.jn (L1 := [wSb G.2.1 (ad 5) (va9, cp, ((n7 + 1) + 1), mb1, f9)]) (L' := [wXo G.2.1 (ad 0) (xF ad) svx K, wSh G.2.1 (ad 1) S, wSb G.2.1 (ad 5) (va9, cp, ((n7 + 1) + 1), mb1, f9)]) h9 3 [1, 2, 0] rfl rfl rfl
        have hL : lotTx k v1 v2 b (S.2 5 pp) (S.2 6 pp) z = [] ++ [k] ++ dgN v1 ++ [42] ++ dgN v2 ++ [64] ++ dgN b ++ [126] ++ [63] := by simp [lotTx, z5, z6, zz]
        have hTn : ((n7 + 1) + 1) = _ := hT9.2.1
        exact eiX F w hr hlocks rfl ⟨(va9, cp, ((n7 + 1) + 1), mb1, f9), by rw [hL, hTn], by rw [hL]; exact hT9, rfl⟩ (Nat.le_of_ble_eq_true rfl) (Nat.le_of_ble_eq_true rfl) dX6_writeLot_152
  · refine lv_if_eq (tgt := 102) F.x F.b dX6_writeLot_89 (by decide) (fun c9 => absurd c9 (by rw [z5]; decide)) (fun _ => ?_)
    refine lv_aload_n F.x F.b dX6_writeLot_92 rfl (lv_at hl 2 rfl) ?_
    refine rg F w cl6 0 rfl 4 (by decide) q264 rfl (v := .ref ((ad 5) 0)) rfl dX6_writeLot_93 ?_
    refine lv_bipush (v := 35) F.x F.b dX6_writeLot_96 (by decide) ?_
    refine kVr F w (LC := [wSb G.2.1 (ad 5) (va7, cp, n7, mb1, f7)]) (LR := [wXo G.2.1 (ad 0) (xF ad) svx K, wSh G.2.1 (ad 1) S]) (As := [.int (nI 35)]) (rest := []) (t_J4_append_cf468 F.1 hSG pv hT7 (by omega : 35 < 128) (gm := 0) (gs := 0) (Or.inl ⟨by omega, rfl⟩)) m_J4_append_cf468 v_J4_append_cf468 (List.mem_of_getElem? (i := 1235) (by decide +kernel)) (ci := 1) (q0 := 15) rfl rfl rfl 3 [2, 0, 1] rfl rfl rfl ⟨Nat.le_of_ble_eq_true rfl, Nat.le_of_ble_eq_true rfl⟩ rfl hl.1 rfl (Nat.le_of_ble_eq_true rfl) dX6_writeLot_98 ⟨Nat.le_of_ble_eq_true rfl, Nat.le_of_ble_eq_true rfl⟩ (fun a9 w1 H locs h9 w => ?_)
    obtain ⟨rfl, va8, f8, h9, hT8⟩ := h9
    have w := w.jn (L1 := [wSb G.2.1 (ad 5) (va8, cp, (n7 + 1), mb1, f8)]) (L' := [wXo G.2.1 (ad 0) (xF ad) svx K, wSh G.2.1 (ad 1) S, wSb G.2.1 (ad 5) (va8, cp, (n7 + 1), mb1, f8)]) h9 3 [1, 2, 0] rfl rfl rfl
    refine lv_pop F.x F.b dX6_writeLot_101 rfl ?_
    refine lv_aload_n F.x F.b dX6_writeLot_102 rfl (lv_at hl 0 rfl) ?_
    refine rgN F w cl3 2 rfl 6 (by decide) q83 rfl (v := .ref ((ad 1) 8)) rfl dX6_writeLot_103 ?_
    refine lv_iload_n F.x F.b dX6_writeLot_106 rfl (lv_at hl 1 rfl) ?_
    refine rz F w 9 (n := 16) (f := S.2 6) rfl (ib_nI hp (by omega)) dX6_writeLot_107 ?_
    rw [show (S.2 6 (Int32.toNatClampNeg (nI pp))) = S.2 6 pp from by rw [nI_clamp (by omega)]]
    rcases fg6 with z6 | z6
    · refine lv_if_eq (tgt := 121) F.x F.b dX6_writeLot_108 (by decide) (fun _ => ?_) (fun c9 => absurd z6 c9)
      refine lv_aload_n F.x F.b dX6_writeLot_121 rfl (lv_at hl 2 rfl) ?_
      refine rg F w cl6 0 rfl 0 (by decide) q260 rfl (v := .ref ((ad 1) 0)) rfl dX6_writeLot_122 ?_
      refine rgN F w cl4 1 rfl 2 (by decide) q151 rfl (v := .ref ((ad 1) 12)) rfl dX6_writeLot_125 ?_
      refine lv_iload_n F.x F.b dX6_writeLot_128 rfl (lv_at hl 3 rfl) ?_
      refine kXi F w hst (LC := [wSh G.2.1 (ad 1) S]) (LR := [wXo G.2.1 (ad 0) (xF ad) svx K, wSb G.2.1 (ad 5) (va8, cp, (n7 + 1), mb1, f8)]) (As := [.int x1]) (rest := []) (t_X0_placeOf F.1 hz).toX m_X0_placeOf v_X0_placeOf q1249 (ci := 4) (q0 := 13) rfl rfl rfl 3 [1, 0, 2] rfl rfl rfl ⟨Nat.le_of_ble_eq_true rfl, Nat.le_of_ble_eq_true rfl⟩ rfl hl.1 rfl (Nat.le_of_ble_eq_true rfl) dX6_writeLot_129 ⟨Nat.le_of_ble_eq_true rfl, Nat.le_of_ble_eq_true rfl⟩ (fun _ _ _ _ _ _ hx => False.elim hx) (fun r9 w1 H locs h9 w => ?_)
      obtain ⟨hz9, h9⟩ := h9
      have w := w.jn (L1 := [wSh G.2.1 (ad 1) S]) (L' := [wXo G.2.1 (ad 0) (xF ad) svx K, wSh G.2.1 (ad 1) S, wSb G.2.1 (ad 5) (va8, cp, (n7 + 1), mb1, f8)]) h9 3 [1, 0, 2] rfl rfl rfl
      rw [hz9]
      rcases hzc with zz | ⟨jj, hjj, zz⟩
      · refine lv_if_lt (tgt := 145) F.x F.b dX6_writeLot_132 (by decide) (fun _ => ?_) (fun c9 => absurd (by rw [zz]; decide) c9)
        refine lv_aload_n F.x F.b dX6_writeLot_145 rfl (lv_at hl 2 rfl) ?_
        refine rg F w cl6 0 rfl 4 (by decide) q264 rfl (v := .ref ((ad 5) 0)) rfl dX6_writeLot_146 ?_
        refine kXi F w hst (LC := [wSb G.2.1 (ad 5) (va8, cp, (n7 + 1), mb1, f8)]) (LR := [wXo G.2.1 (ad 0) (xF ad) svx K, wSh G.2.1 (ad 1) S]) (As := []) (rest := []) (t_J4_length_8abf5 F.1 (o := ad 5) (va := va8) (cp := cp) (n := (n7 + 1)) (mb := mb1) (f := f8)).toX m_J4_length_8abf5 v_J4_length_8abf5 q1250 (ci := 1) (q0 := 15) rfl rfl rfl 3 [2, 0, 1] rfl rfl rfl ⟨Nat.le_of_ble_eq_true rfl, Nat.le_of_ble_eq_true rfl⟩ rfl hl.1 rfl (Nat.le_of_ble_eq_true rfl) dX6_writeLot_149 ⟨Nat.le_of_ble_eq_true rfl, Nat.le_of_ble_eq_true rfl⟩ (fun _ _ _ _ _ _ hx => False.elim hx) (fun r9 w1 H locs h9 w => ?_)
        obtain ⟨rfl, h9⟩ := h9
        have w := w.jn (L1 := [wSb G.2.1 (ad 5) (va8, cp, (n7 + 1), mb1, f8)]) (L' := [wXo G.2.1 (ad 0) (xF ad) svx K, wSh G.2.1 (ad 1) S, wSb G.2.1 (ad 5) (va8, cp, (n7 + 1), mb1, f8)]) h9 3 [1, 2, 0] rfl rfl rfl
        have hL : lotTx k v1 v2 b (S.2 5 pp) (S.2 6 pp) z = [] ++ [k] ++ dgN v1 ++ [42] ++ dgN v2 ++ [64] ++ dgN b ++ [35] := by simp [lotTx, z5, z6, zz]
        have hTn : (n7 + 1) = _ := hT8.2.1
        exact eiX F w hr hlocks rfl ⟨(va8, cp, (n7 + 1), mb1, f8), by rw [hL, hTn], by rw [hL]; exact hT8, rfl⟩ (Nat.le_of_ble_eq_true rfl) (Nat.le_of_ble_eq_true rfl) dX6_writeLot_152
      · refine lv_if_lt (tgt := 145) F.x F.b dX6_writeLot_132 (by decide) (fun c9 => absurd c9 (by rw [zz]; exact Int32.not_lt.mpr (nI_pos' (n := jj) (by omega)))) (fun _ => ?_)
        have zz : ¬ z = -1 := by rw [zz]; exact nI_nm1 (by omega)
        refine lv_aload_n F.x F.b dX6_writeLot_135 rfl (lv_at hl 2 rfl) ?_
        refine rg F w cl6 0 rfl 4 (by decide) q264 rfl (v := .ref ((ad 5) 0)) rfl dX6_writeLot_136 ?_
        refine lv_bipush (v := 63) F.x F.b dX6_writeLot_139 (by decide) ?_
        refine kVr F w (LC := [wSb G.2.1 (ad 5) (va8, cp, (n7 + 1), mb1, f8)]) (LR := [wXo G.2.1 (ad 0) (xF ad) svx K, wSh G.2.1 (ad 1) S]) (As := [.int (nI 63)]) (rest := []) (t_J4_append_cf468 F.1 hSG pv hT8 (by omega : 63 < 128) (gm := 0) (gs := 0) (Or.inl ⟨by omega, rfl⟩)) m_J4_append_cf468 v_J4_append_cf468 (List.mem_of_getElem? (i := 1235) (by decide +kernel)) (ci := 1) (q0 := 15) rfl rfl rfl 3 [2, 0, 1] rfl rfl rfl ⟨Nat.le_of_ble_eq_true rfl, Nat.le_of_ble_eq_true rfl⟩ rfl hl.1 rfl (Nat.le_of_ble_eq_true rfl) dX6_writeLot_141 ⟨Nat.le_of_ble_eq_true rfl, Nat.le_of_ble_eq_true rfl⟩ (fun a9 w1 H locs h9 w => ?_)
        obtain ⟨rfl, va9, f9, h9, hT9⟩ := h9
        have w := w.jn (L1 := [wSb G.2.1 (ad 5) (va9, cp, ((n7 + 1) + 1), mb1, f9)]) (L' := [wXo G.2.1 (ad 0) (xF ad) svx K, wSh G.2.1 (ad 1) S, wSb G.2.1 (ad 5) (va9, cp, ((n7 + 1) + 1), mb1, f9)]) h9 3 [1, 2, 0] rfl rfl rfl
        refine lv_pop F.x F.b dX6_writeLot_144 rfl ?_
        refine lv_aload_n F.x F.b dX6_writeLot_145 rfl (lv_at hl 2 rfl) ?_
        refine rg F w cl6 0 rfl 4 (by decide) q264 rfl (v := .ref ((ad 5) 0)) rfl dX6_writeLot_146 ?_
        refine kXi F w hst (LC := [wSb G.2.1 (ad 5) (va9, cp, ((n7 + 1) + 1), mb1, f9)]) (LR := [wXo G.2.1 (ad 0) (xF ad) svx K, wSh G.2.1 (ad 1) S]) (As := []) (rest := []) (t_J4_length_8abf5 F.1 (o := ad 5) (va := va9) (cp := cp) (n := ((n7 + 1) + 1)) (mb := mb1) (f := f9)).toX m_J4_length_8abf5 v_J4_length_8abf5 q1250 (ci := 1) (q0 := 15) rfl rfl rfl 3 [2, 0, 1] rfl rfl rfl ⟨Nat.le_of_ble_eq_true rfl, Nat.le_of_ble_eq_true rfl⟩ rfl hl.1 rfl (Nat.le_of_ble_eq_true rfl) dX6_writeLot_149 ⟨Nat.le_of_ble_eq_true rfl, Nat.le_of_ble_eq_true rfl⟩ (fun _ _ _ _ _ _ hx => False.elim hx) (fun r9 w1 H locs h9 w => ?_)
        obtain ⟨rfl, h9⟩ := h9
        have w := w.jn (L1 := [wSb G.2.1 (ad 5) (va9, cp, ((n7 + 1) + 1), mb1, f9)]) (L' := [wXo G.2.1 (ad 0) (xF ad) svx K, wSh G.2.1 (ad 1) S, wSb G.2.1 (ad 5) (va9, cp, ((n7 + 1) + 1), mb1, f9)]) h9 3 [1, 2, 0] rfl rfl rfl
        have hL : lotTx k v1 v2 b (S.2 5 pp) (S.2 6 pp) z = [] ++ [k] ++ dgN v1 ++ [42] ++ dgN v2 ++ [64] ++ dgN b ++ [35] ++ [63] := by simp [lotTx, z5, z6, zz]
        have hTn : ((n7 + 1) + 1) = _ := hT9.2.1
        exact eiX F w hr hlocks rfl ⟨(va9, cp, ((n7 + 1) + 1), mb1, f9), by rw [hL, hTn], by rw [hL]; exact hT9, rfl⟩ (Nat.le_of_ble_eq_true rfl) (Nat.le_of_ble_eq_true rfl) dX6_writeLot_152
    · refine lv_if_eq (tgt := 121) F.x F.b dX6_writeLot_108 (by decide) (fun c9 => absurd c9 (by rw [z6]; decide)) (fun _ => ?_)
      refine lv_aload_n F.x F.b dX6_writeLot_111 rfl (lv_at hl 2 rfl) ?_
      refine rg F w cl6 0 rfl 4 (by decide) q264 rfl (v := .ref ((ad 5) 0)) rfl dX6_writeLot_112 ?_
      refine lv_bipush (v := 126) F.x F.b dX6_writeLot_115 (by decide) ?_
      refine kVr F w (LC := [wSb G.2.1 (ad 5) (va8, cp, (n7 + 1), mb1, f8)]) (LR := [wXo G.2.1 (ad 0) (xF ad) svx K, wSh G.2.1 (ad 1) S]) (As := [.int (nI 126)]) (rest := []) (t_J4_append_cf468 F.1 hSG pv hT8 (by omega : 126 < 128) (gm := 0) (gs := 0) (Or.inl ⟨by omega, rfl⟩)) m_J4_append_cf468 v_J4_append_cf468 (List.mem_of_getElem? (i := 1235) (by decide +kernel)) (ci := 1) (q0 := 15) rfl rfl rfl 3 [2, 0, 1] rfl rfl rfl ⟨Nat.le_of_ble_eq_true rfl, Nat.le_of_ble_eq_true rfl⟩ rfl hl.1 rfl (Nat.le_of_ble_eq_true rfl) dX6_writeLot_117 ⟨Nat.le_of_ble_eq_true rfl, Nat.le_of_ble_eq_true rfl⟩ (fun a9 w1 H locs h9 w => ?_)
      obtain ⟨rfl, va9, f9, h9, hT9⟩ := h9
      have w := w.jn (L1 := [wSb G.2.1 (ad 5) (va9, cp, ((n7 + 1) + 1), mb1, f9)]) (L' := [wXo G.2.1 (ad 0) (xF ad) svx K, wSh G.2.1 (ad 1) S, wSb G.2.1 (ad 5) (va9, cp, ((n7 + 1) + 1), mb1, f9)]) h9 3 [1, 2, 0] rfl rfl rfl
      refine lv_pop F.x F.b dX6_writeLot_120 rfl ?_
      refine lv_aload_n F.x F.b dX6_writeLot_121 rfl (lv_at hl 2 rfl) ?_
      refine rg F w cl6 0 rfl 0 (by decide) q260 rfl (v := .ref ((ad 1) 0)) rfl dX6_writeLot_122 ?_
      refine rgN F w cl4 1 rfl 2 (by decide) q151 rfl (v := .ref ((ad 1) 12)) rfl dX6_writeLot_125 ?_
      refine lv_iload_n F.x F.b dX6_writeLot_128 rfl (lv_at hl 3 rfl) ?_
      refine kXi F w hst (LC := [wSh G.2.1 (ad 1) S]) (LR := [wXo G.2.1 (ad 0) (xF ad) svx K, wSb G.2.1 (ad 5) (va9, cp, ((n7 + 1) + 1), mb1, f9)]) (As := [.int x1]) (rest := []) (t_X0_placeOf F.1 hz).toX m_X0_placeOf v_X0_placeOf q1249 (ci := 4) (q0 := 13) rfl rfl rfl 3 [1, 0, 2] rfl rfl rfl ⟨Nat.le_of_ble_eq_true rfl, Nat.le_of_ble_eq_true rfl⟩ rfl hl.1 rfl (Nat.le_of_ble_eq_true rfl) dX6_writeLot_129 ⟨Nat.le_of_ble_eq_true rfl, Nat.le_of_ble_eq_true rfl⟩ (fun _ _ _ _ _ _ hx => False.elim hx) (fun r9 w1 H locs h9 w => ?_)
      obtain ⟨hz9, h9⟩ := h9
      have w := w.jn (L1 := [wSh G.2.1 (ad 1) S]) (L' := [wXo G.2.1 (ad 0) (xF ad) svx K, wSh G.2.1 (ad 1) S, wSb G.2.1 (ad 5) (va9, cp, ((n7 + 1) + 1), mb1, f9)]) h9 3 [1, 0, 2] rfl rfl rfl
      rw [hz9]
      rcases hzc with zz | ⟨jj, hjj, zz⟩
      · refine lv_if_lt (tgt := 145) F.x F.b dX6_writeLot_132 (by decide) (fun _ => ?_) (fun c9 => absurd (by rw [zz]; decide) c9)
        refine lv_aload_n F.x F.b dX6_writeLot_145 rfl (lv_at hl 2 rfl) ?_
        refine rg F w cl6 0 rfl 4 (by decide) q264 rfl (v := .ref ((ad 5) 0)) rfl dX6_writeLot_146 ?_
        refine kXi F w hst (LC := [wSb G.2.1 (ad 5) (va9, cp, ((n7 + 1) + 1), mb1, f9)]) (LR := [wXo G.2.1 (ad 0) (xF ad) svx K, wSh G.2.1 (ad 1) S]) (As := []) (rest := []) (t_J4_length_8abf5 F.1 (o := ad 5) (va := va9) (cp := cp) (n := ((n7 + 1) + 1)) (mb := mb1) (f := f9)).toX m_J4_length_8abf5 v_J4_length_8abf5 q1250 (ci := 1) (q0 := 15) rfl rfl rfl 3 [2, 0, 1] rfl rfl rfl ⟨Nat.le_of_ble_eq_true rfl, Nat.le_of_ble_eq_true rfl⟩ rfl hl.1 rfl (Nat.le_of_ble_eq_true rfl) dX6_writeLot_149 ⟨Nat.le_of_ble_eq_true rfl, Nat.le_of_ble_eq_true rfl⟩ (fun _ _ _ _ _ _ hx => False.elim hx) (fun r9 w1 H locs h9 w => ?_)
        obtain ⟨rfl, h9⟩ := h9
        have w := w.jn (L1 := [wSb G.2.1 (ad 5) (va9, cp, ((n7 + 1) + 1), mb1, f9)]) (L' := [wXo G.2.1 (ad 0) (xF ad) svx K, wSh G.2.1 (ad 1) S, wSb G.2.1 (ad 5) (va9, cp, ((n7 + 1) + 1), mb1, f9)]) h9 3 [1, 2, 0] rfl rfl rfl
        have hL : lotTx k v1 v2 b (S.2 5 pp) (S.2 6 pp) z = [] ++ [k] ++ dgN v1 ++ [42] ++ dgN v2 ++ [64] ++ dgN b ++ [35] ++ [126] := by simp [lotTx, z5, z6, zz]
        have hTn : ((n7 + 1) + 1) = _ := hT9.2.1
        exact eiX F w hr hlocks rfl ⟨(va9, cp, ((n7 + 1) + 1), mb1, f9), by rw [hL, hTn], by rw [hL]; exact hT9, rfl⟩ (Nat.le_of_ble_eq_true rfl) (Nat.le_of_ble_eq_true rfl) dX6_writeLot_152
      · refine lv_if_lt (tgt := 145) F.x F.b dX6_writeLot_132 (by decide) (fun c9 => absurd c9 (by rw [zz]; exact Int32.not_lt.mpr (nI_pos' (n := jj) (by omega)))) (fun _ => ?_)
        have zz : ¬ z = -1 := by rw [zz]; exact nI_nm1 (by omega)
        refine lv_aload_n F.x F.b dX6_writeLot_135 rfl (lv_at hl 2 rfl) ?_
        refine rg F w cl6 0 rfl 4 (by decide) q264 rfl (v := .ref ((ad 5) 0)) rfl dX6_writeLot_136 ?_
        refine lv_bipush (v := 63) F.x F.b dX6_writeLot_139 (by decide) ?_
        refine kVr F w (LC := [wSb G.2.1 (ad 5) (va9, cp, ((n7 + 1) + 1), mb1, f9)]) (LR := [wXo G.2.1 (ad 0) (xF ad) svx K, wSh G.2.1 (ad 1) S]) (As := [.int (nI 63)]) (rest := []) (t_J4_append_cf468 F.1 hSG pv hT9 (by omega : 63 < 128) (gm := 0) (gs := 0) (Or.inl ⟨by omega, rfl⟩)) m_J4_append_cf468 v_J4_append_cf468 (List.mem_of_getElem? (i := 1235) (by decide +kernel)) (ci := 1) (q0 := 15) rfl rfl rfl 3 [2, 0, 1] rfl rfl rfl ⟨Nat.le_of_ble_eq_true rfl, Nat.le_of_ble_eq_true rfl⟩ rfl hl.1 rfl (Nat.le_of_ble_eq_true rfl) dX6_writeLot_141 ⟨Nat.le_of_ble_eq_true rfl, Nat.le_of_ble_eq_true rfl⟩ (fun a9 w1 H locs h9 w => ?_)
        obtain ⟨rfl, va10, f10, h9, hT10⟩ := h9
        have w := w.jn (L1 := [wSb G.2.1 (ad 5) (va10, cp, (((n7 + 1) + 1) + 1), mb1, f10)]) (L' := [wXo G.2.1 (ad 0) (xF ad) svx K, wSh G.2.1 (ad 1) S, wSb G.2.1 (ad 5) (va10, cp, (((n7 + 1) + 1) + 1), mb1, f10)]) h9 3 [1, 2, 0] rfl rfl rfl
        refine lv_pop F.x F.b dX6_writeLot_144 rfl ?_
        refine lv_aload_n F.x F.b dX6_writeLot_145 rfl (lv_at hl 2 rfl) ?_
        refine rg F w cl6 0 rfl 4 (by decide) q264 rfl (v := .ref ((ad 5) 0)) rfl dX6_writeLot_146 ?_
        refine kXi F w hst (LC := [wSb G.2.1 (ad 5) (va10, cp, (((n7 + 1) + 1) + 1), mb1, f10)]) (LR := [wXo G.2.1 (ad 0) (xF ad) svx K, wSh G.2.1 (ad 1) S]) (As := []) (rest := []) (t_J4_length_8abf5 F.1 (o := ad 5) (va := va10) (cp := cp) (n := (((n7 + 1) + 1) + 1)) (mb := mb1) (f := f10)).toX m_J4_length_8abf5 v_J4_length_8abf5 q1250 (ci := 1) (q0 := 15) rfl rfl rfl 3 [2, 0, 1] rfl rfl rfl ⟨Nat.le_of_ble_eq_true rfl, Nat.le_of_ble_eq_true rfl⟩ rfl hl.1 rfl (Nat.le_of_ble_eq_true rfl) dX6_writeLot_149 ⟨Nat.le_of_ble_eq_true rfl, Nat.le_of_ble_eq_true rfl⟩ (fun _ _ _ _ _ _ hx => False.elim hx) (fun r9 w1 H locs h9 w => ?_)
        obtain ⟨rfl, h9⟩ := h9
        have w := w.jn (L1 := [wSb G.2.1 (ad 5) (va10, cp, (((n7 + 1) + 1) + 1), mb1, f10)]) (L' := [wXo G.2.1 (ad 0) (xF ad) svx K, wSh G.2.1 (ad 1) S, wSb G.2.1 (ad 5) (va10, cp, (((n7 + 1) + 1) + 1), mb1, f10)]) h9 3 [1, 2, 0] rfl rfl rfl
        have hL : lotTx k v1 v2 b (S.2 5 pp) (S.2 6 pp) z = [] ++ [k] ++ dgN v1 ++ [42] ++ dgN v2 ++ [64] ++ dgN b ++ [35] ++ [126] ++ [63] := by simp [lotTx, z5, z6, zz]
        have hTn : (((n7 + 1) + 1) + 1) = _ := hT10.2.1
        exact eiX F w hr hlocks rfl ⟨(va10, cp, (((n7 + 1) + 1) + 1), mb1, f10), by rw [hL, hTn], by rw [hL]; exact hT10, rfl⟩ (Nat.le_of_ble_eq_true rfl) (Nat.le_of_ble_eq_true rfl) dX6_writeLot_152
set_option maxRecDepth 100000 in
set_option maxHeartbeats 4000000 in
theorem k_outputCharacter_ok {G : cG} (g : GOK G) {ks kv : Nat → Nat} (hSG : SG G ks kv) {ad : Nat → Nat → Nat} {svx : Value} {K : Mem} {i ch : Nat} {ou : oB} {L : List Nat} (hT : Tx ou L) (hLi : L[i]? = some ch) : CX G yX6_outputCharacter cX6_outputCharacter 2 .char 4 88 0 0 [.ref ((ad 0) 0), .int (nI i)] (fl [wXo G.2.1 (ad 0) (xF ad) svx K, wSb G.2.1 (ad 5) ou]) (fun r9 w1 => r9 = nI ch ∧ w1 = fl [wXo G.2.1 (ad 0) (xF ad) svx K, wSb G.2.1 (ad 5) ou]) (fun _ _ => False) := by
  obtain ⟨va, cp, n, mb, f⟩ := ou
  have hc35 : cp < 35 := by rcases hT.1 with e | e <;> (have e : cp = _ := e; omega)
  have hn9 : n = L.length := hT.2.1
  have hnc : n ≤ cp := by rw [hn9]; exact hT.2.2.1
  have hiL : i < L.length := (List.getElem?_eq_some_iff.mp hLi).1
  have hi : i < n := by omega
  obtain ⟨ch', hch, h2, hfi⟩ := hT.2.2.2 i hiL
  obtain rfl := Option.some.inj (hLi.symm.trans h2)
  have hfi : f i = nI ch := hfi
  refine CX.of g (by decide) rfl (Nat.le_of_ble_eq_true rfl) ?_
  intro p l e s m below meth c A ls hst htab F hr hlocks w hl
  generalize ([.ref ((ad 0) 0), .int (nI i)] : List Value).toArray = args
  have hl : lv_has ls 2 [(0, .ref ((ad 0) 0)), (1, .int (nI i))] := hl
  have w : Wd G A s.heap (fl [wXo G.2.1 (ad 0) (xF ad) svx K, wSb G.2.1 (ad 5) (va, cp, n, mb, f)]) _ _ := w
  refine lv_iload_n F.x F.b dX6_outputCharacter_0 rfl (lv_at hl 1 rfl) ?_
  refine lv_aload_n F.x F.b dX6_outputCharacter_1 rfl (lv_at hl 0 rfl) ?_
  refine rg F w cl6 0 rfl 4 (by decide) q264 rfl (v := .ref ((ad 5) 0)) rfl dX6_outputCharacter_2 ?_
  refine kXi F w hst (LC := [wSb G.2.1 (ad 5) (va, cp, n, mb, f)]) (LR := [wXo G.2.1 (ad 0) (xF ad) svx K]) (As := []) (rest := [.int (nI i)]) (t_J4_length_8abf5 F.1 (o := ad 5) (va := va) (cp := cp) (n := n) (mb := mb) (f := f)).toX m_J4_length_8abf5 v_J4_length_8abf5 q1250 (ci := 1) (q0 := 1) rfl rfl rfl 2 [1, 0] rfl rfl rfl ⟨Nat.le_of_ble_eq_true rfl, Nat.le_of_ble_eq_true rfl⟩ rfl hl.1 rfl (Nat.le_of_ble_eq_true rfl) dX6_outputCharacter_5 ⟨Nat.le_of_ble_eq_true rfl, Nat.le_of_ble_eq_true rfl⟩ (fun _ _ _ _ _ _ hx => False.elim hx) (fun r9 w1 H locs h9 w => ?_)
  obtain ⟨rfl, h9⟩ := h9
  have w := w.jn (L1 := [wSb G.2.1 (ad 5) (va, cp, n, mb, f)]) (L' := [wXo G.2.1 (ad 0) (xF ad) svx K, wSb G.2.1 (ad 5) (va, cp, n, mb, f)]) h9 2 [1, 0] rfl rfl rfl
  refine kXSv F w hst (As := [.int (nI i), .int (nI n)]) (rest := []) (t_X6_checkIndex_ok F.1 (fun q => q.elim (nI_pos (n := i) (by omega)) (nI_ge hi (by omega)))) m_X6_checkIndex v_X6_checkIndex q447 ⟨Nat.le_of_ble_eq_true rfl, Nat.le_of_ble_eq_true rfl⟩ rfl hl.1 rfl (Nat.le_of_ble_eq_true rfl) dX6_outputCharacter_8 ⟨Nat.le_of_ble_eq_true rfl, Nat.le_of_ble_eq_true rfl⟩ (fun _ _ _ _ _ _ hx => False.elim hx) (fun w1 H locs h9 w => ?_)
  obtain rfl := h9
  have w : Wd G A s.heap (fl [wXo G.2.1 (ad 0) (xF ad) svx K, wSb G.2.1 (ad 5) (va, cp, n, mb, f)]) _ _ := w
  refine lv_aload_n F.x F.b dX6_outputCharacter_11 rfl (lv_at hl 0 rfl) ?_
  refine rg F w cl6 0 rfl 4 (by decide) q264 rfl (v := .ref ((ad 5) 0)) rfl dX6_outputCharacter_12 ?_
  refine lv_iload_n F.x F.b dX6_outputCharacter_15 rfl (lv_at hl 1 rfl) ?_
  refine kXi F w hst (LC := [wSb G.2.1 (ad 5) (va, cp, n, mb, f)]) (LR := [wXo G.2.1 (ad 0) (xF ad) svx K]) (As := [.int (nI i)]) (rest := []) (t_J4_charAt_5068e F.1 (o := ad 5) (va := va) (cp := cp) (n := n) (mb := mb) (f := f) hSG hi hnc hc35 hch hfi).toX m_J4_charAt_5068e v_J4_charAt_5068e q1258 (ci := 1) (q0 := 1) rfl rfl rfl 2 [1, 0] rfl rfl rfl ⟨Nat.le_of_ble_eq_true rfl, Nat.le_of_ble_eq_true rfl⟩ rfl hl.1 rfl (Nat.le_of_ble_eq_true rfl) dX6_outputCharacter_16 ⟨Nat.le_of_ble_eq_true rfl, Nat.le_of_ble_eq_true rfl⟩ (fun _ _ _ _ _ _ hx => False.elim hx) (fun r9 w1 H locs h9 w => ?_)
  obtain ⟨rfl, h9⟩ := h9
  have w := w.jn (L1 := [wSb G.2.1 (ad 5) (va, cp, n, mb, f)]) (L' := [wXo G.2.1 (ad 0) (xF ad) svx K, wSb G.2.1 (ad 5) (va, cp, n, mb, f)]) h9 2 [1, 0] rfl rfl rfl
  exact eiX F w hr hlocks (ch_nar ch hch).2.2.2.2 ⟨rfl, rfl⟩ (Nat.le_of_ble_eq_true rfl) (Nat.le_of_ble_eq_true rfl) dX6_outputCharacter_19

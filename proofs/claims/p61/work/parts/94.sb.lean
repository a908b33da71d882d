/-! printed by wip/p61/tools/gen94.py: the text builder, its room -/
theorem q245 : Cond.fieldLink RJ5 15 "java/lang/AbstractStringBuilder" "value" "[B" ∈ lw_tbl := List.mem_of_getElem? (i := 245) (by decide +kernel)
theorem q246 : Cond.fieldLink RJ5 22 "java/lang/AbstractStringBuilder" "coder" "B" ∈ lw_tbl := List.mem_of_getElem? (i := 246) (by decide +kernel)
theorem q249 : Cond.fieldLink RJ5 79 "java/lang/AbstractStringBuilder" "count" "I" ∈ lw_tbl := List.mem_of_getElem? (i := 249) (by decide +kernel)
theorem m_J9_max_7cf53 : YM yJ9_max_7cf53 cJ9_max_7cf53 2 (some (.int)) 2 := ⟨⟨List.mem_of_getElem? (i := 348) (by decide +kernel), by decide +kernel⟩, List.mem_of_getElem? (i := 34) (by decide +kernel), ⟨by decide, by decide⟩, by decide +kernel⟩
theorem v_J9_max_7cf53 : YS yJ9_max_7cf53 := (List.mem_of_getElem? (i := 347) (by decide +kernel))
theorem m_J8_newLength_cabcc : YM yJ8_newLength_cabcc cJ8_newLength_cabcc 4 (some (.int)) 3 := ⟨⟨List.mem_of_getElem? (i := 816) (by decide +kernel), by decide +kernel⟩, List.mem_of_getElem? (i := 33) (by decide +kernel), ⟨by decide, by decide⟩, by decide +kernel⟩
theorem v_J8_newLength_cabcc : YS yJ8_newLength_cabcc := (List.mem_of_getElem? (i := 815) (by decide +kernel))
theorem m_J9_min_7cf53 : YM yJ9_min_7cf53 cJ9_min_7cf53 2 (some (.int)) 2 := ⟨⟨List.mem_of_getElem? (i := 345) (by decide +kernel), by decide +kernel⟩, List.mem_of_getElem? (i := 34) (by decide +kernel), ⟨by decide, by decide⟩, by decide +kernel⟩
theorem v_J9_min_7cf53 : YS yJ9_min_7cf53 := (List.mem_of_getElem? (i := 344) (by decide +kernel))
theorem m_J5_newCapacity_0f7a4 : YM yJ5_newCapacity_0f7a4 cJ5_newCapacity_0f7a4 6 (some (.int)) 1 := ⟨⟨List.mem_of_getElem? (i := 813) (by decide +kernel), by decide +kernel⟩, List.mem_of_getElem? (i := 22) (by decide +kernel), ⟨by decide, by decide⟩, by decide +kernel⟩
theorem m_J7_copyOf_9075b : YM yJ7_copyOf_9075b cJ7_copyOf_9075b 3 (some (.array .byte)) 2 := ⟨⟨List.mem_of_getElem? (i := 825) (by decide +kernel), by decide +kernel⟩, List.mem_of_getElem? (i := 35) (by decide +kernel), ⟨by decide, by decide⟩, by decide +kernel⟩
theorem v_J7_copyOf_9075b : YS yJ7_copyOf_9075b := (List.mem_of_getElem? (i := 824) (by decide +kernel))
theorem ch_le : ∀ {ch : Nat}, ch < 128 → nI ch ≤ 255 := by
  intro ch h
  have : ∀ c < 128, nI c ≤ 255 := by decide +kernel
  exact this ch h
theorem ch_fits : ∀ ch < 128, fits .byte (.int (nI ch)) = true := by decide +kernel
theorem ch_nar : ∀ ch < 128, vp_nar .byte (nI ch) = nI ch ∧ (nI ch).toInt8.toInt32 = nI ch ∧ nI ch &&& 255 = nI ch ∧ ((nI ch).toUInt32 % 65536).toInt32 = nI ch ∧ narrow .char (.int (nI ch)) = .int (nI ch) := by decide +kernel
theorem sb_le {a b : Nat} (hb : b < 35) (h : a ≤ b) : nI a - nI b ≤ 0 := by
  have : ∀ b < 35, ∀ a < 35, a ≤ b → nI a - nI b ≤ 0 := by decide +kernel
  exact this b hb a (by omega) h
set_option maxRecDepth 100000 in
set_option maxHeartbeats 4000000 in
theorem t_J5_isLatin1_aae02 {G : cG} (g : GOK G) {o : Nat → Nat} {va cp n : Nat} {mb : Int32} {f : Nat → Int32} {ks kv : Nat → Nat} (hSG : SG G ks kv) : CI G yJ5_isLatin1_aae02 cJ5_isLatin1_aae02 1 .boolean 0 0 [.ref (o 0)] (fl [wSb G.2.1 o (va, cp, n, mb, f)]) (fl [wSb G.2.1 o (va, cp, n, mb, f)]) 1 := by
  refine CI.of g (by decide) rfl (Nat.le_of_ble_eq_true rfl) ?_
  intro p l e s m below meth c A ls F hr hlocks w hl
  generalize ([.ref (o 0)] : List Value).toArray = args
  have hl : lv_has ls 1 [(0, .ref (o 0))] := hl
  have w : Wd G A s.heap (fl [wSb G.2.1 o (va, cp, n, mb, f)]) _ _ := w
  have w : Wd G A s.heap (fl [[((o 0), .inr (1, [.ref va, .int 0, .int mb, .int (nI n)]))], [(va, .inl (G.2.1 3, cp, .inl f))]]) _ _ := w
  refine va_gets F.x F.b (F.cs hSG) w.2.2 F.o (F.t _ (List.mem_of_getElem? (i := 236) (by decide +kernel)) rfl _) (fun _ h => h) dJ5_isLatin1_aae02_0 ?_
  refine lv_if_eq (tgt := 17) F.x F.b dJ5_isLatin1_aae02_3 (by decide) (fun c9 => absurd c9 (by decide)) (fun _ => ?_)
  refine lv_aload_n F.x F.b dJ5_isLatin1_aae02_6 rfl (lv_at hl 0 rfl) ?_
  refine rg F w clB 0 rfl 1 (by decide) q246 rfl (v := .int 0) rfl dJ5_isLatin1_aae02_7 ?_
  refine lv_if_ne (tgt := 17) F.x F.b dJ5_isLatin1_aae02_10 (by decide) (fun c9 => absurd (by decide) c9) (fun _ => ?_)
  refine lv_iconst (v := 1) F.x F.b dJ5_isLatin1_aae02_13 (by decide) ?_
  refine lv_goto (tgt := 18) F.x F.b dJ5_isLatin1_aae02_14 (by decide) ?_
  exact ei F w hr hlocks rfl rfl rfl dJ5_isLatin1_aae02_18
set_option maxRecDepth 100000 in
set_option maxHeartbeats 4000000 in
theorem t_J5_length_8abf5 {G : cG} (g : GOK G) {o : Nat → Nat} {va cp n : Nat} {mb : Int32} {f : Nat → Int32} : CI G yJ5_length_8abf5 cJ5_length_8abf5 1 .int 0 0 [.ref (o 0)] (fl [wSb G.2.1 o (va, cp, n, mb, f)]) (fl [wSb G.2.1 o (va, cp, n, mb, f)]) (nI n) := by
  refine CI.of g (by decide) rfl (Nat.le_of_ble_eq_true rfl) ?_
  intro p l e s m below meth c A ls F hr hlocks w hl
  generalize ([.ref (o 0)] : List Value).toArray = args
  have hl : lv_has ls 1 [(0, .ref (o 0))] := hl
  have w : Wd G A s.heap (fl [wSb G.2.1 o (va, cp, n, mb, f)]) _ _ := w
  have w : Wd G A s.heap (fl [[((o 0), .inr (1, [.ref va, .int 0, .int mb, .int (nI n)]))], [(va, .inl (G.2.1 3, cp, .inl f))]]) _ _ := w
  refine lv_aload_n F.x F.b dJ5_length_8abf5_0 rfl (lv_at hl 0 rfl) ?_
  refine rg F w clB 0 rfl 3 (by decide) q249 rfl (v := .int (nI n)) rfl dJ5_length_8abf5_1 ?_
  exact ei F w hr hlocks rfl rfl rfl dJ5_length_8abf5_4
set_option maxRecDepth 100000 in
set_option maxHeartbeats 4000000 in
theorem t_J1_canEncode_fc78d {G : cG} (g : GOK G) {ch : Nat} (hch : ch < 128) : CI G yJ1_canEncode_fc78d cJ1_canEncode_fc78d 1 .boolean 0 0 [.int (nI ch)] [] [] 1 := by
  refine CI.of g (by decide) rfl (Nat.le_of_ble_eq_true rfl) ?_
  intro p l e s m below meth c A ls F hr hlocks w hl
  generalize ([.int (nI ch)] : List Value).toArray = args
  have hl : lv_has ls 1 [(0, .int (nI ch))] := hl
  have w : Wd G A s.heap ([]) _ _ := w
  refine lv_iload_n F.x F.b dJ1_canEncode_fc78d_0 rfl (lv_at hl 0 rfl) ?_
  refine lv_sipush (v := 255) F.x F.b dJ1_canEncode_fc78d_1 (by decide) ?_
  refine lv_icmp_gt (tgt := 11) F.x F.b dJ1_canEncode_fc78d_4 (by decide) (fun c9 => absurd c9 (Int32.not_lt.mpr (ch_le hch))) (fun _ => ?_)
  refine lv_iconst (v := 1) F.x F.b dJ1_canEncode_fc78d_7 (by decide) ?_
  refine lv_goto (tgt := 12) F.x F.b dJ1_canEncode_fc78d_8 (by decide) ?_
  exact ei F w hr hlocks rfl rfl rfl dJ1_canEncode_fc78d_12
set_option maxRecDepth 100000 in
set_option maxHeartbeats 4000000 in
theorem t_J8_newLength_cabcc {G : cG} (g : GOK G) : CI G yJ8_newLength_cabcc cJ8_newLength_cabcc 4 .int 1 14 [.int 16, .int 1, .int 18] [] [] 34 := by
  refine CI.of g (by decide) rfl (Nat.le_of_ble_eq_true rfl) ?_
  intro p l e s m below meth c A ls F hr hlocks w hl
  generalize ([.int 16, .int 1, .int 18] : List Value).toArray = args
  have hl : lv_has ls 4 [(0, .int 16), (1, .int 1), (2, .int 18)] := hl
  have w : Wd G A s.heap ([]) _ _ := w
  refine lv_iload_n F.x F.b dJ8_newLength_cabcc_0 rfl (lv_at hl 0 rfl) ?_
  refine lv_iload_n F.x F.b dJ8_newLength_cabcc_1 rfl (lv_at hl 1 rfl) ?_
  refine lv_iload_n F.x F.b dJ8_newLength_cabcc_2 rfl (lv_at hl 2 rfl) ?_
  refine va_mmax F.x F.b (F.ml.trans hl.1.symm) F.o (F.t _ (List.mem_of_getElem? (i := 817) (by decide +kernel)) rfl _) (F.t _ (List.mem_of_getElem? (i := 347) (by decide +kernel)) rfl _) (F.t _ (List.mem_of_getElem? (i := 34) (by decide +kernel)) rfl _) (F.t _ (List.mem_of_getElem? (i := 348) (by decide +kernel)) rfl _) (by decide) (Nat.le_of_ble_eq_true rfl) (Nat.le_of_ble_eq_true rfl) (Nat.le_of_ble_eq_true rfl) dJ8_newLength_cabcc_3 ?_
  rw [show (if (1 : Int32) < 18 then 18 else 1 : Int32) = 18 from (by decide)]
  refine lv_iadd F.x F.b dJ8_newLength_cabcc_6 ?_
  rw [show ((16 + 18) : Int32) = 34 from (by decide)]
  refine lv_istore_n (lv' := [(3, .int 34), (0, .int 16), (1, .int 1), (2, .int 18)]) F.x F.b dJ8_newLength_cabcc_7 rfl hl (by decide) rfl (fun ls hl => ?_)
  refine lv_iconst (v := 0) F.x F.b dJ8_newLength_cabcc_8 (by decide) ?_
  refine lv_iload_n F.x F.b dJ8_newLength_cabcc_9 rfl (lv_at hl 0 rfl) ?_
  refine lv_icmp_ge (tgt := 21) F.x F.b dJ8_newLength_cabcc_10 (by decide) (fun c9 => absurd c9 (by decide)) (fun _ => ?_)
  refine lv_iload_n F.x F.b dJ8_newLength_cabcc_13 rfl (lv_at hl 0 rfl) ?_
  refine lv_ldc F.x F.b (v := 2147483639) F.o (F.t _ (List.mem_of_getElem? (i := 818) (by decide +kernel)) rfl _) dJ8_newLength_cabcc_14 ?_
  refine lv_icmp_gt (tgt := 21) F.x F.b dJ8_newLength_cabcc_16 (by decide) (fun c9 => absurd c9 (by decide)) (fun _ => ?_)
  refine lv_iload_n F.x F.b dJ8_newLength_cabcc_19 rfl (lv_at hl 0 rfl) ?_
  exact ei F w hr hlocks rfl rfl rfl dJ8_newLength_cabcc_20
set_option maxRecDepth 100000 in
set_option maxHeartbeats 4000000 in
theorem t_J5_newCapacity_0f7a4 {G : cG} (g : GOK G) {o : Nat → Nat} {va n : Nat} {mb : Int32} {f : Nat → Int32} : CI G yJ5_newCapacity_0f7a4 cJ5_newCapacity_0f7a4 6 .int 2 37 [.ref (o 0), .int (nI 17)] (fl [wSb G.2.1 o (va, 16, n, mb, f)]) (fl [wSb G.2.1 o (va, 16, n, mb, f)]) 34 := by
  refine CI.of g (by decide) rfl (Nat.le_of_ble_eq_true rfl) ?_
  intro p l e s m below meth c A ls F hr hlocks w hl
  generalize ([.ref (o 0), .int (nI 17)] : List Value).toArray = args
  have hl : lv_has ls 6 [(0, .ref (o 0)), (1, .int (nI 17))] := hl
  have w : Wd G A s.heap (fl [wSb G.2.1 o (va, 16, n, mb, f)]) _ _ := w
  have w : Wd G A s.heap (fl [[((o 0), .inr (1, [.ref va, .int 0, .int mb, .int (nI n)]))], [(va, .inl (G.2.1 3, 16, .inl f))]]) _ _ := w
  refine lv_aload_n F.x F.b dJ5_newCapacity_0f7a4_0 rfl (lv_at hl 0 rfl) ?_
  refine rg F w clB 0 rfl 0 (by decide) q245 rfl (v := .ref va) rfl dJ5_newCapacity_0f7a4_1 ?_
  refine rl F w 1 3 rfl rfl (v := 16) rfl dJ5_newCapacity_0f7a4_4 ?_
  refine lv_istore_n (lv' := [(2, .int 16), (0, .ref (o 0)), (1, .int (nI 17))]) F.x F.b dJ5_newCapacity_0f7a4_5 rfl hl (by decide) rfl (fun ls hl => ?_)
  refine lv_iload_n F.x F.b dJ5_newCapacity_0f7a4_6 rfl (lv_at hl 2 rfl) ?_
  refine lv_aload_n F.x F.b dJ5_newCapacity_0f7a4_7 rfl (lv_at hl 1 rfl) ?_
  refine rg F w clB 0 rfl 1 (by decide) q246 rfl (v := .int 0) rfl dJ5_newCapacity_0f7a4_8 ?_
  refine lv_ishl F.x F.b dJ5_newCapacity_0f7a4_11 ?_
  rw [sb_shl0]
  refine lv_istore_n (lv' := [(3, .int (nI 17)), (2, .int 16), (0, .ref (o 0)), (1, .int (nI 17))]) F.x F.b dJ5_newCapacity_0f7a4_12 rfl hl (by decide) rfl (fun ls hl => ?_)
  refine lv_iload_n F.x F.b dJ5_newCapacity_0f7a4_13 rfl (lv_at hl 0 rfl) ?_
  refine lv_iload_n F.x F.b dJ5_newCapacity_0f7a4_14 rfl (lv_at hl 1 rfl) ?_
  refine lv_isub F.x F.b dJ5_newCapacity_0f7a4_15 ?_
  rw [show (((nI 17) - 16) : Int32) = 1 from (by decide)]
  refine lv_istore (lv' := [(4, .int 1), (3, .int (nI 17)), (2, .int 16), (0, .ref (o 0)), (1, .int (nI 17))]) F.x F.b dJ5_newCapacity_0f7a4_16 hl (by decide) rfl (fun ls hl => ?_)
  refine lv_iload_n F.x F.b dJ5_newCapacity_0f7a4_18 rfl (lv_at hl 2 rfl) ?_
  refine lv_iload F.x F.b dJ5_newCapacity_0f7a4_19 (lv_at hl 0 rfl) ?_
  refine lv_iload_n F.x F.b dJ5_newCapacity_0f7a4_21 rfl (lv_at hl 2 rfl) ?_
  refine lv_iconst (v := 2) F.x F.b dJ5_newCapacity_0f7a4_22 (by decide) ?_
  refine lv_aload_n F.x F.b dJ5_newCapacity_0f7a4_23 rfl (lv_at hl 3 rfl) ?_
  refine rg F w clB 0 rfl 1 (by decide) q246 rfl (v := .int 0) rfl dJ5_newCapacity_0f7a4_24 ?_
  refine lv_ishl F.x F.b dJ5_newCapacity_0f7a4_27 ?_
  rw [sb_shl0]
  refine lv_iadd F.x F.b dJ5_newCapacity_0f7a4_28 ?_
  rw [show ((16 + 2) : Int32) = 18 from (by decide)]
  refine kSBi F w (LC := []) (LR := [[((o 0), .inr (1, [.ref va, .int 0, .int mb, .int (nI n)]))], [(va, .inl (G.2.1 3, 16, .inl f))]]) (As := [.int 16, .int 1, .int 18]) (rest := []) (t_J8_newLength_cabcc F.1) m_J8_newLength_cabcc v_J8_newLength_cabcc (List.mem_of_getElem? (i := 814) (by decide +kernel)) 2 [0, 1] rfl rfl rfl ⟨Nat.le_of_ble_eq_true rfl, Nat.le_of_ble_eq_true rfl⟩ rfl hl.1 rfl (Nat.le_of_ble_eq_true rfl) dJ5_newCapacity_0f7a4_29 ⟨Nat.le_of_ble_eq_true rfl, Nat.le_of_ble_eq_true rfl⟩ (fun H locs w => ?_)
  have w : Wd G A s.heap (fl [[((o 0), .inr (1, [.ref va, .int 0, .int mb, .int (nI n)]))], [(va, .inl (G.2.1 3, 16, .inl f))]]) _ _ := w
  refine lv_istore (lv' := [(5, .int 34), (4, .int 1), (3, .int (nI 17)), (2, .int 16), (0, .ref (o 0)), (1, .int (nI 17))]) F.x F.b dJ5_newCapacity_0f7a4_32 hl (by decide) rfl (fun ls hl => ?_)
  refine lv_iload F.x F.b dJ5_newCapacity_0f7a4_34 (lv_at hl 0 rfl) ?_
  refine lv_ldc F.x F.b (v := 2147483647) F.o (F.t _ (List.mem_of_getElem? (i := 822) (by decide +kernel)) rfl _) dJ5_newCapacity_0f7a4_36 ?_
  refine lv_icmp_ne (tgt := 51) F.x F.b dJ5_newCapacity_0f7a4_38 (by decide) (fun _ => ?_) (fun c9 => absurd c9 (by decide))
  refine lv_iload F.x F.b dJ5_newCapacity_0f7a4_51 (lv_at hl 0 rfl) ?_
  refine lv_aload_n F.x F.b dJ5_newCapacity_0f7a4_53 rfl (lv_at hl 4 rfl) ?_
  refine rg F w clB 0 rfl 1 (by decide) q246 rfl (v := .int 0) rfl dJ5_newCapacity_0f7a4_54 ?_
  refine lv_ishr F.x F.b dJ5_newCapacity_0f7a4_57 ?_
  rw [sb_shr0]
  exact ei F w hr hlocks rfl rfl rfl dJ5_newCapacity_0f7a4_58
set_option maxRecDepth 100000 in
set_option maxHeartbeats 4000000 in
theorem t_J7_copyOf_9075b {G : cG} (g : GOK G) {va : Nat} {f : Nat → Int32} (hf : ∀ i, i < 16 → ∃ ch, ch < 128 ∧ f i = nI ch) : CRm G yJ7_copyOf_9075b cJ7_copyOf_9075b 3 (.array .byte) 1 60 1 34 [.ref va, .int 34] (fl [[(va, .inl (G.2.1 3, 16, .inl f))]]) (fun a9 w' => ∃ f', w' = fl [[(va, .inl (G.2.1 3, 16, .inl f))], [(a9, .inl (G.2.1 3, 34, .inl f'))]] ∧ ∀ i, i < 16 → f' i = f i) := by
  have hfit : ∀ i, i < Int32.toNatClampNeg 16 → fits .byte (.int (f (Int32.toNatClampNeg 0 + i))) = true := by
    intro i hi
    rw [sb_cl0, Nat.zero_add]
    obtain ⟨ch, h1, h2⟩ := hf i (by rw [show Int32.toNatClampNeg 16 = 16 by decide] at hi; exact hi)
    rw [h2]
    exact ch_fits ch h1
  refine CRm.of g (by decide) rfl (Nat.le_of_ble_eq_true rfl) ?_
  intro p l e s m below meth c A ls F hr hlocks w hl
  generalize ([.ref va, .int 34] : List Value).toArray = args
  have hl : lv_has ls 3 [(0, .ref va), (1, .int 34)] := hl
  have w : Wd G A s.heap (fl [[(va, .inl (G.2.1 3, 16, .inl f))]]) _ _ := w
  refine lv_iload_n F.x F.b dJ7_copyOf_9075b_0 rfl (lv_at hl 1 rfl) ?_
  refine lv_aload_n F.x F.b dJ7_copyOf_9075b_1 rfl (lv_at hl 0 rfl) ?_
  refine rl F w 0 3 rfl rfl (v := 16) rfl dJ7_copyOf_9075b_2 ?_
  refine lv_icmp_ne (tgt := 14) F.x F.b dJ7_copyOf_9075b_3 (by decide) (fun _ => ?_) (fun c9 => absurd c9 (by decide))
  refine lv_iload_n F.x F.b dJ7_copyOf_9075b_14 rfl (lv_at hl 1 rfl) ?_
  refine rnA F w (atype := .byte) (ty := .byte) 3 rfl (List.mem_of_getElem? (i := 259) (by decide +kernel)) (by decide +kernel) rfl (34, .inl (fun _ => 0)) (fun _ => rfl) (by decide) (N' := 34) (by decide) (Nat.le_of_ble_eq_true rfl) (Nat.le_of_ble_eq_true rfl) (Nat.le_of_ble_eq_true rfl) dJ7_copyOf_9075b_15 (fun z1 H w => ?_)
  have w : Wd G A s.heap (fl [[(va, .inl (G.2.1 3, 16, .inl f))], [(z1, .inl (G.2.1 3, 34, .inl (fun _ => 0)))]]) _ _ := w
  refine lv_astore_n (lv' := [(2, .ref z1), (0, .ref va), (1, .int 34)]) F.x F.b dJ7_copyOf_9075b_17 rfl hl (by decide) rfl (fun ls hl => ?_)
  refine lv_aload_n F.x F.b dJ7_copyOf_9075b_18 rfl (lv_at hl 1 rfl) ?_
  refine lv_iconst (v := 0) F.x F.b dJ7_copyOf_9075b_19 (by decide) ?_
  refine lv_aload_n F.x F.b dJ7_copyOf_9075b_20 rfl (lv_at hl 0 rfl) ?_
  refine lv_iconst (v := 0) F.x F.b dJ7_copyOf_9075b_21 (by decide) ?_
  refine lv_aload_n F.x F.b dJ7_copyOf_9075b_22 rfl (lv_at hl 1 rfl) ?_
  refine rl F w 0 3 rfl rfl (v := 16) rfl dJ7_copyOf_9075b_23 ?_
  refine lv_iload_n F.x F.b dJ7_copyOf_9075b_24 rfl (lv_at hl 2 rfl) ?_
  refine va_mmin F.x F.b (F.ml.trans hl.1.symm) F.o (F.t _ (List.mem_of_getElem? (i := 833) (by decide +kernel)) rfl _) (F.t _ (List.mem_of_getElem? (i := 344) (by decide +kernel)) rfl _) (F.t _ (List.mem_of_getElem? (i := 34) (by decide +kernel)) rfl _) (F.t _ (List.mem_of_getElem? (i := 345) (by decide +kernel)) rfl _) (by decide) (Nat.le_of_ble_eq_true rfl) (Nat.le_of_ble_eq_true rfl) (Nat.le_of_ble_eq_true rfl) dJ7_copyOf_9075b_25 ?_
  rw [show (if (34 : Int32) < 16 then 34 else 16 : Int32) = 16 from (by decide)]
  refine va_copyi F.x F.b (F.ml.trans hl.1.symm) F.o (F.t _ (List.mem_of_getElem? (i := 834) (by decide +kernel)) rfl _) (F.t _ (List.mem_of_getElem? (i := 836) (by decide +kernel)) rfl _) (F.t _ (List.mem_of_getElem? (i := 835) (by decide +kernel)) rfl _) (F.t _ (List.mem_of_getElem? (i := 36) (by decide +kernel)) rfl _) F.K w.1 w.2.1 w.2.2 0 1 3 3 rfl rfl rfl rfl rfl (by decide) (by decide) (by decide) (by decide) (by decide) hfit (Nat.le_of_ble_eq_true rfl) (by decide +kernel) dJ7_copyOf_9075b_28 (fun H locs h1 h2 h3 => ?_)
  have w : Wd G A s.heap (fl [[(va, .inl (G.2.1 3, 16, .inl f))], [(z1, .inl (G.2.1 3, 34, .inl (va_cpy f (fun _ => 0) (Int32.toNatClampNeg 0) (Int32.toNatClampNeg 0) (Int32.toNatClampNeg 16))))]]) H locs := ⟨h1, h2, h3⟩
  refine lv_aload_n F.x F.b dJ7_copyOf_9075b_31 rfl (lv_at hl 0 rfl) ?_
  exact eRm F w (n := "") (Or.inr hr) hlocks ⟨_, rfl, fun i hi => by rw [sb_cl0, show Int32.toNatClampNeg 16 = 16 by decide]; exact sb_cpy0 hi⟩ (Nat.le_of_ble_eq_true rfl) (Nat.le_of_ble_eq_true rfl) dJ7_copyOf_9075b_32
set_option maxRecDepth 100000 in
set_option maxHeartbeats 4000000 in
theorem t_J5_ensureCapacityInternal_d00df {G : cG} (g : GOK G) {o : Nat → Nat} {va cp n q mm gm gs : Nat} {mb : Int32} {f : Nat → Int32} (pv : PV G) (hc35 : cp < 35) (hq : (q ≤ cp ∧ cp = mm) ∨ (cp = 16 ∧ q = 17 ∧ n = 16 ∧ 1 ≤ gm ∧ 34 ≤ gs ∧ 34 = mm)) (hf : ∀ i, i < n → ∃ ch, ch < 128 ∧ f i = nI ch) : CN G yJ5_ensureCapacityInternal_d00df cJ5_ensureCapacityInternal_d00df 3 3 82 gm gs [.ref (o 0), .int (nI q)] (fl [wSb G.2.1 o (va, cp, n, mb, f)]) (fun w' => ∃ va' f', w' = fl [wSb G.2.1 o (va', mm, n, mb, f')] ∧ ∀ i, i < n → f' i = f i) := by
  rcases hq with ⟨hq, rfl⟩ | ⟨rfl, rfl, rfl, h1, h2, rfl⟩
  · refine CN.of g (by decide) rfl (Nat.le_of_ble_eq_true rfl) ?_
    intro p l e s m below meth c A ls hnm F hr hlocks w hl
    generalize ([.ref (o 0), .int (nI q)] : List Value).toArray = args
    have hl : lv_has ls 3 [(0, .ref (o 0)), (1, .int (nI q))] := hl
    have w : Wd G A s.heap (fl [wSb G.2.1 o (va, cp, n, mb, f)]) _ _ := w
    have w : Wd G A s.heap (fl [[((o 0), .inr (1, [.ref va, .int 0, .int mb, .int (nI n)]))], [(va, .inl (G.2.1 3, cp, .inl f))]]) _ _ := w
    refine lv_aload_n F.x F.b dJ5_ensureCapacityInternal_d00df_0 rfl (lv_at hl 0 rfl) ?_
    refine rg F w clB 0 rfl 0 (by decide) q245 rfl (v := .ref va) rfl dJ5_ensureCapacityInternal_d00df_1 ?_
    refine rl F w 1 3 rfl rfl (v := (nI cp)) rfl dJ5_ensureCapacityInternal_d00df_4 ?_
    refine lv_aload_n F.x F.b dJ5_ensureCapacityInternal_d00df_5 rfl (lv_at hl 0 rfl) ?_
    refine rg F w clB 0 rfl 1 (by decide) q246 rfl (v := .int 0) rfl dJ5_ensureCapacityInternal_d00df_6 ?_
    refine lv_ishr F.x F.b dJ5_ensureCapacityInternal_d00df_9 ?_
    rw [sb_shr0]
    refine lv_istore_n (lv' := [(2, .int (nI cp)), (0, .ref (o 0)), (1, .int (nI q))]) F.x F.b dJ5_ensureCapacityInternal_d00df_10 rfl hl (by decide) rfl (fun ls hl => ?_)
    refine lv_iload_n F.x F.b dJ5_ensureCapacityInternal_d00df_11 rfl (lv_at hl 2 rfl) ?_
    refine lv_iload_n F.x F.b dJ5_ensureCapacityInternal_d00df_12 rfl (lv_at hl 0 rfl) ?_
    refine lv_isub F.x F.b dJ5_ensureCapacityInternal_d00df_13 ?_
    refine lv_if_le (tgt := 38) F.x F.b dJ5_ensureCapacityInternal_d00df_14 (by decide) (fun _ => ?_) (fun c9 => absurd (sb_le hc35 hq) c9)
    exact evN F w hr hlocks ⟨va, f, rfl, fun _ _ => rfl⟩ (Nat.zero_le _) (Nat.zero_le _) dJ5_ensureCapacityInternal_d00df_38
  · obtain ⟨gm, rfl⟩ : ∃ z, gm = z + 1 := ⟨gm - 1, by omega⟩
    obtain ⟨gs, rfl⟩ : ∃ z, gs = z + 34 := ⟨gs - 34, by omega⟩
    refine CN.of g (by decide) rfl (Nat.le_of_ble_eq_true rfl) ?_
    intro p l e s m below meth c A ls hnm F hr hlocks w hl
    generalize ([.ref (o 0), .int (nI 17)] : List Value).toArray = args
    have hl : lv_has ls 3 [(0, .ref (o 0)), (1, .int (nI 17))] := hl
    have w : Wd G A s.heap (fl [wSb G.2.1 o (va, 16, 16, mb, f)]) _ _ := w
    have w : Wd G A s.heap (fl [[((o 0), .inr (1, [.ref va, .int 0, .int mb, .int (nI 16)]))], [(va, .inl (G.2.1 3, 16, .inl f))]]) _ _ := w
    refine lv_aload_n F.x F.b dJ5_ensureCapacityInternal_d00df_0 rfl (lv_at hl 0 rfl) ?_
    refine rg F w clB 0 rfl 0 (by decide) q245 rfl (v := .ref va) rfl dJ5_ensureCapacityInternal_d00df_1 ?_
    refine rl F w 1 3 rfl rfl (v := 16) rfl dJ5_ensureCapacityInternal_d00df_4 ?_
    refine lv_aload_n F.x F.b dJ5_ensureCapacityInternal_d00df_5 rfl (lv_at hl 0 rfl) ?_
    refine rg F w clB 0 rfl 1 (by decide) q246 rfl (v := .int 0) rfl dJ5_ensureCapacityInternal_d00df_6 ?_
    refine lv_ishr F.x F.b dJ5_ensureCapacityInternal_d00df_9 ?_
    rw [sb_shr0]
    refine lv_istore_n (lv' := [(2, .int 16), (0, .ref (o 0)), (1, .int (nI 17))]) F.x F.b dJ5_ensureCapacityInternal_d00df_10 rfl hl (by decide) rfl (fun ls hl => ?_)
    refine lv_iload_n F.x F.b dJ5_ensureCapacityInternal_d00df_11 rfl (lv_at hl 2 rfl) ?_
    refine lv_iload_n F.x F.b dJ5_ensureCapacityInternal_d00df_12 rfl (lv_at hl 0 rfl) ?_
    refine lv_isub F.x F.b dJ5_ensureCapacityInternal_d00df_13 ?_
    refine lv_if_le (tgt := 38) F.x F.b dJ5_ensureCapacityInternal_d00df_14 (by decide) (fun c9 => absurd c9 (by decide)) (fun _ => ?_)
    refine lv_aload_n F.x F.b dJ5_ensureCapacityInternal_d00df_17 rfl (lv_at hl 1 rfl) ?_
    refine lv_aload_n F.x F.b dJ5_ensureCapacityInternal_d00df_18 rfl (lv_at hl 1 rfl) ?_
    refine rg F w clB 0 rfl 0 (by decide) q245 rfl (v := .ref va) rfl dJ5_ensureCapacityInternal_d00df_19 ?_
    refine lv_aload_n F.x F.b dJ5_ensureCapacityInternal_d00df_22 rfl (lv_at hl 1 rfl) ?_
    refine lv_iload_n F.x F.b dJ5_ensureCapacityInternal_d00df_23 rfl (lv_at hl 2 rfl) ?_
    refine kUi F w (LC := [[((o 0), .inr (1, [.ref va, .int 0, .int mb, .int (nI 16)]))], [(va, .inl (G.2.1 3, 16, .inl f))]]) (LR := []) (As := [.int (nI 17)]) (rest := [.ref va, .ref (o 0)]) (t_J5_newCapacity_0f7a4 F.1 (o := o) (va := va) (n := 16) (mb := mb) (f := f)) m_J5_newCapacity_0f7a4 (List.mem_of_getElem? (i := 812) (by decide +kernel)) (List.mem_of_getElem? (i := 810) (by decide +kernel)) (List.mem_of_getElem? (i := 1515) (by decide +kernel)) (ci := 1) (q0 := 0) rfl rfl (F.pv pv args).2 2 [0, 1] rfl rfl rfl ⟨Nat.le_of_ble_eq_true rfl, Nat.le_of_ble_eq_true rfl⟩ rfl hl.1 rfl (Nat.le_of_ble_eq_true rfl) dJ5_ensureCapacityInternal_d00df_24 ⟨Nat.le_of_ble_eq_true rfl, Nat.le_of_ble_eq_true rfl⟩ (fun H locs w => ?_)
    have w := w.jn (L1 := [[((o 0), .inr (1, [.ref va, .int 0, .int mb, .int (nI 16)]))], [(va, .inl (G.2.1 3, 16, .inl f))]]) (L' := [[((o 0), .inr (1, [.ref va, .int 0, .int mb, .int (nI 16)]))], [(va, .inl (G.2.1 3, 16, .inl f))]]) rfl 2 [0, 1] rfl rfl rfl
    have w : Wd G A s.heap (fl [[((o 0), .inr (1, [.ref va, .int 0, .int mb, .int (nI 16)]))], [(va, .inl (G.2.1 3, 16, .inl f))]]) _ _ := w
    refine lv_aload_n F.x F.b dJ5_ensureCapacityInternal_d00df_27 rfl (lv_at hl 1 rfl) ?_
    refine rg F w clB 0 rfl 1 (by decide) q246 rfl (v := .int 0) rfl dJ5_ensureCapacityInternal_d00df_28 ?_
    refine lv_ishl F.x F.b dJ5_ensureCapacityInternal_d00df_31 ?_
    rw [sb_shl0]
    refine kSBr F w (LC := [[(va, .inl (G.2.1 3, 16, .inl f))]]) (LR := [[((o 0), .inr (1, [.ref va, .int 0, .int mb, .int (nI 16)]))]]) (As := [.ref va, .int 34]) (rest := [.ref (o 0)]) (t_J7_copyOf_9075b F.1 (va := va) hf) m_J7_copyOf_9075b v_J7_copyOf_9075b (List.mem_of_getElem? (i := 823) (by decide +kernel)) 2 [1, 0] rfl rfl rfl ⟨Nat.le_of_ble_eq_true rfl, Nat.le_of_ble_eq_true rfl⟩ rfl hl.1 rfl (Nat.le_of_ble_eq_true rfl) dJ5_ensureCapacityInternal_d00df_32 ⟨by show 0 + 1 ≤ gm + 1; omega, by show 0 + 34 ≤ gs + 34; omega⟩ (fun a9 w1 H locs h9 w => ?_)
    obtain ⟨f', rfl, hk⟩ := h9
    have w := w.jn (L1 := [[(va, .inl (G.2.1 3, 16, .inl f))], [(a9, .inl (G.2.1 3, 34, .inl f'))]]) (L' := [[((o 0), .inr (1, [.ref va, .int 0, .int mb, .int (nI 16)]))], [(va, .inl (G.2.1 3, 16, .inl f))], [(a9, .inl (G.2.1 3, 34, .inl f'))]]) rfl 3 [2, 0, 1] rfl rfl rfl
    refine rp F w (ws' := fl [[((o 0), .inr (1, [.ref a9, .int 0, .int mb, .int (nI 16)]))], [(va, .inl (G.2.1 3, 16, .inl f))], [(a9, .inl (G.2.1 3, 34, .inl f'))]]) clB 0 rfl 0 (by decide) q245 rfl rfl rfl rfl (Nat.le_of_ble_eq_true rfl) rfl dJ5_ensureCapacityInternal_d00df_35 (fun H locs w => ?_)
    have w := w.re (L' := [[((o 0), .inr (1, [.ref a9, .int 0, .int mb, .int (nI 16)]))], [(a9, .inl (G.2.1 3, 34, .inl f'))], [(va, .inl (G.2.1 3, 16, .inl f))]]) 3 [0, 2, 1] rfl rfl rfl
    have w : Wd G A s.heap (fl ([[((o 0), .inr (1, [.ref a9, .int 0, .int mb, .int (nI 16)]))], [(a9, .inl (G.2.1 3, 34, .inl f'))]] ++ [[(va, .inl (G.2.1 3, 16, .inl f))]])) _ _ := w
    have w := w.drop
    exact evN F w hr hlocks ⟨a9, f', rfl, hk⟩ (by omega) (by omega) dJ5_ensureCapacityInternal_d00df_38

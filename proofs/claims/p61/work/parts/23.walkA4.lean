/-! printed by wip/p61/tools/emit.py: the walks -/
set_option maxRecDepth 100000 in
set_option maxHeartbeats 4000000 in
theorem t_X1_append {G : cG} (g : GOK G) {ta : Nat → Nat} {C : Mem} {x1 : Int32} {r : Int32} {C' : Mem} (h : f_X1_append C x1 = some (r, C')) : CI G yX1_append cX1_append 2 .boolean 0 0 [.ref (ta 0), .int x1] (wTe G.2.1 ta C) (wTe G.2.1 ta C') r := by
  unfold f_X1_append at h
  refine CI.of g (by decide) rfl (Nat.le_of_ble_eq_true rfl) ?_
  intro p l e s m below meth c A ls F hr hlocks w hl
  generalize ([.ref (ta 0), .int x1] : List Value).toArray = args
  have hl : lv_has ls 2 [(0, .ref (ta 0)), (1, .int x1)] := hl
  refine lv_aload_n F.x F.b dX1_append_0 rfl (lv_at hl 0 rfl) ?_
  refine rg F w cl1 0 (at_Te_0 _ _ _) 2 (by decide) q203 rfl (v := .int (C.1 0)) rfl dX1_append_1 ?_
  refine lv_bipush (v := 60) F.x F.b dX1_append_4 (by decide) ?_
  refine lv_icmp_lt (tgt := 11) F.x F.b dX1_append_6 (by decide) (fun c1 => ?_) (fun c1 => ?_)
  · have h := it c1 h
    refine lv_aload_n F.x F.b dX1_append_11 rfl (lv_at hl 0 rfl) ?_
    refine rg F w cl1 0 (at_Te_0 _ _ _) 0 (by decide) q200 rfl (v := .ref (ta 1)) rfl dX1_append_12 ?_
    refine lv_aload_n F.x F.b dX1_append_15 rfl (lv_at hl 0 rfl) ?_
    refine rg F w cl1 0 (at_Te_0 _ _ _) 2 (by decide) q203 rfl (v := .int (C.1 0)) rfl dX1_append_16 ?_
    refine lv_iload_n F.x F.b dX1_append_19 rfl (lv_at hl 1 rfl) ?_
    obtain ⟨g2, h⟩ := gd h
    refine rcs F w (ws' := wTe G.2.1 ta (wrA C 0 (C.1 0) (vp_nar .char x1))) 1 (n := 60) (f := C.2 0) (at_Te_1 _ _ _) g2 (st_Te_1 _ _ _ _ _) dX1_append_20 (fun H locs w => ?_)
    refine lv_aload_n F.x F.b dX1_append_21 rfl (lv_at hl 0 rfl) ?_
    refine lv_dup F.x F.b dX1_append_22 rfl ?_
    refine rg F w cl1 0 (at_Te_0 _ _ _) 2 (by decide) q203 rfl (v := .int (C.1 0)) rfl dX1_append_23 ?_
    refine lv_iconst (v := 1) F.x F.b dX1_append_26 (by decide) ?_
    refine lv_iadd F.x F.b dX1_append_27 ?_
    refine rp F w (ws' := wTe G.2.1 ta (wrI (wrA C 0 (C.1 0) (vp_nar .char x1)) 0 ((C.1 0) + 1))) cl1 0 (at_Te_0 _ _ _) 2 (by decide) q203 rfl rfl rfl rfl (Nat.le_of_ble_eq_true rfl) (pt_Te_0_2 _ _ _ _) dX1_append_28 (fun H locs w => ?_)
    refine lv_iconst (v := 1) F.x F.b dX1_append_31 (by decide) ?_
    obtain ⟨z0, z1⟩ := sm2 (sm h)
    exact ei F w hr hlocks rfl z0 (by rw [← z1]) dX1_append_32
  · have h := ie c1 h
    refine lv_iconst (v := 0) F.x F.b dX1_append_9 (by decide) ?_
    obtain ⟨z0, z1⟩ := sm2 (sm h)
    exact ei F w hr hlocks rfl z0 (by rw [← z1]) dX1_append_10
set_option maxRecDepth 100000 in
set_option maxHeartbeats 4000000 in
theorem t_X1_clear {G : cG} (g : GOK G) {ta : Nat → Nat} {C : Mem} {C' : Mem} (h : f_X1_clear C = some C') : CV G yX1_clear cX1_clear 1 0 0 [.ref (ta 0)] (wTe G.2.1 ta C) (wTe G.2.1 ta C') := by
  unfold f_X1_clear at h
  refine CV.of g (by decide) rfl (Nat.le_of_ble_eq_true rfl) ?_
  intro p l e s m below meth c A ls F hr hlocks w hl
  generalize ([.ref (ta 0)] : List Value).toArray = args
  have hl : lv_has ls 1 [(0, .ref (ta 0))] := hl
  refine lv_aload_n F.x F.b dX1_clear_0 rfl (lv_at hl 0 rfl) ?_
  refine lv_iconst (v := 0) F.x F.b dX1_clear_1 (by decide) ?_
  refine rp F w (ws' := wTe G.2.1 ta (wrI C 0 0)) cl1 0 (at_Te_0 _ _ _) 2 (by decide) q203 rfl rfl rfl rfl (Nat.le_of_ble_eq_true rfl) (pt_Te_0_2 _ _ _ _) dX1_clear_2 (fun H locs w => ?_)
  have z0 := sm h
  exact ev F w hr hlocks (by rw [← z0]) dX1_clear_5
set_option maxRecDepth 100000 in
set_option maxHeartbeats 4000000 in
theorem t_X1_rewind {G : cG} (g : GOK G) {ta : Nat → Nat} {C : Mem} {C' : Mem} (h : f_X1_rewind C = some C') : CV G yX1_rewind cX1_rewind 1 0 0 [.ref (ta 0)] (wTe G.2.1 ta C) (wTe G.2.1 ta C') := by
  unfold f_X1_rewind at h
  refine CV.of g (by decide) rfl (Nat.le_of_ble_eq_true rfl) ?_
  intro p l e s m below meth c A ls F hr hlocks w hl
  generalize ([.ref (ta 0)] : List Value).toArray = args
  have hl : lv_has ls 1 [(0, .ref (ta 0))] := hl
  refine lv_aload_n F.x F.b dX1_rewind_0 rfl (lv_at hl 0 rfl) ?_
  refine lv_iconst (v := 0) F.x F.b dX1_rewind_1 (by decide) ?_
  refine rp F w (ws' := wTe G.2.1 ta (wrI C 1 0)) cl1 0 (at_Te_0 _ _ _) 3 (by decide) q205 rfl rfl rfl rfl (Nat.le_of_ble_eq_true rfl) (pt_Te_0_3 _ _ _ _) dX1_rewind_2 (fun H locs w => ?_)
  have z0 := sm h
  exact ev F w hr hlocks (by rw [← z0]) dX1_rewind_5
set_option maxRecDepth 100000 in
set_option maxHeartbeats 4000000 in
theorem t_X1_skipSemicolon {G : cG} (g : GOK G) {ta : Nat → Nat} {C : Mem} {C' : Mem} (h : f_X1_skipSemicolon C = some C') : CV G yX1_skipSemicolon cX1_skipSemicolon 1 0 0 [.ref (ta 0)] (wTe G.2.1 ta C) (wTe G.2.1 ta C') := by
  unfold f_X1_skipSemicolon at h
  refine CV.of g (by decide) rfl (Nat.le_of_ble_eq_true rfl) ?_
  intro p l e s m below meth c A ls F hr hlocks w hl
  generalize ([.ref (ta 0)] : List Value).toArray = args
  have hl : lv_has ls 1 [(0, .ref (ta 0))] := hl
  refine lv_aload_n F.x F.b dX1_skipSemicolon_0 rfl (lv_at hl 0 rfl) ?_
  refine lv_dup F.x F.b dX1_skipSemicolon_1 rfl ?_
  refine rg F w cl1 0 (at_Te_0 _ _ _) 3 (by decide) q205 rfl (v := .int (C.1 1)) rfl dX1_skipSemicolon_2 ?_
  refine lv_iconst (v := 1) F.x F.b dX1_skipSemicolon_5 (by decide) ?_
  refine lv_iadd F.x F.b dX1_skipSemicolon_6 ?_
  refine rp F w (ws' := wTe G.2.1 ta (wrI C 1 ((C.1 1) + 1))) cl1 0 (at_Te_0 _ _ _) 3 (by decide) q205 rfl rfl rfl rfl (Nat.le_of_ble_eq_true rfl) (pt_Te_0_3 _ _ _ _) dX1_skipSemicolon_7 (fun H locs w => ?_)
  have z0 := sm h
  exact ev F w hr hlocks (by rw [← z0]) dX1_skipSemicolon_10
set_option maxRecDepth 100000 in
set_option maxHeartbeats 4000000 in
theorem t_X1_readCharacter {G : cG} (g : GOK G) {ta : Nat → Nat} {C : Mem} {x1 : Int32} {r : Int32} {C' : Mem} (h : f_X1_readCharacter C x1 = some (r, C')) : CI G yX1_readCharacter cX1_readCharacter 4 .boolean 1 20 [.ref (ta 0), .int x1] (wTe G.2.1 ta C) (wTe G.2.1 ta C') r := by
  unfold f_X1_readCharacter at h
  refine CI.of g (by decide) rfl (Nat.le_of_ble_eq_true rfl) ?_
  intro p l e s m below meth c A ls F hr hlocks w hl
  generalize ([.ref (ta 0), .int x1] : List Value).toArray = args
  have hl : lv_has ls 4 [(0, .ref (ta 0)), (1, .int x1)] := hl
  refine lv_aload_n F.x F.b dX1_readCharacter_0 rfl (lv_at hl 0 rfl) ?_
  refine rg F w cl1 0 (at_Te_0 _ _ _) 3 (by decide) q205 rfl (v := .int (C.1 1)) rfl dX1_readCharacter_1 ?_
  refine lv_aload_n F.x F.b dX1_readCharacter_4 rfl (lv_at hl 0 rfl) ?_
  refine rg F w cl1 0 (at_Te_0 _ _ _) 2 (by decide) q203 rfl (v := .int (C.1 0)) rfl dX1_readCharacter_5 ?_
  refine lv_icmp_lt (tgt := 13) F.x F.b dX1_readCharacter_8 (by decide) (fun c1 => ?_) (fun c1 => ?_)
  · have h := it c1 h
    refine lv_aload_n F.x F.b dX1_readCharacter_13 rfl (lv_at hl 0 rfl) ?_
    refine rg F w cl1 0 (at_Te_0 _ _ _) 0 (by decide) q200 rfl (v := .ref (ta 1)) rfl dX1_readCharacter_14 ?_
    refine lv_aload_n F.x F.b dX1_readCharacter_17 rfl (lv_at hl 0 rfl) ?_
    refine rg F w cl1 0 (at_Te_0 _ _ _) 3 (by decide) q205 rfl (v := .int (C.1 1)) rfl dX1_readCharacter_18 ?_
    obtain ⟨g2, h⟩ := gd h
    refine rc F w 1 (n := 60) (f := C.2 0) (at_Te_1 _ _ _) g2 dX1_readCharacter_21 ?_
    refine lv_istore_n (lv' := [(2, .int (C.2 0 (Int32.toNatClampNeg (C.1 1)))), (0, .ref (ta 0)), (1, .int x1)]) F.x F.b dX1_readCharacter_22 rfl hl (by decide) rfl (fun ls hl => ?_)
    refine lv_iload_n F.x F.b dX1_readCharacter_23 rfl (lv_at hl 2 rfl) ?_
    refine lv_bipush (v := 37) F.x F.b dX1_readCharacter_24 (by decide) ?_
    refine lv_icmp_ne (tgt := 36) F.x F.b dX1_readCharacter_26 (by decide) (fun c3 => ?_) (fun c3 => ?_)
    · have h := ie c3 h
      refine lv_iload_n F.x F.b dX1_readCharacter_36 rfl (lv_at hl 0 rfl) ?_
      refine lv_iload_n F.x F.b dX1_readCharacter_37 rfl (lv_at hl 2 rfl) ?_
      refine lv_icmp_ne (tgt := 45) F.x F.b dX1_readCharacter_38 (by decide) (fun c4 => ?_) (fun c4 => ?_)
      · have h := ie c4 h
        refine lv_iconst (v := 0) F.x F.b dX1_readCharacter_45 (by decide) ?_
        refine lv_istore_n (lv' := [(3, .int 0), (2, .int (C.2 0 (Int32.toNatClampNeg (C.1 1)))), (0, .ref (ta 0)), (1, .int x1)]) F.x F.b dX1_readCharacter_46 rfl hl (by decide) rfl (fun ls hl => ?_)
        refine lv_iload_n F.x F.b dX1_readCharacter_47 rfl (lv_at hl 0 rfl) ?_
        refine lv_if_ne (tgt := 53) F.x F.b dX1_readCharacter_48 (by decide) (fun c9 => absurd (by decide) c9) (fun _ => ?_)
        refine lv_iconst (v := 0) F.x F.b dX1_readCharacter_51 (by decide) ?_
        obtain ⟨z0, z1⟩ := sm2 (sm h)
        exact ei F w hr hlocks rfl z0 (by rw [← z1]) dX1_readCharacter_52
      · have h := it c4 h
        refine lv_iconst (v := 1) F.x F.b dX1_readCharacter_41 (by decide) ?_
        refine lv_goto (tgt := 46) F.x F.b dX1_readCharacter_42 (by decide) ?_
        refine lv_istore_n (lv' := [(3, .int 1), (2, .int (C.2 0 (Int32.toNatClampNeg (C.1 1)))), (0, .ref (ta 0)), (1, .int x1)]) F.x F.b dX1_readCharacter_46 rfl hl (by decide) rfl (fun ls hl => ?_)
        refine lv_iload_n F.x F.b dX1_readCharacter_47 rfl (lv_at hl 0 rfl) ?_
        refine lv_if_ne (tgt := 53) F.x F.b dX1_readCharacter_48 (by decide) (fun _ => ?_) (fun c9 => absurd c9 (by decide))
        refine lv_iload_n F.x F.b dX1_readCharacter_53 rfl (lv_at hl 3 rfl) ?_
        refine lv_bipush (v := 37) F.x F.b dX1_readCharacter_54 (by decide) ?_
        refine lv_icmp_ne (tgt := 64) F.x F.b dX1_readCharacter_56 (by decide) (fun c5 => ?_) (fun c5 => ?_)
        · have h := ie c5 h
          refine lv_aload_n F.x F.b dX1_readCharacter_64 rfl (lv_at hl 2 rfl) ?_
          refine lv_dup F.x F.b dX1_readCharacter_65 rfl ?_
          refine rg F w cl1 0 (at_Te_0 _ _ _) 3 (by decide) q205 rfl (v := .int (C.1 1)) rfl dX1_readCharacter_66 ?_
          refine lv_iconst (v := 1) F.x F.b dX1_readCharacter_69 (by decide) ?_
          refine lv_iadd F.x F.b dX1_readCharacter_70 ?_
          refine rp F w (ws' := wTe G.2.1 ta (wrI C 1 ((C.1 1) + 1))) cl1 0 (at_Te_0 _ _ _) 3 (by decide) q205 rfl rfl rfl rfl (Nat.le_of_ble_eq_true rfl) (pt_Te_0_3 _ _ _ _) dX1_readCharacter_71 (fun H locs w => ?_)
          refine lv_iconst (v := 1) F.x F.b dX1_readCharacter_74 (by decide) ?_
          obtain ⟨z0, z1⟩ := sm2 (sm h)
          exact ei F w hr hlocks rfl z0 (by rw [← z1]) dX1_readCharacter_75
        · have h := it c5 h
          refine lv_aload_n F.x F.b dX1_readCharacter_59 rfl (lv_at hl 2 rfl) ?_
          refine lv_iload_n F.x F.b dX1_readCharacter_60 rfl (lv_at hl 1 rfl) ?_
          obtain ⟨g6, h⟩ := gp h
          refine rp F w (ws' := wTe G.2.1 ta (wrI C 3 (C.2 0 (Int32.toNatClampNeg (C.1 1))))) cl1 0 (at_Te_0 _ _ _) 5 (by decide) q209 rfl rfl (nar_char g6) (fit_char g6) (Nat.le_of_ble_eq_true rfl) (pt_Te_0_5 _ _ _ _) dX1_readCharacter_61 (fun H locs w => ?_)
          refine lv_aload_n F.x F.b dX1_readCharacter_64 rfl (lv_at hl 2 rfl) ?_
          refine lv_dup F.x F.b dX1_readCharacter_65 rfl ?_
          refine rg F w cl1 0 (at_Te_0 _ _ _) 3 (by decide) q205 rfl (v := .int (C.1 1)) rfl dX1_readCharacter_66 ?_
          refine lv_iconst (v := 1) F.x F.b dX1_readCharacter_69 (by decide) ?_
          refine lv_iadd F.x F.b dX1_readCharacter_70 ?_
          refine rp F w (ws' := wTe G.2.1 ta (wrI (wrI C 3 (C.2 0 (Int32.toNatClampNeg (C.1 1)))) 1 ((C.1 1) + 1))) cl1 0 (at_Te_0 _ _ _) 3 (by decide) q205 rfl rfl rfl rfl (Nat.le_of_ble_eq_true rfl) (pt_Te_0_3 _ _ _ _) dX1_readCharacter_71 (fun H locs w => ?_)
          refine lv_iconst (v := 1) F.x F.b dX1_readCharacter_74 (by decide) ?_
          obtain ⟨z0, z1⟩ := sm2 (sm h)
          exact ei F w hr hlocks rfl z0 (by rw [← z1]) dX1_readCharacter_75
    · have h := it c3 h
      refine lv_iload_n F.x F.b dX1_readCharacter_29 rfl (lv_at hl 0 rfl) ?_
      obtain ⟨r7, hc8, h⟩ := bd h
      try dsimp only at h
      refine kSNi F w (t_X6_isKind F.1 hc8) m_X6_isKind v_X6_isKind q1096 (As := [.int (C.2 0 (Int32.toNatClampNeg (C.1 1)))]) (rest := []) ⟨Nat.le_of_ble_eq_true rfl, Nat.le_of_ble_eq_true rfl⟩ rfl hl.1 rfl (Nat.le_of_ble_eq_true rfl) dX1_readCharacter_30 ⟨Nat.le_of_ble_eq_true rfl, Nat.le_of_ble_eq_true rfl⟩ (fun H locs w => ?_)
      refine lv_goto (tgt := 46) F.x F.b dX1_readCharacter_33 (by decide) ?_
      refine lv_istore_n (lv' := [(3, .int r7), (2, .int (C.2 0 (Int32.toNatClampNeg (C.1 1)))), (0, .ref (ta 0)), (1, .int x1)]) F.x F.b dX1_readCharacter_46 rfl hl (by decide) rfl (fun ls hl => ?_)
      refine lv_iload_n F.x F.b dX1_readCharacter_47 rfl (lv_at hl 0 rfl) ?_
      refine lv_if_ne (tgt := 53) F.x F.b dX1_readCharacter_48 (by decide) (fun c9 => ?_) (fun c9 => ?_)
      · have h := ie c9 h
        refine lv_iload_n F.x F.b dX1_readCharacter_53 rfl (lv_at hl 3 rfl) ?_
        refine lv_bipush (v := 37) F.x F.b dX1_readCharacter_54 (by decide) ?_
        refine lv_icmp_ne (tgt := 64) F.x F.b dX1_readCharacter_56 (by decide) (fun c10 => ?_) (fun c10 => ?_)
        · have h := ie c10 h
          refine lv_aload_n F.x F.b dX1_readCharacter_64 rfl (lv_at hl 2 rfl) ?_
          refine lv_dup F.x F.b dX1_readCharacter_65 rfl ?_
          refine rg F w cl1 0 (at_Te_0 _ _ _) 3 (by decide) q205 rfl (v := .int (C.1 1)) rfl dX1_readCharacter_66 ?_
          refine lv_iconst (v := 1) F.x F.b dX1_readCharacter_69 (by decide) ?_
          refine lv_iadd F.x F.b dX1_readCharacter_70 ?_
          refine rp F w (ws' := wTe G.2.1 ta (wrI C 1 ((C.1 1) + 1))) cl1 0 (at_Te_0 _ _ _) 3 (by decide) q205 rfl rfl rfl rfl (Nat.le_of_ble_eq_true rfl) (pt_Te_0_3 _ _ _ _) dX1_readCharacter_71 (fun H locs w => ?_)
          refine lv_iconst (v := 1) F.x F.b dX1_readCharacter_74 (by decide) ?_
          obtain ⟨z0, z1⟩ := sm2 (sm h)
          exact ei F w hr hlocks rfl z0 (by rw [← z1]) dX1_readCharacter_75
        · have h := it c10 h
          refine lv_aload_n F.x F.b dX1_readCharacter_59 rfl (lv_at hl 2 rfl) ?_
          refine lv_iload_n F.x F.b dX1_readCharacter_60 rfl (lv_at hl 1 rfl) ?_
          obtain ⟨g11, h⟩ := gp h
          refine rp F w (ws' := wTe G.2.1 ta (wrI C 3 (C.2 0 (Int32.toNatClampNeg (C.1 1))))) cl1 0 (at_Te_0 _ _ _) 5 (by decide) q209 rfl rfl (nar_char g11) (fit_char g11) (Nat.le_of_ble_eq_true rfl) (pt_Te_0_5 _ _ _ _) dX1_readCharacter_61 (fun H locs w => ?_)
          refine lv_aload_n F.x F.b dX1_readCharacter_64 rfl (lv_at hl 2 rfl) ?_
          refine lv_dup F.x F.b dX1_readCharacter_65 rfl ?_
          refine rg F w cl1 0 (at_Te_0 _ _ _) 3 (by decide) q205 rfl (v := .int (C.1 1)) rfl dX1_readCharacter_66 ?_
          refine lv_iconst (v := 1) F.x F.b dX1_readCharacter_69 (by decide) ?_
          refine lv_iadd F.x F.b dX1_readCharacter_70 ?_
          refine rp F w (ws' := wTe G.2.1 ta (wrI (wrI C 3 (C.2 0 (Int32.toNatClampNeg (C.1 1)))) 1 ((C.1 1) + 1))) cl1 0 (at_Te_0 _ _ _) 3 (by decide) q205 rfl rfl rfl rfl (Nat.le_of_ble_eq_true rfl) (pt_Te_0_3 _ _ _ _) dX1_readCharacter_71 (fun H locs w => ?_)
          refine lv_iconst (v := 1) F.x F.b dX1_readCharacter_74 (by decide) ?_
          obtain ⟨z0, z1⟩ := sm2 (sm h)
          exact ei F w hr hlocks rfl z0 (by rw [← z1]) dX1_readCharacter_75
      · have h := it c9 h
        refine lv_iconst (v := 0) F.x F.b dX1_readCharacter_51 (by decide) ?_
        obtain ⟨z0, z1⟩ := sm2 (sm h)
        exact ei F w hr hlocks rfl z0 (by rw [← z1]) dX1_readCharacter_52
  · have h := ie c1 h
    refine lv_iconst (v := 0) F.x F.b dX1_readCharacter_11 (by decide) ?_
    obtain ⟨z0, z1⟩ := sm2 (sm h)
    exact ei F w hr hlocks rfl z0 (by rw [← z1]) dX1_readCharacter_12
set_option maxRecDepth 100000 in
set_option maxHeartbeats 4000000 in
theorem t_X1_isDigit {G : cG} (g : GOK G) {x0 : Int32} {r : Int32} (h : f_X1_isDigit x0 = some r) : CI G yX1_isDigit cX1_isDigit 1 .boolean 0 0 [.int x0] ([]) ([]) r := by
  unfold f_X1_isDigit at h
  refine CI.of g (by decide) rfl (Nat.le_of_ble_eq_true rfl) ?_
  intro p l e s m below meth c A ls F hr hlocks w hl
  generalize ([.int x0] : List Value).toArray = args
  have hl : lv_has ls 1 [(0, .int x0)] := hl
  refine lv_iload_n F.x F.b dX1_isDigit_0 rfl (lv_at hl 0 rfl) ?_
  refine lv_bipush (v := 48) F.x F.b dX1_isDigit_1 (by decide) ?_
  refine lv_icmp_lt (tgt := 16) F.x F.b dX1_isDigit_3 (by decide) (fun c1 => ?_) (fun c1 => ?_)
  · have h := it c1 h
    refine lv_iconst (v := 0) F.x F.b dX1_isDigit_16 (by decide) ?_
    have z0 := sm h
    exact ei F w hr hlocks rfl z0 rfl dX1_isDigit_17
  · have h := ie c1 h
    refine lv_iload_n F.x F.b dX1_isDigit_6 rfl (lv_at hl 0 rfl) ?_
    refine lv_bipush (v := 57) F.x F.b dX1_isDigit_7 (by decide) ?_
    refine lv_icmp_gt (tgt := 16) F.x F.b dX1_isDigit_9 (by decide) (fun c2 => ?_) (fun c2 => ?_)
    · have h := it c2 h
      refine lv_iconst (v := 0) F.x F.b dX1_isDigit_16 (by decide) ?_
      have z0 := sm h
      exact ei F w hr hlocks rfl z0 rfl dX1_isDigit_17
    · have h := ie c2 h
      refine lv_iconst (v := 1) F.x F.b dX1_isDigit_12 (by decide) ?_
      refine lv_goto (tgt := 17) F.x F.b dX1_isDigit_13 (by decide) ?_
      have z0 := sm h
      exact ei F w hr hlocks rfl z0 rfl dX1_isDigit_17
set_option maxRecDepth 100000 in
set_option maxHeartbeats 4000000 in
theorem t_X1_readNumber {G : cG} (g : GOK G) {ta : Nat → Nat} {C : Mem} {r : Int32} {C' : Mem} (h : f_X1_readNumber C = some (r, C')) : CI G yX1_readNumber cX1_readNumber 3 .boolean 1 20 [.ref (ta 0)] (wTe G.2.1 ta C) (wTe G.2.1 ta C') r := by
  unfold f_X1_readNumber at h
  refine CI.of g (by decide) rfl (Nat.le_of_ble_eq_true rfl) ?_
  intro p l e s m below meth c A ls F hr hlocks w hl
  generalize ([.ref (ta 0)] : List Value).toArray = args
  have hl : lv_has ls 3 [(0, .ref (ta 0))] := hl
  have L4 : ∀ {k : Int32 → Int32 → Mem → Option (Int32 × Mem)} (n : Nat) (x1 : Int32) (x2 : Int32) (C : Mem) (H : Heap) (locs : List Loc) (ls : Array Slot), Wd G A s.heap (wTe G.2.1 ta C) H locs → lv_has ls 3 [(0, .ref (ta 0)), (1, .int x1), (2, .int x2)] → f_X1_readNumber_L4 k n x1 x2 C = some (r, C') → (∀ (x1 : Int32) (x2 : Int32) (C : Mem) (H : Heap) (locs : List Loc) (ls : Array Slot), Wd G A s.heap (wTe G.2.1 ta C) H locs → lv_has ls 3 [(0, .ref (ta 0)), (1, .int x1), (2, .int x2)] → k x1 x2 C = some (r, C') → W p l e { frames := 1, cells := 0, slots := 0, locals := 20 } s m args below meth c H locs 0 0 (QI G A (wTe G.2.1 ta C') r below args s) (F0 m 69 ls [])) → W p l e { frames := 1, cells := 0, slots := 0, locals := 20 } s m args below meth c H locs 0 0 (QI G A (wTe G.2.1 ta C') r below args s) (F0 m 4 ls []) := by
    clear h w hl
    intro k n
    induction n with
    | zero =>
      intro x1 x2 C H locs ls w hl h hk
      exact nomatch (show (none : Option (Int32 × Mem)) = some (r, C') from h)
    | succ n ih =>
      intro x1 x2 C H locs ls w hl h hk
      rw [f_X1_readNumber_L4] at h
      refine lv_iload_n F.x F.b dX1_readNumber_4 rfl (lv_at hl 2 rfl) ?_
      refine lv_iconst (v := 4) F.x F.b dX1_readNumber_5 (by decide) ?_
      refine lv_icmp_ge (tgt := 69) F.x F.b dX1_readNumber_6 (by decide) (fun c1 => ?_) (fun c1 => ?_)
      · have h := it c1 h
        exact hk x1 x2 C _ _ _ w (lv_sub hl [0, 1, 2] rfl) h
      · have h := ie c1 h
        refine lv_aload_n F.x F.b dX1_readNumber_9 rfl (lv_at hl 0 rfl) ?_
        refine rg F w cl1 0 (at_Te_0 _ _ _) 3 (by decide) q205 rfl (v := .int (C.1 1)) rfl dX1_readNumber_10 ?_
        refine lv_aload_n F.x F.b dX1_readNumber_13 rfl (lv_at hl 0 rfl) ?_
        refine rg F w cl1 0 (at_Te_0 _ _ _) 2 (by decide) q203 rfl (v := .int (C.1 0)) rfl dX1_readNumber_14 ?_
        refine lv_icmp_ge (tgt := 69) F.x F.b dX1_readNumber_17 (by decide) (fun c2 => ?_) (fun c2 => ?_)
        · have h := it c2 h
          exact hk x1 x2 C _ _ _ w (lv_sub hl [0, 1, 2] rfl) h
        · have h := ie c2 h
          refine lv_aload_n F.x F.b dX1_readNumber_20 rfl (lv_at hl 0 rfl) ?_
          refine rg F w cl1 0 (at_Te_0 _ _ _) 0 (by decide) q200 rfl (v := .ref (ta 1)) rfl dX1_readNumber_21 ?_
          refine lv_aload_n F.x F.b dX1_readNumber_24 rfl (lv_at hl 0 rfl) ?_
          refine rg F w cl1 0 (at_Te_0 _ _ _) 3 (by decide) q205 rfl (v := .int (C.1 1)) rfl dX1_readNumber_25 ?_
          obtain ⟨g3, h⟩ := gd h
          refine rc F w 1 (n := 60) (f := C.2 0) (at_Te_1 _ _ _) g3 dX1_readNumber_28 ?_
          obtain ⟨r4, hc5, h⟩ := bd h
          try dsimp only at h
          refine kSi F w (t_X1_isDigit F.1 hc5) m_X1_isDigit v_X1_isDigit q1089 (As := [.int (C.2 0 (Int32.toNatClampNeg (C.1 1)))]) (rest := []) ⟨Nat.le_of_ble_eq_true rfl, Nat.le_of_ble_eq_true rfl⟩ rfl hl.1 rfl (Nat.le_of_ble_eq_true rfl) dX1_readNumber_29 ⟨Nat.le_of_ble_eq_true rfl, Nat.le_of_ble_eq_true rfl⟩ (fun H locs w => ?_)
          refine lv_if_eq (tgt := 69) F.x F.b dX1_readNumber_32 (by decide) (fun c6 => ?_) (fun c6 => ?_)
          · have h := it c6 h
            exact hk x1 x2 C _ _ _ w (lv_sub hl [0, 1, 2] rfl) h
          · have h := ie c6 h
            refine lv_iload_n F.x F.b dX1_readNumber_35 rfl (lv_at hl 1 rfl) ?_
            refine lv_bipush (v := 10) F.x F.b dX1_readNumber_36 (by decide) ?_
            refine lv_imul F.x F.b dX1_readNumber_38 ?_
            refine lv_aload_n F.x F.b dX1_readNumber_39 rfl (lv_at hl 0 rfl) ?_
            refine rg F w cl1 0 (at_Te_0 _ _ _) 0 (by decide) q200 rfl (v := .ref (ta 1)) rfl dX1_readNumber_40 ?_
            refine lv_aload_n F.x F.b dX1_readNumber_43 rfl (lv_at hl 0 rfl) ?_
            refine rg F w cl1 0 (at_Te_0 _ _ _) 3 (by decide) q205 rfl (v := .int (C.1 1)) rfl dX1_readNumber_44 ?_
            obtain ⟨g7, h⟩ := gd h
            refine rc F w 1 (n := 60) (f := C.2 0) (at_Te_1 _ _ _) g7 dX1_readNumber_47 ?_
            refine lv_bipush (v := 48) F.x F.b dX1_readNumber_48 (by decide) ?_
            refine lv_isub F.x F.b dX1_readNumber_50 ?_
            refine lv_iadd F.x F.b dX1_readNumber_51 ?_
            refine lv_istore_n (lv' := [(1, .int ((x1 * 10) + ((C.2 0 (Int32.toNatClampNeg (C.1 1))) - 48))), (0, .ref (ta 0)), (2, .int x2)]) F.x F.b dX1_readNumber_52 rfl hl (by decide) rfl (fun ls hl => ?_)
            refine lv_iinc (v := (x2 + 1)) (lv' := [(2, .int (x2 + 1)), (1, .int ((x1 * 10) + ((C.2 0 (Int32.toNatClampNeg (C.1 1))) - 48))), (0, .ref (ta 0))]) F.x F.b dX1_readNumber_53 hl (k := 2) rfl rfl (by decide) rfl (fun ls hl => ?_)
            refine lv_aload_n F.x F.b dX1_readNumber_56 rfl (lv_at hl 2 rfl) ?_
            refine lv_dup F.x F.b dX1_readNumber_57 rfl ?_
            refine rg F w cl1 0 (at_Te_0 _ _ _) 3 (by decide) q205 rfl (v := .int (C.1 1)) rfl dX1_readNumber_58 ?_
            refine lv_iconst (v := 1) F.x F.b dX1_readNumber_61 (by decide) ?_
            refine lv_iadd F.x F.b dX1_readNumber_62 ?_
            refine rp F w (ws' := wTe G.2.1 ta (wrI C 1 ((C.1 1) + 1))) cl1 0 (at_Te_0 _ _ _) 3 (by decide) q205 rfl rfl rfl rfl (Nat.le_of_ble_eq_true rfl) (pt_Te_0_3 _ _ _ _) dX1_readNumber_63 (fun H locs w => ?_)
            refine lv_goto (tgt := 4) F.x F.b dX1_readNumber_66 (by decide) ?_
            exact ih ((x1 * 10) + ((C.2 0 (Int32.toNatClampNeg (C.1 1))) - 48)) (x2 + 1) (wrI C 1 ((C.1 1) + 1)) _ _ _ w (lv_sub hl [2, 1, 0] rfl) h hk
  refine lv_iconst (v := 0) F.x F.b dX1_readNumber_0 (by decide) ?_
  refine lv_istore_n (lv' := [(1, .int 0), (0, .ref (ta 0))]) F.x F.b dX1_readNumber_1 rfl hl (by decide) rfl (fun ls hl => ?_)
  refine lv_iconst (v := 0) F.x F.b dX1_readNumber_2 (by decide) ?_
  refine lv_istore_n (lv' := [(2, .int 0), (1, .int 0), (0, .ref (ta 0))]) F.x F.b dX1_readNumber_3 rfl hl (by decide) rfl (fun ls hl => ?_)
  refine L4 _ 0 0 C _ _ _ w (lv_sub hl [2, 1, 0] rfl) h ?_
  intro y8_1 y8_2 C_8 H locs ls w hl h
  try dsimp only at h
  refine lv_iload_n F.x F.b dX1_readNumber_69 rfl (lv_at hl 2 rfl) ?_
  refine lv_if_eq (tgt := 81) F.x F.b dX1_readNumber_70 (by decide) (fun c9 => ?_) (fun c9 => ?_)
  · have h := it c9 h
    refine lv_iconst (v := 0) F.x F.b dX1_readNumber_81 (by decide) ?_
    obtain ⟨z0, z1⟩ := sm2 (sm h)
    exact ei F w hr hlocks rfl z0 (by rw [← z1]) dX1_readNumber_82
  · have h := ie c9 h
    refine lv_aload_n F.x F.b dX1_readNumber_73 rfl (lv_at hl 0 rfl) ?_
    refine rg F w cl1 0 (at_Te_0 _ _ _) 6 (by decide) q211 rfl (v := .int (C_8.1 4)) rfl dX1_readNumber_74 ?_
    refine lv_iconst (v := 3) F.x F.b dX1_readNumber_77 (by decide) ?_
    refine lv_icmp_lt (tgt := 83) F.x F.b dX1_readNumber_78 (by decide) (fun c10 => ?_) (fun c10 => ?_)
    · have h := it c10 h
      refine lv_aload_n F.x F.b dX1_readNumber_83 rfl (lv_at hl 0 rfl) ?_
      refine rg F w cl1 0 (at_Te_0 _ _ _) 1 (by decide) q201 rfl (v := .ref (ta 2)) rfl dX1_readNumber_84 ?_
      refine lv_aload_n F.x F.b dX1_readNumber_87 rfl (lv_at hl 0 rfl) ?_
      refine rg F w cl1 0 (at_Te_0 _ _ _) 6 (by decide) q211 rfl (v := .int (C_8.1 4)) rfl dX1_readNumber_88 ?_
      refine lv_iload_n F.x F.b dX1_readNumber_91 rfl (lv_at hl 1 rfl) ?_
      obtain ⟨g11, h⟩ := gd h
      refine ris F w (ws' := wTe G.2.1 ta (wrA C_8 1 (C_8.1 4) y8_1)) 2 (n := 3) (f := C_8.2 1) (at_Te_2 _ _ _) g11 (st_Te_2 _ _ _ _ _) dX1_readNumber_92 (fun H locs w => ?_)
      refine lv_aload_n F.x F.b dX1_readNumber_93 rfl (lv_at hl 0 rfl) ?_
      refine lv_dup F.x F.b dX1_readNumber_94 rfl ?_
      refine rg F w cl1 0 (at_Te_0 _ _ _) 6 (by decide) q211 rfl (v := .int (C_8.1 4)) rfl dX1_readNumber_95 ?_
      refine lv_iconst (v := 1) F.x F.b dX1_readNumber_98 (by decide) ?_
      refine lv_iadd F.x F.b dX1_readNumber_99 ?_
      refine rp F w (ws' := wTe G.2.1 ta (wrI (wrA C_8 1 (C_8.1 4) y8_1) 4 ((C_8.1 4) + 1))) cl1 0 (at_Te_0 _ _ _) 6 (by decide) q211 rfl rfl rfl rfl (Nat.le_of_ble_eq_true rfl) (pt_Te_0_6 _ _ _ _) dX1_readNumber_100 (fun H locs w => ?_)
      refine lv_iconst (v := 1) F.x F.b dX1_readNumber_103 (by decide) ?_
      obtain ⟨z0, z1⟩ := sm2 (sm h)
      exact ei F w hr hlocks rfl z0 (by rw [← z1]) dX1_readNumber_104
    · have h := ie c10 h
      refine lv_iconst (v := 0) F.x F.b dX1_readNumber_81 (by decide) ?_
      obtain ⟨z0, z1⟩ := sm2 (sm h)
      exact ei F w hr hlocks rfl z0 (by rw [← z1]) dX1_readNumber_82
set_option maxRecDepth 100000 in
set_option maxHeartbeats 4000000 in
theorem t_X1_formOf {G : cG} (g : GOK G) {ks kv : Nat → Nat} (hSG : SG G ks kv) {x0 : Int32} {r : Nat} (h : f_X1_formOf x0 = some r) : CR G yX1_formOf cX1_formOf 1 (.object "java/lang/String") 0 0 [.int x0] ([]) ([]) (ks r) := by
  unfold f_X1_formOf at h
  refine CR.of g (by decide) rfl (Nat.le_of_ble_eq_true rfl) ?_
  intro p l e s m below meth c A ls F hr hlocks w hl
  generalize ([.int x0] : List Value).toArray = args
  have hl : lv_has ls 1 [(0, .int x0)] := hl
  refine lv_iload_n F.x F.b dX1_formOf_0 rfl (lv_at hl 0 rfl) ?_
  by_cases c1 : x0 = 0
  · have h := it c1 h
    rw [c1]
    refine lv_tableIn (tgt := 56) F.x F.b dX1_formOf_1 (by decide) (by decide) rfl (by decide) ?_
    refine va_ldcS F.x F.b F.o (F.rf hSG 0 rfl) dX1_formOf_56 ?_
    have z0 := sm h
    exact er F w hr hlocks (by rw [z0]) rfl dX1_formOf_58
  · have h := ie c1 h
    by_cases c2 : x0 = 1
    · have h := it c2 h
      rw [c2]
      refine lv_tableIn (tgt := 59) F.x F.b dX1_formOf_1 (by decide) (by decide) rfl (by decide) ?_
      refine va_ldcS F.x F.b F.o (F.rf hSG 1 rfl) dX1_formOf_59 ?_
      have z0 := sm h
      exact er F w hr hlocks (by rw [z0]) rfl dX1_formOf_61
    · have h := ie c2 h
      by_cases c3 : x0 = 2
      · have h := it c3 h
        rw [c3]
        refine lv_tableIn (tgt := 62) F.x F.b dX1_formOf_1 (by decide) (by decide) rfl (by decide) ?_
        refine va_ldcS F.x F.b F.o (F.rf hSG 2 rfl) dX1_formOf_62 ?_
        have z0 := sm h
        exact er F w hr hlocks (by rw [z0]) rfl dX1_formOf_64
      · have h := ie c3 h
        by_cases c4 : x0 = 3
        · have h := it c4 h
          rw [c4]
          refine lv_tableIn (tgt := 65) F.x F.b dX1_formOf_1 (by decide) (by decide) rfl (by decide) ?_
          refine va_ldcS F.x F.b F.o (F.rf hSG 3 rfl) dX1_formOf_65 ?_
          have z0 := sm h
          exact er F w hr hlocks (by rw [z0]) rfl dX1_formOf_67
        · have h := ie c4 h
          by_cases c5 : x0 = 4
          · have h := it c5 h
            rw [c5]
            refine lv_tableIn (tgt := 68) F.x F.b dX1_formOf_1 (by decide) (by decide) rfl (by decide) ?_
            refine va_ldcS F.x F.b F.o (F.rf hSG 4 rfl) dX1_formOf_68 ?_
            have z0 := sm h
            exact er F w hr hlocks (by rw [z0]) rfl dX1_formOf_70
          · have h := ie c5 h
            by_cases c6 : x0 = 5
            · have h := it c6 h
              rw [c6]
              refine lv_tableIn (tgt := 71) F.x F.b dX1_formOf_1 (by decide) (by decide) rfl (by decide) ?_
              refine va_ldcS F.x F.b F.o (F.rf hSG 5 rfl) dX1_formOf_71 ?_
              have z0 := sm h
              exact er F w hr hlocks (by rw [z0]) rfl dX1_formOf_73
            · have h := ie c6 h
              by_cases c7 : x0 = 6
              · have h := it c7 h
                rw [c7]
                refine lv_tableIn (tgt := 74) F.x F.b dX1_formOf_1 (by decide) (by decide) rfl (by decide) ?_
                refine va_ldcS F.x F.b F.o (F.rf hSG 6 rfl) dX1_formOf_74 ?_
                have z0 := sm h
                exact er F w hr hlocks (by rw [z0]) rfl dX1_formOf_76
              · have h := ie c7 h
                by_cases c8 : x0 = 7
                · have h := it c8 h
                  rw [c8]
                  refine lv_tableIn (tgt := 77) F.x F.b dX1_formOf_1 (by decide) (by decide) rfl (by decide) ?_
                  refine va_ldcS F.x F.b F.o (F.rf hSG 7 rfl) dX1_formOf_77 ?_
                  have z0 := sm h
                  exact er F w hr hlocks (by rw [z0]) rfl dX1_formOf_79
                · have h := ie c8 h
                  by_cases c9 : x0 = 8
                  · have h := it c9 h
                    rw [c9]
                    refine lv_tableIn (tgt := 80) F.x F.b dX1_formOf_1 (by decide) (by decide) rfl (by decide) ?_
                    refine va_ldcS F.x F.b F.o (F.rf hSG 8 rfl) dX1_formOf_80 ?_
                    have z0 := sm h
                    exact er F w hr hlocks (by rw [z0]) rfl dX1_formOf_82
                  · have h := ie c9 h
                    by_cases c10 : x0 = 9
                    · have h := it c10 h
                      rw [c10]
                      refine lv_tableIn (tgt := 83) F.x F.b dX1_formOf_1 (by decide) (by decide) rfl (by decide) ?_
                      refine va_ldcS F.x F.b F.o (F.rf hSG 9 rfl) dX1_formOf_83 ?_
                      have z0 := sm h
                      exact er F w hr hlocks (by rw [z0]) rfl dX1_formOf_85
                    · have h := ie c10 h
                      refine lv_tableOut (tgt := 86) F.x F.b dX1_formOf_1 (sw_out (0) (9) (by intro j h1 h2; rcases (show j = 0 ∨ j = 1 ∨ j = 2 ∨ j = 3 ∨ j = 4 ∨ j = 5 ∨ j = 6 ∨ j = 7 ∨ j = 8 ∨ j = 9 by omega) with rfl | rfl | rfl | rfl | rfl | rfl | rfl | rfl | rfl | rfl <;> first | exact sw_ne c1 (by decide) | exact sw_ne c2 (by decide) | exact sw_ne c3 (by decide) | exact sw_ne c4 (by decide) | exact sw_ne c5 (by decide) | exact sw_ne c6 (by decide) | exact sw_ne c7 (by decide) | exact sw_ne c8 (by decide) | exact sw_ne c9 (by decide) | exact sw_ne c10 (by decide))) (by decide) ?_
                      refine va_ldcS F.x F.b F.o (F.rf hSG 10 rfl) dX1_formOf_86 ?_
                      have z0 := sm h
                      exact er F w hr hlocks (by rw [z0]) rfl dX1_formOf_88
set_option maxRecDepth 100000 in
set_option maxHeartbeats 4000000 in
theorem t_X1_readForm {G : cG} (g : GOK G) {ks kv : Nat → Nat} (hSG : SG G ks kv) {ta : Nat → Nat} {C : Mem} {u1 : Nat} (hu1 : u1 < 11) {r : Int32} {C' : Mem} (h : f_X1_readForm C u1 = some (r, C')) : CI G yX1_readForm cX1_readForm 5 .boolean 4 85 [.ref (ta 0), .ref (ks u1)] (wTe G.2.1 ta C) (wTe G.2.1 ta C') r := by
  unfold f_X1_readForm at h
  refine CI.of g (by decide) rfl (Nat.le_of_ble_eq_true rfl) ?_
  intro p l e s m below meth c A ls F hr hlocks w hl
  generalize ([.ref (ta 0), .ref (ks u1)] : List Value).toArray = args
  have hl : lv_has ls 5 [(0, .ref (ta 0)), (1, .ref (ks u1))] := hl
  have L7 : ∀ {k : Mem → Option (Int32 × Mem)} (n : Nat) (x2 : Int32) (C : Mem) (H : Heap) (locs : List Loc) (ls : Array Slot), Wd G A s.heap (wTe G.2.1 ta C) H locs → lv_has ls 5 [(0, .ref (ta 0)), (1, .ref (ks u1)), (2, .int x2)] → f_X1_readForm_L7 u1 k n x2 C = some (r, C') → (∀ (C : Mem) (H : Heap) (locs : List Loc) (ls : Array Slot), Wd G A s.heap (wTe G.2.1 ta C) H locs → lv_has ls 5 [] → k C = some (r, C') → W p l e { frames := 4, cells := 0, slots := 0, locals := 85 } s m args below meth c H locs 0 0 (QI G A (wTe G.2.1 ta C') r below args s) (F0 m 54 ls [])) → W p l e { frames := 4, cells := 0, slots := 0, locals := 85 } s m args below meth c H locs 0 0 (QI G A (wTe G.2.1 ta C') r below args s) (F0 m 7 ls []) := by
    clear h w hl
    intro k n
    induction n with
    | zero =>
      intro x2 C H locs ls w hl h hk
      exact nomatch (show (none : Option (Int32 × Mem)) = some (r, C') from h)
    | succ n ih =>
      intro x2 C H locs ls w hl h hk
      rw [f_X1_readForm_L7] at h
      refine lv_iload_n F.x F.b dX1_readForm_7 rfl (lv_at hl 2 rfl) ?_
      refine lv_aload_n F.x F.b dX1_readForm_8 rfl (lv_at hl 1 rfl) ?_
      refine kKi F w hSG (As := []) (rest := [.int x2]) hu1 (t_J0_length F.1 hSG hu1) m_J0_length_8abf5 v_J0_length_8abf5 q1083 rfl ⟨Nat.le_of_ble_eq_true rfl, Nat.le_of_ble_eq_true rfl⟩ rfl hl.1 rfl (Nat.le_of_ble_eq_true rfl) dX1_readForm_9 ⟨Nat.le_of_ble_eq_true rfl, Nat.le_of_ble_eq_true rfl⟩ (fun H locs w => ?_)
      refine lv_icmp_ge (tgt := 54) F.x F.b dX1_readForm_12 (by decide) (fun c1 => ?_) (fun c1 => ?_)
      · have h := it c1 h
        exact hk C _ _ _ w (lv_sub hl [] rfl) h
      · have h := ie c1 h
        refine lv_aload_n F.x F.b dX1_readForm_15 rfl (lv_at hl 1 rfl) ?_
        refine lv_iload_n F.x F.b dX1_readForm_16 rfl (lv_at hl 2 rfl) ?_
        obtain ⟨g2, h⟩ := gd h
        refine kKi F w hSG (As := [.int x2]) (rest := []) hu1 (t_J0_charAt F.1 hSG hu1 g2) m_J0_charAt_5068e v_J0_charAt_5068e q1084 rfl ⟨Nat.le_of_ble_eq_true rfl, Nat.le_of_ble_eq_true rfl⟩ rfl hl.1 rfl (Nat.le_of_ble_eq_true rfl) dX1_readForm_17 ⟨Nat.le_of_ble_eq_true rfl, Nat.le_of_ble_eq_true rfl⟩ (fun H locs w => ?_)
        refine lv_istore_n (lv' := [(3, .int (sAt u1 x2)), (0, .ref (ta 0)), (1, .ref (ks u1)), (2, .int x2)]) F.x F.b dX1_readForm_20 rfl hl (by decide) rfl (fun ls hl => ?_)
        refine lv_iload_n F.x F.b dX1_readForm_21 rfl (lv_at hl 0 rfl) ?_
        refine lv_bipush (v := 35) F.x F.b dX1_readForm_22 (by decide) ?_
        refine lv_icmp_ne (tgt := 34) F.x F.b dX1_readForm_24 (by decide) (fun c3 => ?_) (fun c3 => ?_)
        · have h := ie c3 h
          refine lv_aload_n F.x F.b dX1_readForm_34 rfl (lv_at hl 1 rfl) ?_
          refine lv_iload_n F.x F.b dX1_readForm_35 rfl (lv_at hl 0 rfl) ?_
          obtain ⟨⟨r4, C_5⟩, hc6, h⟩ := bd h
          try dsimp only at h
          refine kVi0 F w (As := [.int (sAt u1 x2)]) (rest := []) (w1 := wTe G.2.1 ta C_5) (t_X1_readCharacter F.1 hc6) m_X1_readCharacter v_X1_readCharacter q1092 (ci := 5) (q0 := 0) rfl rfl rfl ⟨Nat.le_of_ble_eq_true rfl, Nat.le_of_ble_eq_true rfl⟩ rfl hl.1 rfl (Nat.le_of_ble_eq_true rfl) dX1_readForm_36 ⟨Nat.le_of_ble_eq_true rfl, Nat.le_of_ble_eq_true rfl⟩ (fun H locs w => ?_)
          refine lv_istore (lv' := [(4, .int r4), (3, .int (sAt u1 x2)), (0, .ref (ta 0)), (1, .ref (ks u1)), (2, .int x2)]) F.x F.b dX1_readForm_39 hl (by decide) rfl (fun ls hl => ?_)
          refine lv_iload F.x F.b dX1_readForm_41 (lv_at hl 0 rfl) ?_
          refine lv_if_ne (tgt := 48) F.x F.b dX1_readForm_43 (by decide) (fun c7 => ?_) (fun c7 => ?_)
          · have h := ie c7 h
            refine lv_iinc (v := (x2 + 1)) (lv' := [(2, .int (x2 + 1)), (4, .int r4), (3, .int (sAt u1 x2)), (0, .ref (ta 0)), (1, .ref (ks u1))]) F.x F.b dX1_readForm_48 hl (k := 4) rfl rfl (by decide) rfl (fun ls hl => ?_)
            refine lv_goto (tgt := 7) F.x F.b dX1_readForm_51 (by decide) ?_
            exact ih (x2 + 1) C_5 _ _ _ w (lv_sub hl [3, 4, 0] rfl) h hk
          · have h := it c7 h
            refine lv_iconst (v := 0) F.x F.b dX1_readForm_46 (by decide) ?_
            obtain ⟨z0, z1⟩ := sm2 (sm h)
            exact ei F w hr hlocks rfl z0 (by rw [← z1]) dX1_readForm_47
        · have h := it c3 h
          refine lv_aload_n F.x F.b dX1_readForm_27 rfl (lv_at hl 1 rfl) ?_
          obtain ⟨⟨r8, C_9⟩, hc10, h⟩ := bd h
          try dsimp only at h
          refine kVi0 F w (As := []) (rest := []) (w1 := wTe G.2.1 ta C_9) (t_X1_readNumber F.1 hc10) m_X1_readNumber v_X1_readNumber q1085 (ci := 5) (q0 := 0) rfl rfl rfl ⟨Nat.le_of_ble_eq_true rfl, Nat.le_of_ble_eq_true rfl⟩ rfl hl.1 rfl (Nat.le_of_ble_eq_true rfl) dX1_readForm_28 ⟨Nat.le_of_ble_eq_true rfl, Nat.le_of_ble_eq_true rfl⟩ (fun H locs w => ?_)
          refine lv_goto (tgt := 39) F.x F.b dX1_readForm_31 (by decide) ?_
          refine lv_istore (lv' := [(4, .int r8), (3, .int (sAt u1 x2)), (0, .ref (ta 0)), (1, .ref (ks u1)), (2, .int x2)]) F.x F.b dX1_readForm_39 hl (by decide) rfl (fun ls hl => ?_)
          refine lv_iload F.x F.b dX1_readForm_41 (lv_at hl 0 rfl) ?_
          refine lv_if_ne (tgt := 48) F.x F.b dX1_readForm_43 (by decide) (fun c11 => ?_) (fun c11 => ?_)
          · have h := ie c11 h
            refine lv_iinc (v := (x2 + 1)) (lv' := [(2, .int (x2 + 1)), (4, .int r8), (3, .int (sAt u1 x2)), (0, .ref (ta 0)), (1, .ref (ks u1))]) F.x F.b dX1_readForm_48 hl (k := 4) rfl rfl (by decide) rfl (fun ls hl => ?_)
            refine lv_goto (tgt := 7) F.x F.b dX1_readForm_51 (by decide) ?_
            exact ih (x2 + 1) C_9 _ _ _ w (lv_sub hl [3, 4, 0] rfl) h hk
          · have h := it c11 h
            refine lv_iconst (v := 0) F.x F.b dX1_readForm_46 (by decide) ?_
            obtain ⟨z0, z1⟩ := sm2 (sm h)
            exact ei F w hr hlocks rfl z0 (by rw [← z1]) dX1_readForm_47
  refine lv_aload_n F.x F.b dX1_readForm_0 rfl (lv_at hl 0 rfl) ?_
  refine lv_iconst (v := 0) F.x F.b dX1_readForm_1 (by decide) ?_
  refine rp F w (ws' := wTe G.2.1 ta (wrI C 4 0)) cl1 0 (at_Te_0 _ _ _) 6 (by decide) q211 rfl rfl rfl rfl (Nat.le_of_ble_eq_true rfl) (pt_Te_0_6 _ _ _ _) dX1_readForm_2 (fun H locs w => ?_)
  refine lv_iconst (v := 0) F.x F.b dX1_readForm_5 (by decide) ?_
  refine lv_istore_n (lv' := [(2, .int 0), (0, .ref (ta 0)), (1, .ref (ks u1))]) F.x F.b dX1_readForm_6 rfl hl (by decide) rfl (fun ls hl => ?_)
  refine L7 _ 0 (wrI C 4 0) _ _ _ w (lv_sub hl [1, 2, 0] rfl) h ?_
  intro C_12 H locs ls w hl h
  try dsimp only at h
  refine lv_iconst (v := 1) F.x F.b dX1_readForm_54 (by decide) ?_
  obtain ⟨z0, z1⟩ := sm2 (sm h)
  exact ei F w hr hlocks rfl z0 (by rw [← z1]) dX1_readForm_55
set_option maxRecDepth 100000 in
set_option maxHeartbeats 4000000 in
theorem t_X1_readCommand {G : cG} (g : GOK G) {ks kv : Nat → Nat} (hSG : SG G ks kv) {ta : Nat → Nat} {C : Mem} {r : Int32} {C' : Mem} (h : f_X1_readCommand C = some (r, C')) : CI G yX1_readCommand cX1_readCommand 4 .boolean 5 109 [.ref (ta 0)] (wTe G.2.1 ta C) (wTe G.2.1 ta C') r := by
  unfold f_X1_readCommand at h
  refine CI.of g (by decide) rfl (Nat.le_of_ble_eq_true rfl) ?_
  intro p l e s m below meth c A ls F hr hlocks w hl
  generalize ([.ref (ta 0)] : List Value).toArray = args
  have hl : lv_has ls 4 [(0, .ref (ta 0))] := hl
  have L9 : ∀ (x1 : Int32) {k : Int32 → Mem → Option (Int32 × Mem)} (n : Nat) (x2 : Int32) (x3 : Int32) (C : Mem) (H : Heap) (locs : List Loc) (ls : Array Slot), Wd G A s.heap (wTe G.2.1 ta C) H locs → lv_has ls 4 [(0, .ref (ta 0)), (1, .int x1), (2, .int x2), (3, .int x3)] → f_X1_readCommand_L9 x1 k n x2 x3 C = some (r, C') → (∀ (x2 : Int32) (C : Mem) (H : Heap) (locs : List Loc) (ls : Array Slot), Wd G A s.heap (wTe G.2.1 ta C) H locs → lv_has ls 4 [(0, .ref (ta 0)), (2, .int x2)] → k x2 C = some (r, C') → W p l e { frames := 5, cells := 0, slots := 0, locals := 109 } s m args below meth c H locs 0 0 (QI G A (wTe G.2.1 ta C') r below args s) (F0 m 53 ls [])) → W p l e { frames := 5, cells := 0, slots := 0, locals := 109 } s m args below meth c H locs 0 0 (QI G A (wTe G.2.1 ta C') r below args s) (F0 m 9 ls []) := by
    clear h w hl
    intro x1 k n
    induction n with
    | zero =>
      intro x2 x3 C H locs ls w hl h hk
      exact nomatch (show (none : Option (Int32 × Mem)) = some (r, C') from h)
    | succ n ih =>
      intro x2 x3 C H locs ls w hl h hk
      rw [f_X1_readCommand_L9] at h
      refine lv_iload_n F.x F.b dX1_readCommand_9 rfl (lv_at hl 3 rfl) ?_
      refine lv_bipush (v := 11) F.x F.b dX1_readCommand_10 (by decide) ?_
      refine lv_icmp_ge (tgt := 53) F.x F.b dX1_readCommand_12 (by decide) (fun c1 => ?_) (fun c1 => ?_)
      · have h := it c1 h
        exact hk x2 C _ _ _ w (lv_sub hl [0, 2] rfl) h
      · have h := ie c1 h
        refine lv_aload_n F.x F.b dX1_readCommand_15 rfl (lv_at hl 0 rfl) ?_
        refine lv_iload_n F.x F.b dX1_readCommand_16 rfl (lv_at hl 1 rfl) ?_
        refine rp F w (ws' := wTe G.2.1 ta (wrI C 1 x1)) cl1 0 (at_Te_0 _ _ _) 3 (by decide) q205 rfl rfl rfl rfl (Nat.le_of_ble_eq_true rfl) (pt_Te_0_3 _ _ _ _) dX1_readCommand_17 (fun H locs w => ?_)
        refine lv_aload_n F.x F.b dX1_readCommand_20 rfl (lv_at hl 0 rfl) ?_
        refine lv_iload_n F.x F.b dX1_readCommand_21 rfl (lv_at hl 3 rfl) ?_
        obtain ⟨r2, hc3, h⟩ := bd h
        try dsimp only at h
        refine kSr F w (t_X1_formOf F.1 hSG hc3) m_X1_formOf v_X1_formOf q1065 (As := [.int x3]) (rest := [.ref (ta 0)]) ⟨Nat.le_of_ble_eq_true rfl, Nat.le_of_ble_eq_true rfl⟩ rfl hl.1 rfl (Nat.le_of_ble_eq_true rfl) dX1_readCommand_22 ⟨Nat.le_of_ble_eq_true rfl, Nat.le_of_ble_eq_true rfl⟩ (fun H locs w => ?_)
        obtain ⟨⟨r4, C_5⟩, hc6, h⟩ := bd h
        try dsimp only at h
        refine kVi0 F w (As := [.ref (ks r2)]) (rest := []) (w1 := wTe G.2.1 ta C_5) (t_X1_readForm F.1 hSG (lt_X1_formOf hc3) hc6) m_X1_readForm v_X1_readForm q1079 (ci := 5) (q0 := 0) rfl rfl rfl ⟨Nat.le_of_ble_eq_true rfl, Nat.le_of_ble_eq_true rfl⟩ rfl hl.1 rfl (Nat.le_of_ble_eq_true rfl) dX1_readCommand_25 ⟨Nat.le_of_ble_eq_true rfl, Nat.le_of_ble_eq_true rfl⟩ (fun H locs w => ?_)
        refine lv_if_eq (tgt := 38) F.x F.b dX1_readCommand_28 (by decide) (fun c7 => ?_) (fun c7 => ?_)
        · have h := it c7 h
          refine lv_iload_n F.x F.b dX1_readCommand_38 rfl (lv_at hl 2 rfl) ?_
          refine lv_aload_n F.x F.b dX1_readCommand_39 rfl (lv_at hl 0 rfl) ?_
          refine rg F w cl1 0 (at_Te_0 _ _ _) 3 (by decide) q205 rfl (v := .int (C_5.1 1)) rfl dX1_readCommand_40 ?_
          refine va_mmax F.x F.b (F.ml.trans hl.1.symm) F.o (F.t _ q1097 rfl _) (F.t _ q347 rfl _) (F.t _ q34 rfl _) (F.t _ q348 rfl _) (by decide) (Nat.le_of_ble_eq_true rfl) (by decide) (by decide) dX1_readCommand_43 ?_
          refine lv_istore_n (lv' := [(2, .int (if x2 < (C_5.1 1) then (C_5.1 1) else x2)), (0, .ref (ta 0)), (1, .int x1), (3, .int x3)]) F.x F.b dX1_readCommand_46 rfl hl (by decide) rfl (fun ls hl => ?_)
          refine lv_iinc (v := (x3 + 1)) (lv' := [(3, .int (x3 + 1)), (2, .int (if x2 < (C_5.1 1) then (C_5.1 1) else x2)), (0, .ref (ta 0)), (1, .int x1)]) F.x F.b dX1_readCommand_47 hl (k := 3) rfl rfl (by decide) rfl (fun ls hl => ?_)
          refine lv_goto (tgt := 9) F.x F.b dX1_readCommand_50 (by decide) ?_
          exact ih (if x2 < (C_5.1 1) then (C_5.1 1) else x2) (x3 + 1) C_5 _ _ _ w (lv_sub hl [2, 3, 1, 0] rfl) h hk
        · have h := ie c7 h
          refine lv_aload_n F.x F.b dX1_readCommand_31 rfl (lv_at hl 0 rfl) ?_
          refine lv_iload_n F.x F.b dX1_readCommand_32 rfl (lv_at hl 3 rfl) ?_
          refine rp F w (ws' := wTe G.2.1 ta (wrI C_5 2 x3)) cl1 0 (at_Te_0 _ _ _) 4 (by decide) q207 rfl rfl rfl rfl (Nat.le_of_ble_eq_true rfl) (pt_Te_0_4 _ _ _ _) dX1_readCommand_33 (fun H locs w => ?_)
          refine lv_iconst (v := 1) F.x F.b dX1_readCommand_36 (by decide) ?_
          obtain ⟨z0, z1⟩ := sm2 (sm h)
          exact ei F w hr hlocks rfl z0 (by rw [← z1]) dX1_readCommand_37
  refine lv_aload_n F.x F.b dX1_readCommand_0 rfl (lv_at hl 0 rfl) ?_
  refine rg F w cl1 0 (at_Te_0 _ _ _) 3 (by decide) q205 rfl (v := .int (C.1 1)) rfl dX1_readCommand_1 ?_
  refine lv_istore_n (lv' := [(1, .int (C.1 1)), (0, .ref (ta 0))]) F.x F.b dX1_readCommand_4 rfl hl (by decide) rfl (fun ls hl => ?_)
  refine lv_iload_n F.x F.b dX1_readCommand_5 rfl (lv_at hl 0 rfl) ?_
  refine lv_istore_n (lv' := [(2, .int (C.1 1)), (1, .int (C.1 1)), (0, .ref (ta 0))]) F.x F.b dX1_readCommand_6 rfl hl (by decide) rfl (fun ls hl => ?_)
  refine lv_iconst (v := 0) F.x F.b dX1_readCommand_7 (by decide) ?_
  refine lv_istore_n (lv' := [(3, .int 0), (2, .int (C.1 1)), (1, .int (C.1 1)), (0, .ref (ta 0))]) F.x F.b dX1_readCommand_8 rfl hl (by decide) rfl (fun ls hl => ?_)
  refine L9 (C.1 1) _ (C.1 1) 0 C _ _ _ w (lv_sub hl [3, 2, 1, 0] rfl) h ?_
  intro y8_2 C_8 H locs ls w hl h
  try dsimp only at h
  refine lv_aload_n F.x F.b dX1_readCommand_53 rfl (lv_at hl 0 rfl) ?_
  refine lv_iload_n F.x F.b dX1_readCommand_54 rfl (lv_at hl 1 rfl) ?_
  refine rp F w (ws' := wTe G.2.1 ta (wrI C_8 1 y8_2)) cl1 0 (at_Te_0 _ _ _) 3 (by decide) q205 rfl rfl rfl rfl (Nat.le_of_ble_eq_true rfl) (pt_Te_0_3 _ _ _ _) dX1_readCommand_55 (fun H locs w => ?_)
  refine lv_iconst (v := 0) F.x F.b dX1_readCommand_58 (by decide) ?_
  obtain ⟨z0, z1⟩ := sm2 (sm h)
  exact ei F w hr hlocks rfl z0 (by rw [← z1]) dX1_readCommand_59
set_option maxRecDepth 100000 in
set_option maxHeartbeats 4000000 in
theorem t_X1_countCommands {G : cG} (g : GOK G) {ks kv : Nat → Nat} (hSG : SG G ks kv) {ta : Nat → Nat} {C : Mem} {r : Int32} {C' : Mem} (h : f_X1_countCommands C = some (r, C')) : CI G yX1_countCommands cX1_countCommands 2 .int 6 132 [.ref (ta 0)] (wTe G.2.1 ta C) (wTe G.2.1 ta C') r := by
  unfold f_X1_countCommands at h
  refine CI.of g (by decide) rfl (Nat.le_of_ble_eq_true rfl) ?_
  intro p l e s m below meth c A ls F hr hlocks w hl
  generalize ([.ref (ta 0)] : List Value).toArray = args
  have hl : lv_has ls 2 [(0, .ref (ta 0))] := hl
  have L6 : ∀ {k : Mem → Option (Int32 × Mem)} (n : Nat) (x1 : Int32) (C : Mem) (H : Heap) (locs : List Loc) (ls : Array Slot), Wd G A s.heap (wTe G.2.1 ta C) H locs → lv_has ls 2 [(0, .ref (ta 0)), (1, .int x1)] → f_X1_countCommands_L6 k n x1 C = some (r, C') → (∀ (C : Mem) (H : Heap) (locs : List Loc) (ls : Array Slot), Wd G A s.heap (wTe G.2.1 ta C) H locs → lv_has ls 2 [] → k C = some (r, C') → W p l e { frames := 6, cells := 0, slots := 0, locals := 132 } s m args below meth c H locs 0 0 (QI G A (wTe G.2.1 ta C') r below args s) (F0 m 60 ls [])) → W p l e { frames := 6, cells := 0, slots := 0, locals := 132 } s m args below meth c H locs 0 0 (QI G A (wTe G.2.1 ta C') r below args s) (F0 m 6 ls []) := by
    clear h w hl
    intro k n
    induction n with
    | zero =>
      intro x1 C H locs ls w hl h hk
      exact nomatch (show (none : Option (Int32 × Mem)) = some (r, C') from h)
    | succ n ih =>
      intro x1 C H locs ls w hl h hk
      rw [f_X1_countCommands_L6] at h
      refine lv_iload_n F.x F.b dX1_countCommands_6 rfl (lv_at hl 1 rfl) ?_
      refine lv_bipush (v := 60) F.x F.b dX1_countCommands_7 (by decide) ?_
      refine lv_icmp_gt (tgt := 60) F.x F.b dX1_countCommands_9 (by decide) (fun c3 => ?_) (fun c3 => ?_)
      · have h := it c3 h
        exact hk C _ _ _ w (lv_sub hl [] rfl) h
      · have h := ie c3 h
        refine lv_aload_n F.x F.b dX1_countCommands_12 rfl (lv_at hl 0 rfl) ?_
        obtain ⟨⟨r4, C_5⟩, hc6, h⟩ := bd h
        try dsimp only at h
        refine kVi0 F w (As := []) (rest := []) (w1 := wTe G.2.1 ta C_5) (t_X1_readCommand F.1 hSG hc6) m_X1_readCommand v_X1_readCommand q1061 (ci := 5) (q0 := 0) rfl rfl rfl ⟨Nat.le_of_ble_eq_true rfl, Nat.le_of_ble_eq_true rfl⟩ rfl hl.1 rfl (Nat.le_of_ble_eq_true rfl) dX1_countCommands_13 ⟨Nat.le_of_ble_eq_true rfl, Nat.le_of_ble_eq_true rfl⟩ (fun H locs w => ?_)
        refine lv_if_ne (tgt := 21) F.x F.b dX1_countCommands_16 (by decide) (fun c7 => ?_) (fun c7 => ?_)
        · have h := ie c7 h
          refine lv_aload_n F.x F.b dX1_countCommands_21 rfl (lv_at hl 0 rfl) ?_
          refine rg F w cl1 0 (at_Te_0 _ _ _) 3 (by decide) q205 rfl (v := .int (C_5.1 1)) rfl dX1_countCommands_22 ?_
          refine lv_aload_n F.x F.b dX1_countCommands_25 rfl (lv_at hl 0 rfl) ?_
          refine rg F w cl1 0 (at_Te_0 _ _ _) 2 (by decide) q203 rfl (v := .int (C_5.1 0)) rfl dX1_countCommands_26 ?_
          refine lv_icmp_lt (tgt := 34) F.x F.b dX1_countCommands_29 (by decide) (fun c8 => ?_) (fun c8 => ?_)
          · have h := it c8 h
            refine lv_aload_n F.x F.b dX1_countCommands_34 rfl (lv_at hl 0 rfl) ?_
            refine rg F w cl1 0 (at_Te_0 _ _ _) 0 (by decide) q200 rfl (v := .ref (ta 1)) rfl dX1_countCommands_35 ?_
            refine lv_aload_n F.x F.b dX1_countCommands_38 rfl (lv_at hl 0 rfl) ?_
            refine rg F w cl1 0 (at_Te_0 _ _ _) 3 (by decide) q205 rfl (v := .int (C_5.1 1)) rfl dX1_countCommands_39 ?_
            obtain ⟨g9, h⟩ := gd h
            refine rc F w 1 (n := 60) (f := C_5.2 0) (at_Te_1 _ _ _) g9 dX1_countCommands_42 ?_
            refine lv_bipush (v := 59) F.x F.b dX1_countCommands_43 (by decide) ?_
            refine lv_icmp_eq (tgt := 50) F.x F.b dX1_countCommands_45 (by decide) (fun c10 => ?_) (fun c10 => ?_)
            · have h := it c10 h
              refine lv_aload_n F.x F.b dX1_countCommands_50 rfl (lv_at hl 0 rfl) ?_
              obtain ⟨C_11, hc12, h⟩ := bd h
              try dsimp only at h
              refine kVv0 F w (As := []) (rest := []) (w1 := wTe G.2.1 ta C_11) (t_X1_skipSemicolon F.1 hc12) m_X1_skipSemicolon v_X1_skipSemicolon q1098 (ci := 5) (q0 := 0) rfl rfl rfl ⟨Nat.le_of_ble_eq_true rfl, Nat.le_of_ble_eq_true rfl⟩ rfl hl.1 rfl (Nat.le_of_ble_eq_true rfl) dX1_countCommands_51 ⟨Nat.le_of_ble_eq_true rfl, Nat.le_of_ble_eq_true rfl⟩ (fun H locs w => ?_)
              refine lv_iinc (v := (x1 + 1)) (lv' := [(1, .int (x1 + 1)), (0, .ref (ta 0))]) F.x F.b dX1_countCommands_54 hl (k := 1) rfl rfl (by decide) rfl (fun ls hl => ?_)
              refine lv_goto (tgt := 6) F.x F.b dX1_countCommands_57 (by decide) ?_
              exact ih (x1 + 1) C_11 _ _ _ w (lv_sub hl [1, 0] rfl) h hk
            · have h := ie c10 h
              refine lv_iconst (v := (-1)) F.x F.b dX1_countCommands_48 (by decide) ?_
              obtain ⟨z0, z1⟩ := sm2 (sm h)
              exact ei F w hr hlocks rfl z0 (by rw [← z1]) dX1_countCommands_49
          · have h := ie c8 h
            refine lv_iload_n F.x F.b dX1_countCommands_32 rfl (lv_at hl 1 rfl) ?_
            obtain ⟨z0, z1⟩ := sm2 (sm h)
            exact ei F w hr hlocks rfl z0 (by rw [← z1]) dX1_countCommands_33
        · have h := it c7 h
          refine lv_iconst (v := (-1)) F.x F.b dX1_countCommands_19 (by decide) ?_
          obtain ⟨z0, z1⟩ := sm2 (sm h)
          exact ei F w hr hlocks rfl z0 (by rw [← z1]) dX1_countCommands_20
  refine lv_aload_n F.x F.b dX1_countCommands_0 rfl (lv_at hl 0 rfl) ?_
  obtain ⟨C_1, hc2, h⟩ := bd h
  try dsimp only at h
  refine kVv0 F w (As := []) (rest := []) (w1 := wTe G.2.1 ta C_1) (t_X1_rewind F.1 hc2) m_X1_rewind v_X1_rewind q1057 (ci := 5) (q0 := 0) rfl rfl rfl ⟨Nat.le_of_ble_eq_true rfl, Nat.le_of_ble_eq_true rfl⟩ rfl hl.1 rfl (Nat.le_of_ble_eq_true rfl) dX1_countCommands_1 ⟨Nat.le_of_ble_eq_true rfl, Nat.le_of_ble_eq_true rfl⟩ (fun H locs w => ?_)
  refine lv_iconst (v := 1) F.x F.b dX1_countCommands_4 (by decide) ?_
  refine lv_istore_n (lv' := [(1, .int 1), (0, .ref (ta 0))]) F.x F.b dX1_countCommands_5 rfl hl (by decide) rfl (fun ls hl => ?_)
  refine L6 _ 1 C_1 _ _ _ w (lv_sub hl [1, 0] rfl) h ?_
  intro C_13 H locs ls w hl h
  try dsimp only at h
  refine lv_iconst (v := (-1)) F.x F.b dX1_countCommands_60 (by decide) ?_
  obtain ⟨z0, z1⟩ := sm2 (sm h)
  exact ei F w hr hlocks rfl z0 (by rw [← z1]) dX1_countCommands_61

/-! printed by wip/p61/tools/emit.py: the walks -/
set_option maxRecDepth 100000 in
set_option maxHeartbeats 4000000 in
theorem t_X4_copyFrom {G : cG} (g : GOK G) {a : Nat → Nat} {S : Mem} {b : Nat → Nat} {T : Mem} {S' : Mem} (h : f_X4_copyFrom S T = some S') : CV G yX4_copyFrom cX4_copyFrom 2 2 45 [.ref (a 0), .ref (b 0)] (wSh G.2.1 a S ++ wSh G.2.1 b T) (wSh G.2.1 a S' ++ wSh G.2.1 b T) := by
  unfold f_X4_copyFrom at h
  refine CV.of g (by decide) rfl (Nat.le_of_ble_eq_true rfl) ?_
  intro p l e s m below meth c A ls F hr hlocks w hl
  generalize ([.ref (a 0), .ref (b 0)] : List Value).toArray = args
  have hl : lv_has ls 2 [(0, .ref (a 0)), (1, .ref (b 0))] := hl
  refine lv_aload_n F.x F.b dX4_copyFrom_0 rfl (lv_at hl 0 rfl) ?_
  refine rg F w cl4 0 rfl 0 (by decide) q146 rfl (v := .ref (a 1)) rfl dX4_copyFrom_1 ?_
  refine lv_aload_n F.x F.b dX4_copyFrom_4 rfl (lv_at hl 1 rfl) ?_
  refine rg F w cl4 14 rfl 0 (by decide) q146 rfl (v := .ref (b 1)) rfl dX4_copyFrom_5 ?_
  obtain ⟨S_1, hc2, h⟩ := bd h
  try dsimp only at h
  refine kVv0 F w (As := [.ref (b 1)]) (rest := []) (w1 := wSh G.2.1 a S_1 ++ wSh G.2.1 b T) (t_X3_copyFrom F.1 hc2) m_X3_copyFrom v_X3_copyFrom q546 (ci := 7) (q0 := 1) rfl rfl rfl ⟨Nat.le_of_ble_eq_true rfl, Nat.le_of_ble_eq_true rfl⟩ rfl hl.1 rfl (Nat.le_of_ble_eq_true rfl) dX4_copyFrom_8 ⟨Nat.le_of_ble_eq_true rfl, Nat.le_of_ble_eq_true rfl⟩ (fun H locs w => ?_)
  refine lv_aload_n F.x F.b dX4_copyFrom_11 rfl (lv_at hl 0 rfl) ?_
  refine rg F w cl4 0 rfl 1 (by decide) q148 rfl (v := .ref (a 9)) rfl dX4_copyFrom_12 ?_
  refine lv_aload_n F.x F.b dX4_copyFrom_15 rfl (lv_at hl 1 rfl) ?_
  refine rg F w cl4 14 rfl 1 (by decide) q148 rfl (v := .ref (b 9)) rfl dX4_copyFrom_16 ?_
  obtain ⟨S_3, hc4, h⟩ := bd h
  try dsimp only at h
  refine kVv0 F w (As := [.ref (b 9)]) (rest := []) (w1 := wSh G.2.1 a S_3 ++ wSh G.2.1 b T) (t_X5_copyFrom F.1 hc4) m_X5_copyFrom v_X5_copyFrom q554 (ci := 9) (q0 := 9) rfl rfl rfl ⟨Nat.le_of_ble_eq_true rfl, Nat.le_of_ble_eq_true rfl⟩ rfl hl.1 rfl (Nat.le_of_ble_eq_true rfl) dX4_copyFrom_19 ⟨Nat.le_of_ble_eq_true rfl, Nat.le_of_ble_eq_true rfl⟩ (fun H locs w => ?_)
  refine lv_aload_n F.x F.b dX4_copyFrom_22 rfl (lv_at hl 0 rfl) ?_
  refine rg F w cl4 0 rfl 2 (by decide) q150 rfl (v := .ref (a 12)) rfl dX4_copyFrom_23 ?_
  refine lv_aload_n F.x F.b dX4_copyFrom_26 rfl (lv_at hl 1 rfl) ?_
  refine rg F w cl4 14 rfl 2 (by decide) q150 rfl (v := .ref (b 12)) rfl dX4_copyFrom_27 ?_
  obtain ⟨S_5, hc6, h⟩ := bd h
  try dsimp only at h
  refine kVv0 F w (As := [.ref (b 12)]) (rest := []) (w1 := wSh G.2.1 a S_5 ++ wSh G.2.1 b T) (t_X0_copyFrom F.1 hc6) m_X0_copyFrom v_X0_copyFrom q558 (ci := 4) (q0 := 12) rfl rfl rfl ⟨Nat.le_of_ble_eq_true rfl, Nat.le_of_ble_eq_true rfl⟩ rfl hl.1 rfl (Nat.le_of_ble_eq_true rfl) dX4_copyFrom_30 ⟨Nat.le_of_ble_eq_true rfl, Nat.le_of_ble_eq_true rfl⟩ (fun H locs w => ?_)
  refine lv_aload_n F.x F.b dX4_copyFrom_33 rfl (lv_at hl 0 rfl) ?_
  refine lv_aload_n F.x F.b dX4_copyFrom_34 rfl (lv_at hl 1 rfl) ?_
  refine rg F w cl4 14 rfl 3 (by decide) q152 rfl (v := .int (T.1 3)) rfl dX4_copyFrom_35 ?_
  refine rp F w (ws' := wSh G.2.1 a (wrI S_5 3 (T.1 3)) ++ wSh G.2.1 b T) cl4 0 rfl 3 (by decide) q152 rfl rfl rfl rfl (Nat.le_of_ble_eq_true rfl) rfl dX4_copyFrom_38 (fun H locs w => ?_)
  refine lv_aload_n F.x F.b dX4_copyFrom_41 rfl (lv_at hl 0 rfl) ?_
  refine lv_aload_n F.x F.b dX4_copyFrom_42 rfl (lv_at hl 1 rfl) ?_
  refine rg F w cl4 14 rfl 4 (by decide) q154 rfl (v := .int (T.1 4)) rfl dX4_copyFrom_43 ?_
  refine rp F w (ws' := wSh G.2.1 a (wrI (wrI S_5 3 (T.1 3)) 4 (T.1 4)) ++ wSh G.2.1 b T) cl4 0 rfl 4 (by decide) q154 rfl rfl rfl rfl (Nat.le_of_ble_eq_true rfl) rfl dX4_copyFrom_46 (fun H locs w => ?_)
  refine lv_aload_n F.x F.b dX4_copyFrom_49 rfl (lv_at hl 0 rfl) ?_
  refine lv_aload_n F.x F.b dX4_copyFrom_50 rfl (lv_at hl 1 rfl) ?_
  refine rg F w cl4 14 rfl 5 (by decide) q156 rfl (v := .int (T.1 5)) rfl dX4_copyFrom_51 ?_
  refine rp F w (ws' := wSh G.2.1 a (wrI (wrI (wrI S_5 3 (T.1 3)) 4 (T.1 4)) 5 (T.1 5)) ++ wSh G.2.1 b T) cl4 0 rfl 5 (by decide) q156 rfl rfl rfl rfl (Nat.le_of_ble_eq_true rfl) rfl dX4_copyFrom_54 (fun H locs w => ?_)
  refine lv_aload_n F.x F.b dX4_copyFrom_57 rfl (lv_at hl 0 rfl) ?_
  refine lv_aload_n F.x F.b dX4_copyFrom_58 rfl (lv_at hl 1 rfl) ?_
  refine rg F w cl4 14 rfl 6 (by decide) q158 rfl (v := .int (T.1 6)) rfl dX4_copyFrom_59 ?_
  refine rp F w (ws' := wSh G.2.1 a (wrI (wrI (wrI (wrI S_5 3 (T.1 3)) 4 (T.1 4)) 5 (T.1 5)) 6 (T.1 6)) ++ wSh G.2.1 b T) cl4 0 rfl 6 (by decide) q158 rfl rfl rfl rfl (Nat.le_of_ble_eq_true rfl) rfl dX4_copyFrom_62 (fun H locs w => ?_)
  have z0 := sm h
  exact ev F w hr hlocks (by rw [← z0]) dX4_copyFrom_65
set_option maxRecDepth 100000 in
set_option maxHeartbeats 4000000 in
theorem t_X4_takeIn {G : cG} (g : GOK G) {a : Nat → Nat} {S : Mem} {x1 x2 x3 x4 : Int32} {r : Int32} {S' : Mem} (h : f_X4_takeIn S x1 x2 x3 x4 = some (r, S')) : CI G yX4_takeIn cX4_takeIn 7 .int 1 25 [.ref (a 0), .int x1, .int x2, .int x3, .int x4] (wSh G.2.1 a S) (wSh G.2.1 a S') r := by
  unfold f_X4_takeIn at h
  refine CI.of g (by decide) rfl (Nat.le_of_ble_eq_true rfl) ?_
  intro p l e s m below meth c A ls F hr hlocks w hl
  generalize ([.ref (a 0), .int x1, .int x2, .int x3, .int x4] : List Value).toArray = args
  have hl : lv_has ls 7 [(0, .ref (a 0)), (1, .int x1), (2, .int x2), (3, .int x3), (4, .int x4)] := hl
  refine lv_iload F.x F.b dX4_takeIn_0 (lv_at hl 4 rfl) ?_
  obtain ⟨r1, hc2, h⟩ := bd h
  try dsimp only at h
  refine kSNi F w (t_X6_isBay F.1 hc2) m_X6_isBay v_X6_isBay q626 (As := [.int x4]) (rest := []) ⟨Nat.le_of_ble_eq_true rfl, Nat.le_of_ble_eq_true rfl⟩ rfl hl.1 rfl (Nat.le_of_ble_eq_true rfl) dX4_takeIn_2 ⟨Nat.le_of_ble_eq_true rfl, Nat.le_of_ble_eq_true rfl⟩ (fun H locs w => ?_)
  refine lv_if_ne (tgt := 11) F.x F.b dX4_takeIn_5 (by decide) (fun c3 => ?_) (fun c3 => ?_)
  · have h := ie c3 h
    refine lv_iload_n F.x F.b dX4_takeIn_11 rfl (lv_at hl 2 rfl) ?_
    refine lv_iconst (v := 1) F.x F.b dX4_takeIn_12 (by decide) ?_
    refine lv_icmp_lt (tgt := 26) F.x F.b dX4_takeIn_13 (by decide) (fun c4 => ?_) (fun c4 => ?_)
    · have h := it c4 h
      refine lv_iconst (v := 0) F.x F.b dX4_takeIn_26 (by decide) ?_
      refine lv_istore (lv' := [(5, .int 0), (0, .ref (a 0)), (1, .int x1), (2, .int x2), (3, .int x3), (4, .int x4)]) F.x F.b dX4_takeIn_27 hl (by decide) rfl (fun ls hl => ?_)
      refine lv_iload_n F.x F.b dX4_takeIn_29 rfl (lv_at hl 4 rfl) ?_
      refine lv_iconst (v := 1) F.x F.b dX4_takeIn_30 (by decide) ?_
      refine lv_icmp_lt (tgt := 44) F.x F.b dX4_takeIn_31 (by decide) (fun c5 => ?_) (fun c5 => ?_)
      · have h := it c5 h
        refine lv_iconst (v := 0) F.x F.b dX4_takeIn_44 (by decide) ?_
        refine lv_istore (lv' := [(6, .int 0), (5, .int 0), (0, .ref (a 0)), (1, .int x1), (2, .int x2), (3, .int x3), (4, .int x4)]) F.x F.b dX4_takeIn_45 hl (by decide) rfl (fun ls hl => ?_)
        refine lv_iload_n F.x F.b dX4_takeIn_47 rfl (lv_at hl 3 rfl) ?_
        obtain ⟨r6, hc7, h⟩ := bd h
        try dsimp only at h
        refine kSNi F w (t_X6_isKind F.1 hc7) m_X6_isKind v_X6_isKind q627 (As := [.int x1]) (rest := []) ⟨Nat.le_of_ble_eq_true rfl, Nat.le_of_ble_eq_true rfl⟩ rfl hl.1 rfl (Nat.le_of_ble_eq_true rfl) dX4_takeIn_48 ⟨Nat.le_of_ble_eq_true rfl, Nat.le_of_ble_eq_true rfl⟩ (fun H locs w => ?_)
        refine lv_if_eq (tgt := 64) F.x F.b dX4_takeIn_51 (by decide) (fun c8 => ?_) (fun c8 => ?_)
        · have h := it c8 h
          refine lv_bipush (v := (-3)) F.x F.b dX4_takeIn_64 (by decide) ?_
          obtain ⟨z0, z1⟩ := sm2 (sm h)
          exact ei F w hr hlocks rfl z0 (by rw [← z1]) dX4_takeIn_66
        · have h := ie c8 h
          refine lv_iload F.x F.b dX4_takeIn_54 (lv_at hl 1 rfl) ?_
          refine lv_if_eq (tgt := 64) F.x F.b dX4_takeIn_56 (by decide) (fun _ => ?_) (fun c9 => absurd (by decide) c9)
          refine lv_bipush (v := (-3)) F.x F.b dX4_takeIn_64 (by decide) ?_
          obtain ⟨z0, z1⟩ := sm2 (sm h)
          exact ei F w hr hlocks rfl z0 (by rw [← z1]) dX4_takeIn_66
      · have h := ie c5 h
        refine lv_iload_n F.x F.b dX4_takeIn_34 rfl (lv_at hl 4 rfl) ?_
        refine lv_bipush (v := 99) F.x F.b dX4_takeIn_35 (by decide) ?_
        refine lv_icmp_gt (tgt := 44) F.x F.b dX4_takeIn_37 (by decide) (fun c9 => ?_) (fun c9 => ?_)
        · have h := it c9 h
          refine lv_iconst (v := 0) F.x F.b dX4_takeIn_44 (by decide) ?_
          refine lv_istore (lv' := [(6, .int 0), (5, .int 0), (0, .ref (a 0)), (1, .int x1), (2, .int x2), (3, .int x3), (4, .int x4)]) F.x F.b dX4_takeIn_45 hl (by decide) rfl (fun ls hl => ?_)
          refine lv_iload_n F.x F.b dX4_takeIn_47 rfl (lv_at hl 3 rfl) ?_
          obtain ⟨r10, hc11, h⟩ := bd h
          try dsimp only at h
          refine kSNi F w (t_X6_isKind F.1 hc11) m_X6_isKind v_X6_isKind q627 (As := [.int x1]) (rest := []) ⟨Nat.le_of_ble_eq_true rfl, Nat.le_of_ble_eq_true rfl⟩ rfl hl.1 rfl (Nat.le_of_ble_eq_true rfl) dX4_takeIn_48 ⟨Nat.le_of_ble_eq_true rfl, Nat.le_of_ble_eq_true rfl⟩ (fun H locs w => ?_)
          refine lv_if_eq (tgt := 64) F.x F.b dX4_takeIn_51 (by decide) (fun c12 => ?_) (fun c12 => ?_)
          · have h := it c12 h
            refine lv_bipush (v := (-3)) F.x F.b dX4_takeIn_64 (by decide) ?_
            obtain ⟨z0, z1⟩ := sm2 (sm h)
            exact ei F w hr hlocks rfl z0 (by rw [← z1]) dX4_takeIn_66
          · have h := ie c12 h
            refine lv_iload F.x F.b dX4_takeIn_54 (lv_at hl 1 rfl) ?_
            refine lv_if_eq (tgt := 64) F.x F.b dX4_takeIn_56 (by decide) (fun _ => ?_) (fun c9 => absurd (by decide) c9)
            refine lv_bipush (v := (-3)) F.x F.b dX4_takeIn_64 (by decide) ?_
            obtain ⟨z0, z1⟩ := sm2 (sm h)
            exact ei F w hr hlocks rfl z0 (by rw [← z1]) dX4_takeIn_66
        · have h := ie c9 h
          refine lv_iconst (v := 1) F.x F.b dX4_takeIn_40 (by decide) ?_
          refine lv_goto (tgt := 45) F.x F.b dX4_takeIn_41 (by decide) ?_
          refine lv_istore (lv' := [(6, .int 1), (5, .int 0), (0, .ref (a 0)), (1, .int x1), (2, .int x2), (3, .int x3), (4, .int x4)]) F.x F.b dX4_takeIn_45 hl (by decide) rfl (fun ls hl => ?_)
          refine lv_iload_n F.x F.b dX4_takeIn_47 rfl (lv_at hl 3 rfl) ?_
          obtain ⟨r13, hc14, h⟩ := bd h
          try dsimp only at h
          refine kSNi F w (t_X6_isKind F.1 hc14) m_X6_isKind v_X6_isKind q627 (As := [.int x1]) (rest := []) ⟨Nat.le_of_ble_eq_true rfl, Nat.le_of_ble_eq_true rfl⟩ rfl hl.1 rfl (Nat.le_of_ble_eq_true rfl) dX4_takeIn_48 ⟨Nat.le_of_ble_eq_true rfl, Nat.le_of_ble_eq_true rfl⟩ (fun H locs w => ?_)
          refine lv_if_eq (tgt := 64) F.x F.b dX4_takeIn_51 (by decide) (fun c15 => ?_) (fun c15 => ?_)
          · have h := it c15 h
            refine lv_bipush (v := (-3)) F.x F.b dX4_takeIn_64 (by decide) ?_
            obtain ⟨z0, z1⟩ := sm2 (sm h)
            exact ei F w hr hlocks rfl z0 (by rw [← z1]) dX4_takeIn_66
          · have h := ie c15 h
            refine lv_iload F.x F.b dX4_takeIn_54 (lv_at hl 1 rfl) ?_
            refine lv_if_eq (tgt := 64) F.x F.b dX4_takeIn_56 (by decide) (fun _ => ?_) (fun c9 => absurd (by decide) c9)
            refine lv_bipush (v := (-3)) F.x F.b dX4_takeIn_64 (by decide) ?_
            obtain ⟨z0, z1⟩ := sm2 (sm h)
            exact ei F w hr hlocks rfl z0 (by rw [← z1]) dX4_takeIn_66
    · have h := ie c4 h
      refine lv_iload_n F.x F.b dX4_takeIn_16 rfl (lv_at hl 2 rfl) ?_
      refine lv_bipush (v := 99) F.x F.b dX4_takeIn_17 (by decide) ?_
      refine lv_icmp_gt (tgt := 26) F.x F.b dX4_takeIn_19 (by decide) (fun c16 => ?_) (fun c16 => ?_)
      · have h := it c16 h
        refine lv_iconst (v := 0) F.x F.b dX4_takeIn_26 (by decide) ?_
        refine lv_istore (lv' := [(5, .int 0), (0, .ref (a 0)), (1, .int x1), (2, .int x2), (3, .int x3), (4, .int x4)]) F.x F.b dX4_takeIn_27 hl (by decide) rfl (fun ls hl => ?_)
        refine lv_iload_n F.x F.b dX4_takeIn_29 rfl (lv_at hl 4 rfl) ?_
        refine lv_iconst (v := 1) F.x F.b dX4_takeIn_30 (by decide) ?_
        refine lv_icmp_lt (tgt := 44) F.x F.b dX4_takeIn_31 (by decide) (fun c17 => ?_) (fun c17 => ?_)
        · have h := it c17 h
          refine lv_iconst (v := 0) F.x F.b dX4_takeIn_44 (by decide) ?_
          refine lv_istore (lv' := [(6, .int 0), (5, .int 0), (0, .ref (a 0)), (1, .int x1), (2, .int x2), (3, .int x3), (4, .int x4)]) F.x F.b dX4_takeIn_45 hl (by decide) rfl (fun ls hl => ?_)
          refine lv_iload_n F.x F.b dX4_takeIn_47 rfl (lv_at hl 3 rfl) ?_
          obtain ⟨r18, hc19, h⟩ := bd h
          try dsimp only at h
          refine kSNi F w (t_X6_isKind F.1 hc19) m_X6_isKind v_X6_isKind q627 (As := [.int x1]) (rest := []) ⟨Nat.le_of_ble_eq_true rfl, Nat.le_of_ble_eq_true rfl⟩ rfl hl.1 rfl (Nat.le_of_ble_eq_true rfl) dX4_takeIn_48 ⟨Nat.le_of_ble_eq_true rfl, Nat.le_of_ble_eq_true rfl⟩ (fun H locs w => ?_)
          refine lv_if_eq (tgt := 64) F.x F.b dX4_takeIn_51 (by decide) (fun c20 => ?_) (fun c20 => ?_)
          · have h := it c20 h
            refine lv_bipush (v := (-3)) F.x F.b dX4_takeIn_64 (by decide) ?_
            obtain ⟨z0, z1⟩ := sm2 (sm h)
            exact ei F w hr hlocks rfl z0 (by rw [← z1]) dX4_takeIn_66
          · have h := ie c20 h
            refine lv_iload F.x F.b dX4_takeIn_54 (lv_at hl 1 rfl) ?_
            refine lv_if_eq (tgt := 64) F.x F.b dX4_takeIn_56 (by decide) (fun _ => ?_) (fun c9 => absurd (by decide) c9)
            refine lv_bipush (v := (-3)) F.x F.b dX4_takeIn_64 (by decide) ?_
            obtain ⟨z0, z1⟩ := sm2 (sm h)
            exact ei F w hr hlocks rfl z0 (by rw [← z1]) dX4_takeIn_66
        · have h := ie c17 h
          refine lv_iload_n F.x F.b dX4_takeIn_34 rfl (lv_at hl 4 rfl) ?_
          refine lv_bipush (v := 99) F.x F.b dX4_takeIn_35 (by decide) ?_
          refine lv_icmp_gt (tgt := 44) F.x F.b dX4_takeIn_37 (by decide) (fun c21 => ?_) (fun c21 => ?_)
          · have h := it c21 h
            refine lv_iconst (v := 0) F.x F.b dX4_takeIn_44 (by decide) ?_
            refine lv_istore (lv' := [(6, .int 0), (5, .int 0), (0, .ref (a 0)), (1, .int x1), (2, .int x2), (3, .int x3), (4, .int x4)]) F.x F.b dX4_takeIn_45 hl (by decide) rfl (fun ls hl => ?_)
            refine lv_iload_n F.x F.b dX4_takeIn_47 rfl (lv_at hl 3 rfl) ?_
            obtain ⟨r22, hc23, h⟩ := bd h
            try dsimp only at h
            refine kSNi F w (t_X6_isKind F.1 hc23) m_X6_isKind v_X6_isKind q627 (As := [.int x1]) (rest := []) ⟨Nat.le_of_ble_eq_true rfl, Nat.le_of_ble_eq_true rfl⟩ rfl hl.1 rfl (Nat.le_of_ble_eq_true rfl) dX4_takeIn_48 ⟨Nat.le_of_ble_eq_true rfl, Nat.le_of_ble_eq_true rfl⟩ (fun H locs w => ?_)
            refine lv_if_eq (tgt := 64) F.x F.b dX4_takeIn_51 (by decide) (fun c24 => ?_) (fun c24 => ?_)
            · have h := it c24 h
              refine lv_bipush (v := (-3)) F.x F.b dX4_takeIn_64 (by decide) ?_
              obtain ⟨z0, z1⟩ := sm2 (sm h)
              exact ei F w hr hlocks rfl z0 (by rw [← z1]) dX4_takeIn_66
            · have h := ie c24 h
              refine lv_iload F.x F.b dX4_takeIn_54 (lv_at hl 1 rfl) ?_
              refine lv_if_eq (tgt := 64) F.x F.b dX4_takeIn_56 (by decide) (fun _ => ?_) (fun c9 => absurd (by decide) c9)
              refine lv_bipush (v := (-3)) F.x F.b dX4_takeIn_64 (by decide) ?_
              obtain ⟨z0, z1⟩ := sm2 (sm h)
              exact ei F w hr hlocks rfl z0 (by rw [← z1]) dX4_takeIn_66
          · have h := ie c21 h
            refine lv_iconst (v := 1) F.x F.b dX4_takeIn_40 (by decide) ?_
            refine lv_goto (tgt := 45) F.x F.b dX4_takeIn_41 (by decide) ?_
            refine lv_istore (lv' := [(6, .int 1), (5, .int 0), (0, .ref (a 0)), (1, .int x1), (2, .int x2), (3, .int x3), (4, .int x4)]) F.x F.b dX4_takeIn_45 hl (by decide) rfl (fun ls hl => ?_)
            refine lv_iload_n F.x F.b dX4_takeIn_47 rfl (lv_at hl 3 rfl) ?_
            obtain ⟨r25, hc26, h⟩ := bd h
            try dsimp only at h
            refine kSNi F w (t_X6_isKind F.1 hc26) m_X6_isKind v_X6_isKind q627 (As := [.int x1]) (rest := []) ⟨Nat.le_of_ble_eq_true rfl, Nat.le_of_ble_eq_true rfl⟩ rfl hl.1 rfl (Nat.le_of_ble_eq_true rfl) dX4_takeIn_48 ⟨Nat.le_of_ble_eq_true rfl, Nat.le_of_ble_eq_true rfl⟩ (fun H locs w => ?_)
            refine lv_if_eq (tgt := 64) F.x F.b dX4_takeIn_51 (by decide) (fun c27 => ?_) (fun c27 => ?_)
            · have h := it c27 h
              refine lv_bipush (v := (-3)) F.x F.b dX4_takeIn_64 (by decide) ?_
              obtain ⟨z0, z1⟩ := sm2 (sm h)
              exact ei F w hr hlocks rfl z0 (by rw [← z1]) dX4_takeIn_66
            · have h := ie c27 h
              refine lv_iload F.x F.b dX4_takeIn_54 (lv_at hl 1 rfl) ?_
              refine lv_if_eq (tgt := 64) F.x F.b dX4_takeIn_56 (by decide) (fun _ => ?_) (fun c9 => absurd (by decide) c9)
              refine lv_bipush (v := (-3)) F.x F.b dX4_takeIn_64 (by decide) ?_
              obtain ⟨z0, z1⟩ := sm2 (sm h)
              exact ei F w hr hlocks rfl z0 (by rw [← z1]) dX4_takeIn_66
      · have h := ie c16 h
        refine lv_iconst (v := 1) F.x F.b dX4_takeIn_22 (by decide) ?_
        refine lv_goto (tgt := 27) F.x F.b dX4_takeIn_23 (by decide) ?_
        refine lv_istore (lv' := [(5, .int 1), (0, .ref (a 0)), (1, .int x1), (2, .int x2), (3, .int x3), (4, .int x4)]) F.x F.b dX4_takeIn_27 hl (by decide) rfl (fun ls hl => ?_)
        refine lv_iload_n F.x F.b dX4_takeIn_29 rfl (lv_at hl 4 rfl) ?_
        refine lv_iconst (v := 1) F.x F.b dX4_takeIn_30 (by decide) ?_
        refine lv_icmp_lt (tgt := 44) F.x F.b dX4_takeIn_31 (by decide) (fun c28 => ?_) (fun c28 => ?_)
        · have h := it c28 h
          refine lv_iconst (v := 0) F.x F.b dX4_takeIn_44 (by decide) ?_
          refine lv_istore (lv' := [(6, .int 0), (5, .int 1), (0, .ref (a 0)), (1, .int x1), (2, .int x2), (3, .int x3), (4, .int x4)]) F.x F.b dX4_takeIn_45 hl (by decide) rfl (fun ls hl => ?_)
          refine lv_iload_n F.x F.b dX4_takeIn_47 rfl (lv_at hl 3 rfl) ?_
          obtain ⟨r29, hc30, h⟩ := bd h
          try dsimp only at h
          refine kSNi F w (t_X6_isKind F.1 hc30) m_X6_isKind v_X6_isKind q627 (As := [.int x1]) (rest := []) ⟨Nat.le_of_ble_eq_true rfl, Nat.le_of_ble_eq_true rfl⟩ rfl hl.1 rfl (Nat.le_of_ble_eq_true rfl) dX4_takeIn_48 ⟨Nat.le_of_ble_eq_true rfl, Nat.le_of_ble_eq_true rfl⟩ (fun H locs w => ?_)
          refine lv_if_eq (tgt := 64) F.x F.b dX4_takeIn_51 (by decide) (fun c31 => ?_) (fun c31 => ?_)
          · have h := it c31 h
            refine lv_bipush (v := (-3)) F.x F.b dX4_takeIn_64 (by decide) ?_
            obtain ⟨z0, z1⟩ := sm2 (sm h)
            exact ei F w hr hlocks rfl z0 (by rw [← z1]) dX4_takeIn_66
          · have h := ie c31 h
            refine lv_iload F.x F.b dX4_takeIn_54 (lv_at hl 1 rfl) ?_
            refine lv_if_eq (tgt := 64) F.x F.b dX4_takeIn_56 (by decide) (fun c9 => absurd c9 (by decide)) (fun _ => ?_)
            refine lv_iload F.x F.b dX4_takeIn_59 (lv_at hl 0 rfl) ?_
            refine lv_if_ne (tgt := 67) F.x F.b dX4_takeIn_61 (by decide) (fun c9 => absurd (by decide) c9) (fun _ => ?_)
            refine lv_bipush (v := (-3)) F.x F.b dX4_takeIn_64 (by decide) ?_
            obtain ⟨z0, z1⟩ := sm2 (sm h)
            exact ei F w hr hlocks rfl z0 (by rw [← z1]) dX4_takeIn_66
        · have h := ie c28 h
          refine lv_iload_n F.x F.b dX4_takeIn_34 rfl (lv_at hl 4 rfl) ?_
          refine lv_bipush (v := 99) F.x F.b dX4_takeIn_35 (by decide) ?_
          refine lv_icmp_gt (tgt := 44) F.x F.b dX4_takeIn_37 (by decide) (fun c32 => ?_) (fun c32 => ?_)
          · have h := it c32 h
            refine lv_iconst (v := 0) F.x F.b dX4_takeIn_44 (by decide) ?_
            refine lv_istore (lv' := [(6, .int 0), (5, .int 1), (0, .ref (a 0)), (1, .int x1), (2, .int x2), (3, .int x3), (4, .int x4)]) F.x F.b dX4_takeIn_45 hl (by decide) rfl (fun ls hl => ?_)
            refine lv_iload_n F.x F.b dX4_takeIn_47 rfl (lv_at hl 3 rfl) ?_
            obtain ⟨r33, hc34, h⟩ := bd h
            try dsimp only at h
            refine kSNi F w (t_X6_isKind F.1 hc34) m_X6_isKind v_X6_isKind q627 (As := [.int x1]) (rest := []) ⟨Nat.le_of_ble_eq_true rfl, Nat.le_of_ble_eq_true rfl⟩ rfl hl.1 rfl (Nat.le_of_ble_eq_true rfl) dX4_takeIn_48 ⟨Nat.le_of_ble_eq_true rfl, Nat.le_of_ble_eq_true rfl⟩ (fun H locs w => ?_)
            refine lv_if_eq (tgt := 64) F.x F.b dX4_takeIn_51 (by decide) (fun c35 => ?_) (fun c35 => ?_)
            · have h := it c35 h
              refine lv_bipush (v := (-3)) F.x F.b dX4_takeIn_64 (by decide) ?_
              obtain ⟨z0, z1⟩ := sm2 (sm h)
              exact ei F w hr hlocks rfl z0 (by rw [← z1]) dX4_takeIn_66
            · have h := ie c35 h
              refine lv_iload F.x F.b dX4_takeIn_54 (lv_at hl 1 rfl) ?_
              refine lv_if_eq (tgt := 64) F.x F.b dX4_takeIn_56 (by decide) (fun c9 => absurd c9 (by decide)) (fun _ => ?_)
              refine lv_iload F.x F.b dX4_takeIn_59 (lv_at hl 0 rfl) ?_
              refine lv_if_ne (tgt := 67) F.x F.b dX4_takeIn_61 (by decide) (fun c9 => absurd (by decide) c9) (fun _ => ?_)
              refine lv_bipush (v := (-3)) F.x F.b dX4_takeIn_64 (by decide) ?_
              obtain ⟨z0, z1⟩ := sm2 (sm h)
              exact ei F w hr hlocks rfl z0 (by rw [← z1]) dX4_takeIn_66
          · have h := ie c32 h
            refine lv_iconst (v := 1) F.x F.b dX4_takeIn_40 (by decide) ?_
            refine lv_goto (tgt := 45) F.x F.b dX4_takeIn_41 (by decide) ?_
            refine lv_istore (lv' := [(6, .int 1), (5, .int 1), (0, .ref (a 0)), (1, .int x1), (2, .int x2), (3, .int x3), (4, .int x4)]) F.x F.b dX4_takeIn_45 hl (by decide) rfl (fun ls hl => ?_)
            refine lv_iload_n F.x F.b dX4_takeIn_47 rfl (lv_at hl 3 rfl) ?_
            obtain ⟨r36, hc37, h⟩ := bd h
            try dsimp only at h
            refine kSNi F w (t_X6_isKind F.1 hc37) m_X6_isKind v_X6_isKind q627 (As := [.int x1]) (rest := []) ⟨Nat.le_of_ble_eq_true rfl, Nat.le_of_ble_eq_true rfl⟩ rfl hl.1 rfl (Nat.le_of_ble_eq_true rfl) dX4_takeIn_48 ⟨Nat.le_of_ble_eq_true rfl, Nat.le_of_ble_eq_true rfl⟩ (fun H locs w => ?_)
            refine lv_if_eq (tgt := 64) F.x F.b dX4_takeIn_51 (by decide) (fun c38 => ?_) (fun c38 => ?_)
            · have h := it c38 h
              refine lv_bipush (v := (-3)) F.x F.b dX4_takeIn_64 (by decide) ?_
              obtain ⟨z0, z1⟩ := sm2 (sm h)
              exact ei F w hr hlocks rfl z0 (by rw [← z1]) dX4_takeIn_66
            · have h := ie c38 h
              refine lv_iload F.x F.b dX4_takeIn_54 (lv_at hl 1 rfl) ?_
              refine lv_if_eq (tgt := 64) F.x F.b dX4_takeIn_56 (by decide) (fun c9 => absurd c9 (by decide)) (fun _ => ?_)
              refine lv_iload F.x F.b dX4_takeIn_59 (lv_at hl 0 rfl) ?_
              refine lv_if_ne (tgt := 67) F.x F.b dX4_takeIn_61 (by decide) (fun _ => ?_) (fun c9 => absurd c9 (by decide))
              refine lv_aload_n F.x F.b dX4_takeIn_67 rfl (lv_at hl 2 rfl) ?_
              refine rg F w cl4 0 (at_Sh_0 _ _ _) 0 (by decide) q146 rfl (v := .ref (a 1)) rfl dX4_takeIn_68 ?_
              refine rgN F w cl3 1 (at_Sh_1 _ _ _) 7 (by decide) q85 rfl (v := .int (S.1 0)) rfl dX4_takeIn_71 ?_
              refine lv_bipush (v := 16) F.x F.b dX4_takeIn_74 (by decide) ?_
              refine lv_icmp_lt (tgt := 82) F.x F.b dX4_takeIn_76 (by decide) (fun c39 => ?_) (fun c39 => ?_)
              · have h := it c39 h
                refine lv_aload_n F.x F.b dX4_takeIn_82 rfl (lv_at hl 2 rfl) ?_
                refine rg F w cl4 0 (at_Sh_0 _ _ _) 0 (by decide) q146 rfl (v := .ref (a 1)) rfl dX4_takeIn_83 ?_
                refine lv_iload F.x F.b dX4_takeIn_86 (lv_at hl 6 rfl) ?_
                obtain ⟨r40, hc41, h⟩ := bd h
                try dsimp only at h
                refine kVi0 F w (As := [.int x4]) (rest := []) (w1 := wSh G.2.1 a S) (t_X3_slotAt F.1 hc41) m_X3_slotAt v_X3_slotAt q630 (ci := 7) (q0 := 1) rfl rfl rfl ⟨Nat.le_of_ble_eq_true rfl, Nat.le_of_ble_eq_true rfl⟩ rfl hl.1 rfl (Nat.le_of_ble_eq_true rfl) dX4_takeIn_88 ⟨Nat.le_of_ble_eq_true rfl, Nat.le_of_ble_eq_true rfl⟩ (fun H locs w => ?_)
                refine lv_if_lt (tgt := 97) F.x F.b dX4_takeIn_91 (by decide) (fun c42 => ?_) (fun c42 => ?_)
                · have h := it c42 h
                  refine lv_aload_n F.x F.b dX4_takeIn_97 rfl (lv_at hl 2 rfl) ?_
                  refine rg F w cl4 0 (at_Sh_0 _ _ _) 0 (by decide) q146 rfl (v := .ref (a 1)) rfl dX4_takeIn_98 ?_
                  refine lv_iload_n F.x F.b dX4_takeIn_101 rfl (lv_at hl 3 rfl) ?_
                  refine lv_iload_n F.x F.b dX4_takeIn_102 rfl (lv_at hl 4 rfl) ?_
                  refine lv_iload_n F.x F.b dX4_takeIn_103 rfl (lv_at hl 5 rfl) ?_
                  refine lv_iload F.x F.b dX4_takeIn_104 (lv_at hl 6 rfl) ?_
                  obtain ⟨⟨r43, S_44⟩, hc45, h⟩ := bd h
                  try dsimp only at h
                  refine kVi0 F w (As := [.int x1, .int x2, .int x3, .int x4]) (rest := []) (w1 := wSh G.2.1 a S_44) (t_X3_append F.1 hc45) m_X3_append v_X3_append q634 (ci := 7) (q0 := 1) rfl rfl rfl ⟨Nat.le_of_ble_eq_true rfl, Nat.le_of_ble_eq_true rfl⟩ rfl hl.1 rfl (Nat.le_of_ble_eq_true rfl) dX4_takeIn_106 ⟨Nat.le_of_ble_eq_true rfl, Nat.le_of_ble_eq_true rfl⟩ (fun H locs w => ?_)
                  obtain ⟨z0, z1⟩ := sm2 (sm h)
                  exact ei F w hr hlocks rfl z0 (by rw [← z1]) dX4_takeIn_109
                · have h := ie c42 h
                  refine lv_bipush (v := (-5)) F.x F.b dX4_takeIn_94 (by decide) ?_
                  obtain ⟨z0, z1⟩ := sm2 (sm h)
                  exact ei F w hr hlocks rfl z0 (by rw [← z1]) dX4_takeIn_96
              · have h := ie c39 h
                refine lv_bipush (v := (-4)) F.x F.b dX4_takeIn_79 (by decide) ?_
                obtain ⟨z0, z1⟩ := sm2 (sm h)
                exact ei F w hr hlocks rfl z0 (by rw [← z1]) dX4_takeIn_81
  · have h := it c3 h
    refine lv_bipush (v := (-2)) F.x F.b dX4_takeIn_8 (by decide) ?_
    obtain ⟨z0, z1⟩ := sm2 (sm h)
    exact ei F w hr hlocks rfl z0 (by rw [← z1]) dX4_takeIn_10
set_option maxRecDepth 100000 in
set_option maxHeartbeats 4000000 in
theorem t_X4_sealLot {G : cG} (g : GOK G) {a : Nat → Nat} {S : Mem} {x1 : Int32} {r : Int32} {S' : Mem} (h : f_X4_sealLot S x1 = some (r, S')) : CI G yX4_sealLot cX4_sealLot 3 .int 1 22 [.ref (a 0), .int x1] (wSh G.2.1 a S) (wSh G.2.1 a S') r := by
  unfold f_X4_sealLot at h
  refine CI.of g (by decide) rfl (Nat.le_of_ble_eq_true rfl) ?_
  intro p l e s m below meth c A ls F hr hlocks w hl
  generalize ([.ref (a 0), .int x1] : List Value).toArray = args
  have hl : lv_has ls 3 [(0, .ref (a 0)), (1, .int x1)] := hl
  refine lv_aload_n F.x F.b dX4_sealLot_0 rfl (lv_at hl 0 rfl) ?_
  refine rg F w cl4 0 (at_Sh_0 _ _ _) 0 (by decide) q146 rfl (v := .ref (a 1)) rfl dX4_sealLot_1 ?_
  refine lv_iload_n F.x F.b dX4_sealLot_4 rfl (lv_at hl 1 rfl) ?_
  obtain ⟨r1, hc2, h⟩ := bd h
  try dsimp only at h
  refine kVi0 F w (As := [.int x1]) (rest := []) (w1 := wSh G.2.1 a S) (t_X3_slotWith F.1 hc2) m_X3_slotWith v_X3_slotWith q698 (ci := 7) (q0 := 1) rfl rfl rfl ⟨Nat.le_of_ble_eq_true rfl, Nat.le_of_ble_eq_true rfl⟩ rfl hl.1 rfl (Nat.le_of_ble_eq_true rfl) dX4_sealLot_5 ⟨Nat.le_of_ble_eq_true rfl, Nat.le_of_ble_eq_true rfl⟩ (fun H locs w => ?_)
  refine lv_istore_n (lv' := [(2, .int r1), (0, .ref (a 0)), (1, .int x1)]) F.x F.b dX4_sealLot_8 rfl hl (by decide) rfl (fun ls hl => ?_)
  refine lv_iload_n F.x F.b dX4_sealLot_9 rfl (lv_at hl 0 rfl) ?_
  refine lv_if_ge (tgt := 15) F.x F.b dX4_sealLot_10 (by decide) (fun c3 => ?_) (fun c3 => ?_)
  · have h := it c3 h
    refine lv_aload_n F.x F.b dX4_sealLot_15 rfl (lv_at hl 1 rfl) ?_
    refine rg F w cl4 0 (at_Sh_0 _ _ _) 0 (by decide) q146 rfl (v := .ref (a 1)) rfl dX4_sealLot_16 ?_
    refine rgN F w cl3 1 (at_Sh_1 _ _ _) 5 (by decide) q79 rfl (v := .ref (a 7)) rfl dX4_sealLot_19 ?_
    refine lv_iload_n F.x F.b dX4_sealLot_22 rfl (lv_at hl 0 rfl) ?_
    obtain ⟨g4, h⟩ := gd h
    refine rz F w 7 (n := 16) (f := S.2 5) (at_Sh_7 _ _ _) g4 dX4_sealLot_23 ?_
    refine lv_if_eq (tgt := 30) F.x F.b dX4_sealLot_24 (by decide) (fun c5 => ?_) (fun c5 => ?_)
    · have h := it c5 h
      refine lv_aload_n F.x F.b dX4_sealLot_30 rfl (lv_at hl 1 rfl) ?_
      refine rg F w cl4 0 (at_Sh_0 _ _ _) 0 (by decide) q146 rfl (v := .ref (a 1)) rfl dX4_sealLot_31 ?_
      refine rgN F w cl3 1 (at_Sh_1 _ _ _) 6 (by decide) q82 rfl (v := .ref (a 8)) rfl dX4_sealLot_34 ?_
      refine lv_iload_n F.x F.b dX4_sealLot_37 rfl (lv_at hl 0 rfl) ?_
      obtain ⟨g6, h⟩ := gd h
      refine rz F w 8 (n := 16) (f := S.2 6) (at_Sh_8 _ _ _) g6 dX4_sealLot_38 ?_
      refine lv_if_eq (tgt := 45) F.x F.b dX4_sealLot_39 (by decide) (fun c7 => ?_) (fun c7 => ?_)
      · have h := it c7 h
        refine lv_aload_n F.x F.b dX4_sealLot_45 rfl (lv_at hl 1 rfl) ?_
        refine rg F w cl4 0 (at_Sh_0 _ _ _) 0 (by decide) q146 rfl (v := .ref (a 1)) rfl dX4_sealLot_46 ?_
        refine rgN F w cl3 1 (at_Sh_1 _ _ _) 5 (by decide) q79 rfl (v := .ref (a 7)) rfl dX4_sealLot_49 ?_
        refine lv_iload_n F.x F.b dX4_sealLot_52 rfl (lv_at hl 0 rfl) ?_
        refine lv_iconst (v := 1) F.x F.b dX4_sealLot_53 (by decide) ?_
        obtain ⟨g8, h⟩ := gd h
        refine rzs F w (ws' := wSh G.2.1 a (wrA S 5 r1 (vp_nar .boolean 1))) 7 (n := 16) (f := S.2 5) (at_Sh_7 _ _ _) g8 (st_Sh_7 _ _ _ _ _) dX4_sealLot_54 (fun H locs w => ?_)
        refine lv_aload_n F.x F.b dX4_sealLot_55 rfl (lv_at hl 1 rfl) ?_
        refine rg F w cl4 0 (at_Sh_0 _ _ _) 0 (by decide) q146 rfl (v := .ref (a 1)) rfl dX4_sealLot_56 ?_
        obtain ⟨r9, hc10, h⟩ := bd h
        try dsimp only at h
        refine kVi0 F w (As := []) (rest := []) (w1 := wSh G.2.1 a (wrA S 5 r1 (vp_nar .boolean 1))) (t_X3_countSealed F.1 hc10) m_X3_countSealed v_X3_countSealed q721 (ci := 7) (q0 := 1) rfl rfl rfl ⟨Nat.le_of_ble_eq_true rfl, Nat.le_of_ble_eq_true rfl⟩ rfl hl.1 rfl (Nat.le_of_ble_eq_true rfl) dX4_sealLot_59 ⟨Nat.le_of_ble_eq_true rfl, Nat.le_of_ble_eq_true rfl⟩ (fun H locs w => ?_)
        obtain ⟨z0, z1⟩ := sm2 (sm h)
        exact ei F w hr hlocks rfl z0 (by rw [← z1]) dX4_sealLot_62
      · have h := ie c7 h
        refine lv_bipush (v := (-5)) F.x F.b dX4_sealLot_42 (by decide) ?_
        obtain ⟨z0, z1⟩ := sm2 (sm h)
        exact ei F w hr hlocks rfl z0 (by rw [← z1]) dX4_sealLot_44
    · have h := ie c5 h
      refine lv_bipush (v := (-4)) F.x F.b dX4_sealLot_27 (by decide) ?_
      obtain ⟨z0, z1⟩ := sm2 (sm h)
      exact ei F w hr hlocks rfl z0 (by rw [← z1]) dX4_sealLot_29
  · have h := ie c3 h
    refine lv_iconst (v := (-1)) F.x F.b dX4_sealLot_13 (by decide) ?_
    obtain ⟨z0, z1⟩ := sm2 (sm h)
    exact ei F w hr hlocks rfl z0 (by rw [← z1]) dX4_sealLot_14
set_option maxRecDepth 100000 in
set_option maxHeartbeats 4000000 in
theorem t_X4_openLot {G : cG} (g : GOK G) {a : Nat → Nat} {S : Mem} {x1 : Int32} {r : Int32} {S' : Mem} (h : f_X4_openLot S x1 = some (r, S')) : CI G yX4_openLot cX4_openLot 3 .int 1 22 [.ref (a 0), .int x1] (wSh G.2.1 a S) (wSh G.2.1 a S') r := by
  unfold f_X4_openLot at h
  refine CI.of g (by decide) rfl (Nat.le_of_ble_eq_true rfl) ?_
  intro p l e s m below meth c A ls F hr hlocks w hl
  generalize ([.ref (a 0), .int x1] : List Value).toArray = args
  have hl : lv_has ls 3 [(0, .ref (a 0)), (1, .int x1)] := hl
  refine lv_aload_n F.x F.b dX4_openLot_0 rfl (lv_at hl 0 rfl) ?_
  refine rg F w cl4 0 (at_Sh_0 _ _ _) 0 (by decide) q146 rfl (v := .ref (a 1)) rfl dX4_openLot_1 ?_
  refine lv_iload_n F.x F.b dX4_openLot_4 rfl (lv_at hl 1 rfl) ?_
  obtain ⟨r1, hc2, h⟩ := bd h
  try dsimp only at h
  refine kVi0 F w (As := [.int x1]) (rest := []) (w1 := wSh G.2.1 a S) (t_X3_slotWith F.1 hc2) m_X3_slotWith v_X3_slotWith q698 (ci := 7) (q0 := 1) rfl rfl rfl ⟨Nat.le_of_ble_eq_true rfl, Nat.le_of_ble_eq_true rfl⟩ rfl hl.1 rfl (Nat.le_of_ble_eq_true rfl) dX4_openLot_5 ⟨Nat.le_of_ble_eq_true rfl, Nat.le_of_ble_eq_true rfl⟩ (fun H locs w => ?_)
  refine lv_istore_n (lv' := [(2, .int r1), (0, .ref (a 0)), (1, .int x1)]) F.x F.b dX4_openLot_8 rfl hl (by decide) rfl (fun ls hl => ?_)
  refine lv_iload_n F.x F.b dX4_openLot_9 rfl (lv_at hl 0 rfl) ?_
  refine lv_if_ge (tgt := 15) F.x F.b dX4_openLot_10 (by decide) (fun c3 => ?_) (fun c3 => ?_)
  · have h := it c3 h
    refine lv_aload_n F.x F.b dX4_openLot_15 rfl (lv_at hl 1 rfl) ?_
    refine rg F w cl4 0 (at_Sh_0 _ _ _) 0 (by decide) q146 rfl (v := .ref (a 1)) rfl dX4_openLot_16 ?_
    refine rgN F w cl3 1 (at_Sh_1 _ _ _) 5 (by decide) q79 rfl (v := .ref (a 7)) rfl dX4_openLot_19 ?_
    refine lv_iload_n F.x F.b dX4_openLot_22 rfl (lv_at hl 0 rfl) ?_
    obtain ⟨g4, h⟩ := gd h
    refine rz F w 7 (n := 16) (f := S.2 5) (at_Sh_7 _ _ _) g4 dX4_openLot_23 ?_
    refine lv_if_ne (tgt := 30) F.x F.b dX4_openLot_24 (by decide) (fun c5 => ?_) (fun c5 => ?_)
    · have h := ie c5 h
      refine lv_aload_n F.x F.b dX4_openLot_30 rfl (lv_at hl 1 rfl) ?_
      refine rg F w cl4 0 (at_Sh_0 _ _ _) 0 (by decide) q146 rfl (v := .ref (a 1)) rfl dX4_openLot_31 ?_
      refine rgN F w cl3 1 (at_Sh_1 _ _ _) 5 (by decide) q79 rfl (v := .ref (a 7)) rfl dX4_openLot_34 ?_
      refine lv_iload_n F.x F.b dX4_openLot_37 rfl (lv_at hl 0 rfl) ?_
      refine lv_iconst (v := 0) F.x F.b dX4_openLot_38 (by decide) ?_
      obtain ⟨g6, h⟩ := gd h
      refine rzs F w (ws' := wSh G.2.1 a (wrA S 5 r1 (vp_nar .boolean 0))) 7 (n := 16) (f := S.2 5) (at_Sh_7 _ _ _) g6 (st_Sh_7 _ _ _ _ _) dX4_openLot_39 (fun H locs w => ?_)
      refine lv_aload_n F.x F.b dX4_openLot_40 rfl (lv_at hl 1 rfl) ?_
      refine rg F w cl4 0 (at_Sh_0 _ _ _) 0 (by decide) q146 rfl (v := .ref (a 1)) rfl dX4_openLot_41 ?_
      obtain ⟨r7, hc8, h⟩ := bd h
      try dsimp only at h
      refine kVi0 F w (As := []) (rest := []) (w1 := wSh G.2.1 a (wrA S 5 r1 (vp_nar .boolean 0))) (t_X3_countSealed F.1 hc8) m_X3_countSealed v_X3_countSealed q721 (ci := 7) (q0 := 1) rfl rfl rfl ⟨Nat.le_of_ble_eq_true rfl, Nat.le_of_ble_eq_true rfl⟩ rfl hl.1 rfl (Nat.le_of_ble_eq_true rfl) dX4_openLot_44 ⟨Nat.le_of_ble_eq_true rfl, Nat.le_of_ble_eq_true rfl⟩ (fun H locs w => ?_)
      obtain ⟨z0, z1⟩ := sm2 (sm h)
      exact ei F w hr hlocks rfl z0 (by rw [← z1]) dX4_openLot_47
    · have h := it c5 h
      refine lv_bipush (v := (-4)) F.x F.b dX4_openLot_27 (by decide) ?_
      obtain ⟨z0, z1⟩ := sm2 (sm h)
      exact ei F w hr hlocks rfl z0 (by rw [← z1]) dX4_openLot_29
  · have h := ie c3 h
    refine lv_iconst (v := (-1)) F.x F.b dX4_openLot_13 (by decide) ?_
    obtain ⟨z0, z1⟩ := sm2 (sm h)
    exact ei F w hr hlocks rfl z0 (by rw [← z1]) dX4_openLot_14
set_option maxRecDepth 100000 in
set_option maxHeartbeats 4000000 in
theorem t_X4_wetLot {G : cG} (g : GOK G) {a : Nat → Nat} {S : Mem} {x1 : Int32} {r : Int32} {S' : Mem} (h : f_X4_wetLot S x1 = some (r, S')) : CI G yX4_wetLot cX4_wetLot 3 .int 1 22 [.ref (a 0), .int x1] (wSh G.2.1 a S) (wSh G.2.1 a S') r := by
  unfold f_X4_wetLot at h
  refine CI.of g (by decide) rfl (Nat.le_of_ble_eq_true rfl) ?_
  intro p l e s m below meth c A ls F hr hlocks w hl
  generalize ([.ref (a 0), .int x1] : List Value).toArray = args
  have hl : lv_has ls 3 [(0, .ref (a 0)), (1, .int x1)] := hl
  refine lv_aload_n F.x F.b dX4_wetLot_0 rfl (lv_at hl 0 rfl) ?_
  refine rg F w cl4 0 (at_Sh_0 _ _ _) 0 (by decide) q146 rfl (v := .ref (a 1)) rfl dX4_wetLot_1 ?_
  refine lv_iload_n F.x F.b dX4_wetLot_4 rfl (lv_at hl 1 rfl) ?_
  obtain ⟨r1, hc2, h⟩ := bd h
  try dsimp only at h
  refine kVi0 F w (As := [.int x1]) (rest := []) (w1 := wSh G.2.1 a S) (t_X3_slotWith F.1 hc2) m_X3_slotWith v_X3_slotWith q698 (ci := 7) (q0 := 1) rfl rfl rfl ⟨Nat.le_of_ble_eq_true rfl, Nat.le_of_ble_eq_true rfl⟩ rfl hl.1 rfl (Nat.le_of_ble_eq_true rfl) dX4_wetLot_5 ⟨Nat.le_of_ble_eq_true rfl, Nat.le_of_ble_eq_true rfl⟩ (fun H locs w => ?_)
  refine lv_istore_n (lv' := [(2, .int r1), (0, .ref (a 0)), (1, .int x1)]) F.x F.b dX4_wetLot_8 rfl hl (by decide) rfl (fun ls hl => ?_)
  refine lv_iload_n F.x F.b dX4_wetLot_9 rfl (lv_at hl 0 rfl) ?_
  refine lv_if_ge (tgt := 15) F.x F.b dX4_wetLot_10 (by decide) (fun c3 => ?_) (fun c3 => ?_)
  · have h := it c3 h
    refine lv_aload_n F.x F.b dX4_wetLot_15 rfl (lv_at hl 1 rfl) ?_
    refine rg F w cl4 0 (at_Sh_0 _ _ _) 0 (by decide) q146 rfl (v := .ref (a 1)) rfl dX4_wetLot_16 ?_
    refine rgN F w cl3 1 (at_Sh_1 _ _ _) 5 (by decide) q79 rfl (v := .ref (a 7)) rfl dX4_wetLot_19 ?_
    refine lv_iload_n F.x F.b dX4_wetLot_22 rfl (lv_at hl 0 rfl) ?_
    obtain ⟨g4, h⟩ := gd h
    refine rz F w 7 (n := 16) (f := S.2 5) (at_Sh_7 _ _ _) g4 dX4_wetLot_23 ?_
    refine lv_if_ne (tgt := 39) F.x F.b dX4_wetLot_24 (by decide) (fun c5 => ?_) (fun c5 => ?_)
    · have h := ie c5 h
      refine lv_bipush (v := (-4)) F.x F.b dX4_wetLot_39 (by decide) ?_
      obtain ⟨z0, z1⟩ := sm2 (sm h)
      exact ei F w hr hlocks rfl z0 (by rw [← z1]) dX4_wetLot_41
    · have h := it c5 h
      refine lv_aload_n F.x F.b dX4_wetLot_27 rfl (lv_at hl 1 rfl) ?_
      refine rg F w cl4 0 (at_Sh_0 _ _ _) 0 (by decide) q146 rfl (v := .ref (a 1)) rfl dX4_wetLot_28 ?_
      refine rgN F w cl3 1 (at_Sh_1 _ _ _) 6 (by decide) q82 rfl (v := .ref (a 8)) rfl dX4_wetLot_31 ?_
      refine lv_iload_n F.x F.b dX4_wetLot_34 rfl (lv_at hl 0 rfl) ?_
      obtain ⟨g6, h⟩ := gd h
      refine rz F w 8 (n := 16) (f := S.2 6) (at_Sh_8 _ _ _) g6 dX4_wetLot_35 ?_
      refine lv_if_eq (tgt := 42) F.x F.b dX4_wetLot_36 (by decide) (fun c7 => ?_) (fun c7 => ?_)
      · have h := it c7 h
        refine lv_aload_n F.x F.b dX4_wetLot_42 rfl (lv_at hl 1 rfl) ?_
        refine rg F w cl4 0 (at_Sh_0 _ _ _) 0 (by decide) q146 rfl (v := .ref (a 1)) rfl dX4_wetLot_43 ?_
        refine rgN F w cl3 1 (at_Sh_1 _ _ _) 6 (by decide) q82 rfl (v := .ref (a 8)) rfl dX4_wetLot_46 ?_
        refine lv_iload_n F.x F.b dX4_wetLot_49 rfl (lv_at hl 0 rfl) ?_
        refine lv_iconst (v := 1) F.x F.b dX4_wetLot_50 (by decide) ?_
        obtain ⟨g8, h⟩ := gd h
        refine rzs F w (ws' := wSh G.2.1 a (wrA S 6 r1 (vp_nar .boolean 1))) 8 (n := 16) (f := S.2 6) (at_Sh_8 _ _ _) g8 (st_Sh_8 _ _ _ _ _) dX4_wetLot_51 (fun H locs w => ?_)
        refine lv_aload_n F.x F.b dX4_wetLot_52 rfl (lv_at hl 1 rfl) ?_
        refine rg F w cl4 0 (at_Sh_0 _ _ _) 0 (by decide) q146 rfl (v := .ref (a 1)) rfl dX4_wetLot_53 ?_
        obtain ⟨r9, hc10, h⟩ := bd h
        try dsimp only at h
        refine kVi0 F w (As := []) (rest := []) (w1 := wSh G.2.1 a (wrA S 6 r1 (vp_nar .boolean 1))) (t_X3_countDamp F.1 hc10) m_X3_countDamp v_X3_countDamp q780 (ci := 7) (q0 := 1) rfl rfl rfl ⟨Nat.le_of_ble_eq_true rfl, Nat.le_of_ble_eq_true rfl⟩ rfl hl.1 rfl (Nat.le_of_ble_eq_true rfl) dX4_wetLot_56 ⟨Nat.le_of_ble_eq_true rfl, Nat.le_of_ble_eq_true rfl⟩ (fun H locs w => ?_)
        obtain ⟨z0, z1⟩ := sm2 (sm h)
        exact ei F w hr hlocks rfl z0 (by rw [← z1]) dX4_wetLot_59
      · have h := ie c7 h
        refine lv_bipush (v := (-4)) F.x F.b dX4_wetLot_39 (by decide) ?_
        obtain ⟨z0, z1⟩ := sm2 (sm h)
        exact ei F w hr hlocks rfl z0 (by rw [← z1]) dX4_wetLot_41
  · have h := ie c3 h
    refine lv_iconst (v := (-1)) F.x F.b dX4_wetLot_13 (by decide) ?_
    obtain ⟨z0, z1⟩ := sm2 (sm h)
    exact ei F w hr hlocks rfl z0 (by rw [← z1]) dX4_wetLot_14
set_option maxRecDepth 100000 in
set_option maxHeartbeats 4000000 in
theorem t_X4_moveLot {G : cG} (g : GOK G) {a : Nat → Nat} {S : Mem} {x1 x2 : Int32} {r : Int32} {S' : Mem} (h : f_X4_moveLot S x1 x2 = some (r, S')) : CI G yX4_moveLot cX4_moveLot 5 .int 1 22 [.ref (a 0), .int x1, .int x2] (wSh G.2.1 a S) (wSh G.2.1 a S') r := by
  unfold f_X4_moveLot at h
  refine CI.of g (by decide) rfl (Nat.le_of_ble_eq_true rfl) ?_
  intro p l e s m below meth c A ls F hr hlocks w hl
  generalize ([.ref (a 0), .int x1, .int x2] : List Value).toArray = args
  have hl : lv_has ls 5 [(0, .ref (a 0)), (1, .int x1), (2, .int x2)] := hl
  refine lv_aload_n F.x F.b dX4_moveLot_0 rfl (lv_at hl 0 rfl) ?_
  refine rg F w cl4 0 (at_Sh_0 _ _ _) 0 (by decide) q146 rfl (v := .ref (a 1)) rfl dX4_moveLot_1 ?_
  refine lv_iload_n F.x F.b dX4_moveLot_4 rfl (lv_at hl 1 rfl) ?_
  obtain ⟨r1, hc2, h⟩ := bd h
  try dsimp only at h
  refine kVi0 F w (As := [.int x1]) (rest := []) (w1 := wSh G.2.1 a S) (t_X3_slotWith F.1 hc2) m_X3_slotWith v_X3_slotWith q698 (ci := 7) (q0 := 1) rfl rfl rfl ⟨Nat.le_of_ble_eq_true rfl, Nat.le_of_ble_eq_true rfl⟩ rfl hl.1 rfl (Nat.le_of_ble_eq_true rfl) dX4_moveLot_5 ⟨Nat.le_of_ble_eq_true rfl, Nat.le_of_ble_eq_true rfl⟩ (fun H locs w => ?_)
  refine lv_istore_n (lv' := [(3, .int r1), (0, .ref (a 0)), (1, .int x1), (2, .int x2)]) F.x F.b dX4_moveLot_8 rfl hl (by decide) rfl (fun ls hl => ?_)
  refine lv_iload_n F.x F.b dX4_moveLot_9 rfl (lv_at hl 0 rfl) ?_
  refine lv_if_ge (tgt := 15) F.x F.b dX4_moveLot_10 (by decide) (fun c3 => ?_) (fun c3 => ?_)
  · have h := it c3 h
    refine lv_iload_n F.x F.b dX4_moveLot_15 rfl (lv_at hl 3 rfl) ?_
    obtain ⟨r4, hc5, h⟩ := bd h
    try dsimp only at h
    refine kSNi F w (t_X6_isBay F.1 hc5) m_X6_isBay v_X6_isBay q626 (As := [.int x2]) (rest := []) ⟨Nat.le_of_ble_eq_true rfl, Nat.le_of_ble_eq_true rfl⟩ rfl hl.1 rfl (Nat.le_of_ble_eq_true rfl) dX4_moveLot_16 ⟨Nat.le_of_ble_eq_true rfl, Nat.le_of_ble_eq_true rfl⟩ (fun H locs w => ?_)
    refine lv_if_ne (tgt := 25) F.x F.b dX4_moveLot_19 (by decide) (fun c6 => ?_) (fun c6 => ?_)
    · have h := ie c6 h
      refine lv_aload_n F.x F.b dX4_moveLot_25 rfl (lv_at hl 1 rfl) ?_
      refine rg F w cl4 0 (at_Sh_0 _ _ _) 0 (by decide) q146 rfl (v := .ref (a 1)) rfl dX4_moveLot_26 ?_
      refine lv_iload_n F.x F.b dX4_moveLot_29 rfl (lv_at hl 3 rfl) ?_
      obtain ⟨r7, hc8, h⟩ := bd h
      try dsimp only at h
      refine kVi0 F w (As := [.int x2]) (rest := []) (w1 := wSh G.2.1 a S) (t_X3_slotAt F.1 hc8) m_X3_slotAt v_X3_slotAt q630 (ci := 7) (q0 := 1) rfl rfl rfl ⟨Nat.le_of_ble_eq_true rfl, Nat.le_of_ble_eq_true rfl⟩ rfl hl.1 rfl (Nat.le_of_ble_eq_true rfl) dX4_moveLot_30 ⟨Nat.le_of_ble_eq_true rfl, Nat.le_of_ble_eq_true rfl⟩ (fun H locs w => ?_)
      refine lv_if_lt (tgt := 39) F.x F.b dX4_moveLot_33 (by decide) (fun c9 => ?_) (fun c9 => ?_)
      · have h := it c9 h
        refine lv_aload_n F.x F.b dX4_moveLot_39 rfl (lv_at hl 1 rfl) ?_
        refine rg F w cl4 0 (at_Sh_0 _ _ _) 0 (by decide) q146 rfl (v := .ref (a 1)) rfl dX4_moveLot_40 ?_
        refine rgN F w cl3 1 (at_Sh_1 _ _ _) 4 (by decide) q76 rfl (v := .ref (a 6)) rfl dX4_moveLot_43 ?_
        refine lv_iload_n F.x F.b dX4_moveLot_46 rfl (lv_at hl 0 rfl) ?_
        obtain ⟨g10, h⟩ := gd h
        refine ri F w 6 (n := 16) (f := S.2 4) (at_Sh_6 _ _ _) g10 dX4_moveLot_47 ?_
        refine lv_istore (lv' := [(4, .int (S.2 4 (Int32.toNatClampNeg r1))), (3, .int r1), (0, .ref (a 0)), (1, .int x1), (2, .int x2)]) F.x F.b dX4_moveLot_48 hl (by decide) rfl (fun ls hl => ?_)
        refine lv_aload_n F.x F.b dX4_moveLot_50 rfl (lv_at hl 2 rfl) ?_
        refine rg F w cl4 0 (at_Sh_0 _ _ _) 0 (by decide) q146 rfl (v := .ref (a 1)) rfl dX4_moveLot_51 ?_
        refine rgN F w cl3 1 (at_Sh_1 _ _ _) 4 (by decide) q76 rfl (v := .ref (a 6)) rfl dX4_moveLot_54 ?_
        refine lv_iload_n F.x F.b dX4_moveLot_57 rfl (lv_at hl 1 rfl) ?_
        refine lv_iload_n F.x F.b dX4_moveLot_58 rfl (lv_at hl 4 rfl) ?_
        obtain ⟨g11, h⟩ := gd h
        refine ris F w (ws' := wSh G.2.1 a (wrA S 4 r1 x2)) 6 (n := 16) (f := S.2 4) (at_Sh_6 _ _ _) g11 (st_Sh_6 _ _ _ _ _) dX4_moveLot_59 (fun H locs w => ?_)
        refine lv_iload F.x F.b dX4_moveLot_60 (lv_at hl 0 rfl) ?_
        obtain ⟨z0, z1⟩ := sm2 (sm h)
        exact ei F w hr hlocks rfl z0 (by rw [← z1]) dX4_moveLot_62
      · have h := ie c9 h
        refine lv_bipush (v := (-5)) F.x F.b dX4_moveLot_36 (by decide) ?_
        obtain ⟨z0, z1⟩ := sm2 (sm h)
        exact ei F w hr hlocks rfl z0 (by rw [← z1]) dX4_moveLot_38
    · have h := it c6 h
      refine lv_bipush (v := (-2)) F.x F.b dX4_moveLot_22 (by decide) ?_
      obtain ⟨z0, z1⟩ := sm2 (sm h)
      exact ei F w hr hlocks rfl z0 (by rw [← z1]) dX4_moveLot_24
  · have h := ie c3 h
    refine lv_iconst (v := (-1)) F.x F.b dX4_moveLot_13 (by decide) ?_
    obtain ⟨z0, z1⟩ := sm2 (sm h)
    exact ei F w hr hlocks rfl z0 (by rw [← z1]) dX4_moveLot_14
set_option maxRecDepth 100000 in
set_option maxHeartbeats 4000000 in
theorem t_X4_queueLot {G : cG} (g : GOK G) {a : Nat → Nat} {S : Mem} {x1 : Int32} {r : Int32} {S' : Mem} (h : f_X4_queueLot S x1 = some (r, S')) : CI G yX4_queueLot cX4_queueLot 2 .int 2 43 [.ref (a 0), .int x1] (wSh G.2.1 a S) (wSh G.2.1 a S') r := by
  unfold f_X4_queueLot at h
  refine CI.of g (by decide) rfl (Nat.le_of_ble_eq_true rfl) ?_
  intro p l e s m below meth c A ls F hr hlocks w hl
  generalize ([.ref (a 0), .int x1] : List Value).toArray = args
  have hl : lv_has ls 2 [(0, .ref (a 0)), (1, .int x1)] := hl
  refine lv_aload_n F.x F.b dX4_queueLot_0 rfl (lv_at hl 0 rfl) ?_
  refine rg F w cl4 0 (at_Sh_0 _ _ _) 0 (by decide) q146 rfl (v := .ref (a 1)) rfl dX4_queueLot_1 ?_
  refine lv_iload_n F.x F.b dX4_queueLot_4 rfl (lv_at hl 1 rfl) ?_
  obtain ⟨r1, hc2, h⟩ := bd h
  try dsimp only at h
  refine kVi0 F w (As := [.int x1]) (rest := []) (w1 := wSh G.2.1 a S) (t_X3_slotWith F.1 hc2) m_X3_slotWith v_X3_slotWith q698 (ci := 7) (q0 := 1) rfl rfl rfl ⟨Nat.le_of_ble_eq_true rfl, Nat.le_of_ble_eq_true rfl⟩ rfl hl.1 rfl (Nat.le_of_ble_eq_true rfl) dX4_queueLot_5 ⟨Nat.le_of_ble_eq_true rfl, Nat.le_of_ble_eq_true rfl⟩ (fun H locs w => ?_)
  refine lv_if_ge (tgt := 13) F.x F.b dX4_queueLot_8 (by decide) (fun c3 => ?_) (fun c3 => ?_)
  · have h := it c3 h
    refine lv_aload_n F.x F.b dX4_queueLot_13 rfl (lv_at hl 0 rfl) ?_
    refine rg F w cl4 0 (at_Sh_0 _ _ _) 2 (by decide) q150 rfl (v := .ref (a 12)) rfl dX4_queueLot_14 ?_
    refine lv_iload_n F.x F.b dX4_queueLot_17 rfl (lv_at hl 1 rfl) ?_
    obtain ⟨⟨r4, S_5⟩, hc6, h⟩ := bd h
    try dsimp only at h
    refine kVi0 F w (As := [.int x1]) (rest := []) (w1 := wSh G.2.1 a S_5) (t_X0_append F.1 hc6) m_X0_append v_X0_append q1125 (ci := 4) (q0 := 12) rfl rfl rfl ⟨Nat.le_of_ble_eq_true rfl, Nat.le_of_ble_eq_true rfl⟩ rfl hl.1 rfl (Nat.le_of_ble_eq_true rfl) dX4_queueLot_18 ⟨Nat.le_of_ble_eq_true rfl, Nat.le_of_ble_eq_true rfl⟩ (fun H locs w => ?_)
    obtain ⟨z0, z1⟩ := sm2 (sm h)
    exact ei F w hr hlocks rfl z0 (by rw [← z1]) dX4_queueLot_21
  · have h := ie c3 h
    refine lv_iconst (v := (-1)) F.x F.b dX4_queueLot_11 (by decide) ?_
    obtain ⟨z0, z1⟩ := sm2 (sm h)
    exact ei F w hr hlocks rfl z0 (by rw [← z1]) dX4_queueLot_12
set_option maxRecDepth 100000 in
set_option maxHeartbeats 4000000 in
theorem t_X4_auditFirst {G : cG} (g : GOK G) {a : Nat → Nat} {S : Mem} {r : Int32} {S' : Mem} (h : f_X4_auditFirst S = some (r, S')) : CI G yX4_auditFirst cX4_auditFirst 3 .int 1 23 [.ref (a 0)] (wSh G.2.1 a S) (wSh G.2.1 a S') r := by
  unfold f_X4_auditFirst at h
  refine CI.of g (by decide) rfl (Nat.le_of_ble_eq_true rfl) ?_
  intro p l e s m below meth c A ls F hr hlocks w hl
  generalize ([.ref (a 0)] : List Value).toArray = args
  have hl : lv_has ls 3 [(0, .ref (a 0))] := hl
  refine lv_aload_n F.x F.b dX4_auditFirst_0 rfl (lv_at hl 0 rfl) ?_
  refine rg F w cl4 0 (at_Sh_0 _ _ _) 2 (by decide) q150 rfl (v := .ref (a 12)) rfl dX4_auditFirst_1 ?_
  refine rgN F w cl0 12 (at_Sh_12 _ _ _) 1 (by decide) q139 rfl (v := .int (S.1 7)) rfl dX4_auditFirst_4 ?_
  refine lv_if_gt (tgt := 12) F.x F.b dX4_auditFirst_7 (by decide) (fun c1 => ?_) (fun c1 => ?_)
  · have h := it c1 h
    refine lv_aload_n F.x F.b dX4_auditFirst_12 rfl (lv_at hl 0 rfl) ?_
    refine rg F w cl4 0 (at_Sh_0 _ _ _) 2 (by decide) q150 rfl (v := .ref (a 12)) rfl dX4_auditFirst_13 ?_
    refine rgN F w cl0 12 (at_Sh_12 _ _ _) 0 (by decide) q136 rfl (v := .ref (a 13)) rfl dX4_auditFirst_16 ?_
    refine lv_iconst (v := 0) F.x F.b dX4_auditFirst_19 (by decide) ?_
    obtain ⟨g2, h⟩ := gd h
    refine ri F w 13 (n := 16) (f := S.2 9) (at_Sh_13 _ _ _) g2 dX4_auditFirst_20 ?_
    refine lv_istore_n (lv' := [(1, .int (S.2 9 (Int32.toNatClampNeg 0))), (0, .ref (a 0))]) F.x F.b dX4_auditFirst_21 rfl hl (by decide) rfl (fun ls hl => ?_)
    refine lv_aload_n F.x F.b dX4_auditFirst_22 rfl (lv_at hl 1 rfl) ?_
    refine rg F w cl4 0 (at_Sh_0 _ _ _) 2 (by decide) q150 rfl (v := .ref (a 12)) rfl dX4_auditFirst_23 ?_
    refine lv_iload_n F.x F.b dX4_auditFirst_26 rfl (lv_at hl 0 rfl) ?_
    obtain ⟨S_3, hc4, h⟩ := bd h
    try dsimp only at h
    refine kVv0 F w (As := [.int (S.2 9 (Int32.toNatClampNeg 0))]) (rest := []) (w1 := wSh G.2.1 a S_3) (t_X0_remove F.1 hc4) m_X0_remove v_X0_remove q589 (ci := 4) (q0 := 12) rfl rfl rfl ⟨Nat.le_of_ble_eq_true rfl, Nat.le_of_ble_eq_true rfl⟩ rfl hl.1 rfl (Nat.le_of_ble_eq_true rfl) dX4_auditFirst_27 ⟨Nat.le_of_ble_eq_true rfl, Nat.le_of_ble_eq_true rfl⟩ (fun H locs w => ?_)
    refine lv_aload_n F.x F.b dX4_auditFirst_30 rfl (lv_at hl 1 rfl) ?_
    refine rg F w cl4 0 (at_Sh_0 _ _ _) 0 (by decide) q146 rfl (v := .ref (a 1)) rfl dX4_auditFirst_31 ?_
    refine lv_iload_n F.x F.b dX4_auditFirst_34 rfl (lv_at hl 0 rfl) ?_
    obtain ⟨r5, hc6, h⟩ := bd h
    try dsimp only at h
    refine kVi0 F w (As := [.int (S.2 9 (Int32.toNatClampNeg 0))]) (rest := []) (w1 := wSh G.2.1 a S_3) (t_X3_slotWith F.1 hc6) m_X3_slotWith v_X3_slotWith q698 (ci := 7) (q0 := 1) rfl rfl rfl ⟨Nat.le_of_ble_eq_true rfl, Nat.le_of_ble_eq_true rfl⟩ rfl hl.1 rfl (Nat.le_of_ble_eq_true rfl) dX4_auditFirst_35 ⟨Nat.le_of_ble_eq_true rfl, Nat.le_of_ble_eq_true rfl⟩ (fun H locs w => ?_)
    refine lv_istore_n (lv' := [(2, .int r5), (1, .int (S.2 9 (Int32.toNatClampNeg 0))), (0, .ref (a 0))]) F.x F.b dX4_auditFirst_38 rfl hl (by decide) rfl (fun ls hl => ?_)
    refine lv_iload_n F.x F.b dX4_auditFirst_39 rfl (lv_at hl 0 rfl) ?_
    refine lv_if_lt (tgt := 53) F.x F.b dX4_auditFirst_40 (by decide) (fun c7 => ?_) (fun c7 => ?_)
    · have h := it c7 h
      refine lv_iload_n F.x F.b dX4_auditFirst_53 rfl (lv_at hl 1 rfl) ?_
      obtain ⟨z0, z1⟩ := sm2 (sm h)
      exact ei F w hr hlocks rfl z0 (by rw [← z1]) dX4_auditFirst_54
    · have h := ie c7 h
      refine lv_aload_n F.x F.b dX4_auditFirst_43 rfl (lv_at hl 2 rfl) ?_
      refine rg F w cl4 0 (at_Sh_0 _ _ _) 0 (by decide) q146 rfl (v := .ref (a 1)) rfl dX4_auditFirst_44 ?_
      refine rgN F w cl3 1 (at_Sh_1 _ _ _) 5 (by decide) q79 rfl (v := .ref (a 7)) rfl dX4_auditFirst_47 ?_
      refine lv_iload_n F.x F.b dX4_auditFirst_50 rfl (lv_at hl 0 rfl) ?_
      refine lv_iconst (v := 0) F.x F.b dX4_auditFirst_51 (by decide) ?_
      obtain ⟨g8, h⟩ := gd h
      refine rzs F w (ws' := wSh G.2.1 a (wrA S_3 5 r5 (vp_nar .boolean 0))) 7 (n := 16) (f := S_3.2 5) (at_Sh_7 _ _ _) g8 (st_Sh_7 _ _ _ _ _) dX4_auditFirst_52 (fun H locs w => ?_)
      refine lv_iload_n F.x F.b dX4_auditFirst_53 rfl (lv_at hl 1 rfl) ?_
      obtain ⟨z0, z1⟩ := sm2 (sm h)
      exact ei F w hr hlocks rfl z0 (by rw [← z1]) dX4_auditFirst_54
  · have h := ie c1 h
    refine lv_iconst (v := (-1)) F.x F.b dX4_auditFirst_10 (by decide) ?_
    obtain ⟨z0, z1⟩ := sm2 (sm h)
    exact ei F w hr hlocks rfl z0 (by rw [← z1]) dX4_auditFirst_11
set_option maxRecDepth 100000 in
set_option maxHeartbeats 4000000 in
theorem t_X4_takeCoins {G : cG} (g : GOK G) {a : Nat → Nat} {S : Mem} {x1 : Int32} {r : Int32} {S' : Mem} (h : f_X4_takeCoins S x1 = some (r, S')) : CI G yX4_takeCoins cX4_takeCoins 2 .int 0 0 [.ref (a 0), .int x1] (wSh G.2.1 a S) (wSh G.2.1 a S') r := by
  unfold f_X4_takeCoins at h
  refine CI.of g (by decide) rfl (Nat.le_of_ble_eq_true rfl) ?_
  intro p l e s m below meth c A ls F hr hlocks w hl
  generalize ([.ref (a 0), .int x1] : List Value).toArray = args
  have hl : lv_has ls 2 [(0, .ref (a 0)), (1, .int x1)] := hl
  refine lv_iload_n F.x F.b dX4_takeCoins_0 rfl (lv_at hl 1 rfl) ?_
  refine lv_iconst (v := 1) F.x F.b dX4_takeCoins_1 (by decide) ?_
  refine lv_icmp_lt (tgt := 12) F.x F.b dX4_takeCoins_2 (by decide) (fun c1 => ?_) (fun c1 => ?_)
  · have h := it c1 h
    refine lv_bipush (v := (-3)) F.x F.b dX4_takeCoins_12 (by decide) ?_
    obtain ⟨z0, z1⟩ := sm2 (sm h)
    exact ei F w hr hlocks rfl z0 (by rw [← z1]) dX4_takeCoins_14
  · have h := ie c1 h
    refine lv_iload_n F.x F.b dX4_takeCoins_5 rfl (lv_at hl 1 rfl) ?_
    refine lv_sipush (v := 999) F.x F.b dX4_takeCoins_6 (by decide) ?_
    refine lv_icmp_le (tgt := 15) F.x F.b dX4_takeCoins_9 (by decide) (fun c2 => ?_) (fun c2 => ?_)
    · have h := it c2 h
      refine lv_aload_n F.x F.b dX4_takeCoins_15 rfl (lv_at hl 0 rfl) ?_
      refine rg F w cl4 0 (at_Sh_0 _ _ _) 3 (by decide) q152 rfl (v := .int (S.1 3)) rfl dX4_takeCoins_16 ?_
      refine lv_iload_n F.x F.b dX4_takeCoins_19 rfl (lv_at hl 1 rfl) ?_
      refine lv_iadd F.x F.b dX4_takeCoins_20 ?_
      refine lv_sipush (v := 9999) F.x F.b dX4_takeCoins_21 (by decide) ?_
      refine lv_icmp_le (tgt := 30) F.x F.b dX4_takeCoins_24 (by decide) (fun c3 => ?_) (fun c3 => ?_)
      · have h := it c3 h
        refine lv_aload_n F.x F.b dX4_takeCoins_30 rfl (lv_at hl 0 rfl) ?_
        refine lv_dup F.x F.b dX4_takeCoins_31 rfl ?_
        refine rg F w cl4 0 (at_Sh_0 _ _ _) 3 (by decide) q152 rfl (v := .int (S.1 3)) rfl dX4_takeCoins_32 ?_
        refine lv_iload_n F.x F.b dX4_takeCoins_35 rfl (lv_at hl 1 rfl) ?_
        refine lv_iadd F.x F.b dX4_takeCoins_36 ?_
        refine rp F w (ws' := wSh G.2.1 a (wrI S 3 ((S.1 3) + x1))) cl4 0 (at_Sh_0 _ _ _) 3 (by decide) q152 rfl rfl rfl rfl (Nat.le_of_ble_eq_true rfl) (pt_Sh_0_3 _ _ _ _) dX4_takeCoins_37 (fun H locs w => ?_)
        refine lv_aload_n F.x F.b dX4_takeCoins_40 rfl (lv_at hl 0 rfl) ?_
        refine rg F w cl4 0 (at_Sh_0 _ _ _) 3 (by decide) q152 rfl (v := .int ((S.1 3) + x1)) rfl dX4_takeCoins_41 ?_
        obtain ⟨z0, z1⟩ := sm2 (sm h)
        exact ei F w hr hlocks rfl z0 (by rw [← z1]) dX4_takeCoins_44
      · have h := ie c3 h
        refine lv_bipush (v := (-4)) F.x F.b dX4_takeCoins_27 (by decide) ?_
        obtain ⟨z0, z1⟩ := sm2 (sm h)
        exact ei F w hr hlocks rfl z0 (by rw [← z1]) dX4_takeCoins_29
    · have h := ie c2 h
      refine lv_bipush (v := (-3)) F.x F.b dX4_takeCoins_12 (by decide) ?_
      obtain ⟨z0, z1⟩ := sm2 (sm h)
      exact ei F w hr hlocks rfl z0 (by rw [← z1]) dX4_takeCoins_14
set_option maxRecDepth 100000 in
set_option maxHeartbeats 4000000 in
theorem t_X4_dutyOf {G : cG} (g : GOK G) {a : Nat → Nat} {S : Mem} {x1 : Int32} {r : Int32} (h : f_X4_dutyOf S x1 = some r) : CI G yX4_dutyOf cX4_dutyOf 2 .int 2 46 [.ref (a 0), .int x1] (wSh G.2.1 a S) (wSh G.2.1 a S) r := by
  unfold f_X4_dutyOf at h
  refine CI.of g (by decide) rfl (Nat.le_of_ble_eq_true rfl) ?_
  intro p l e s m below meth c A ls F hr hlocks w hl
  generalize ([.ref (a 0), .int x1] : List Value).toArray = args
  have hl : lv_has ls 2 [(0, .ref (a 0)), (1, .int x1)] := hl
  refine lv_aload_n F.x F.b dX4_dutyOf_0 rfl (lv_at hl 0 rfl) ?_
  refine rg F w cl4 0 (at_Sh_0 _ _ _) 0 (by decide) q146 rfl (v := .ref (a 1)) rfl dX4_dutyOf_1 ?_
  refine rgN F w cl3 1 (at_Sh_1 _ _ _) 5 (by decide) q79 rfl (v := .ref (a 7)) rfl dX4_dutyOf_4 ?_
  refine lv_iload_n F.x F.b dX4_dutyOf_7 rfl (lv_at hl 1 rfl) ?_
  obtain ⟨g1, h⟩ := gd h
  refine rz F w 7 (n := 16) (f := S.2 5) (at_Sh_7 _ _ _) g1 dX4_dutyOf_8 ?_
  refine lv_if_eq (tgt := 16) F.x F.b dX4_dutyOf_9 (by decide) (fun c2 => ?_) (fun c2 => ?_)
  · have h := it c2 h
    refine lv_aload_n F.x F.b dX4_dutyOf_16 rfl (lv_at hl 0 rfl) ?_
    refine rg F w cl4 0 (at_Sh_0 _ _ _) 1 (by decide) q148 rfl (v := .ref (a 9)) rfl dX4_dutyOf_17 ?_
    refine lv_aload_n F.x F.b dX4_dutyOf_20 rfl (lv_at hl 0 rfl) ?_
    refine rg F w cl4 0 (at_Sh_0 _ _ _) 0 (by decide) q146 rfl (v := .ref (a 1)) rfl dX4_dutyOf_21 ?_
    refine lv_iload_n F.x F.b dX4_dutyOf_24 rfl (lv_at hl 1 rfl) ?_
    obtain ⟨r3, hc4, h⟩ := bd h
    try dsimp only at h
    refine kVi0 F w (As := [.int x1]) (rest := [.ref (a 9)]) (w1 := wSh G.2.1 a S) (t_X3_valueOf F.1 hc4) m_X3_valueOf v_X3_valueOf q335 (ci := 7) (q0 := 1) rfl rfl rfl ⟨Nat.le_of_ble_eq_true rfl, Nat.le_of_ble_eq_true rfl⟩ rfl hl.1 rfl (Nat.le_of_ble_eq_true rfl) dX4_dutyOf_25 ⟨Nat.le_of_ble_eq_true rfl, Nat.le_of_ble_eq_true rfl⟩ (fun H locs w => ?_)
    obtain ⟨r5, hc6, h⟩ := bd h
    try dsimp only at h
    refine kVi0 F w (As := [.int r3]) (rest := []) (w1 := wSh G.2.1 a S) (t_X5_dutyByParts F.1 hc6) m_X5_dutyByParts v_X5_dutyByParts q339 (ci := 9) (q0 := 9) rfl rfl rfl ⟨Nat.le_of_ble_eq_true rfl, Nat.le_of_ble_eq_true rfl⟩ rfl hl.1 rfl (Nat.le_of_ble_eq_true rfl) dX4_dutyOf_28 ⟨Nat.le_of_ble_eq_true rfl, Nat.le_of_ble_eq_true rfl⟩ (fun H locs w => ?_)
    have z0 := sm h
    exact ei F w hr hlocks rfl z0 rfl dX4_dutyOf_31
  · have h := ie c2 h
    refine lv_iconst (v := 0) F.x F.b dX4_dutyOf_12 (by decide) ?_
    refine lv_goto (tgt := 31) F.x F.b dX4_dutyOf_13 (by decide) ?_
    have z0 := sm h
    exact ei F w hr hlocks rfl z0 rfl dX4_dutyOf_31
set_option maxRecDepth 100000 in
set_option maxHeartbeats 4000000 in
theorem t_X4_letLeave {G : cG} (g : GOK G) {a : Nat → Nat} {S : Mem} {x1 : Int32} {S' : Mem} (h : f_X4_letLeave S x1 = some S') : CV G yX4_letLeave cX4_letLeave 2 2 45 [.ref (a 0), .int x1] (wSh G.2.1 a S) (wSh G.2.1 a S') := by
  unfold f_X4_letLeave at h
  refine CV.of g (by decide) rfl (Nat.le_of_ble_eq_true rfl) ?_
  intro p l e s m below meth c A ls F hr hlocks w hl
  generalize ([.ref (a 0), .int x1] : List Value).toArray = args
  have hl : lv_has ls 2 [(0, .ref (a 0)), (1, .int x1)] := hl
  refine lv_aload_n F.x F.b dX4_letLeave_0 rfl (lv_at hl 0 rfl) ?_
  refine rg F w cl4 0 (at_Sh_0 _ _ _) 2 (by decide) q150 rfl (v := .ref (a 12)) rfl dX4_letLeave_1 ?_
  refine lv_aload_n F.x F.b dX4_letLeave_4 rfl (lv_at hl 0 rfl) ?_
  refine rg F w cl4 0 (at_Sh_0 _ _ _) 0 (by decide) q146 rfl (v := .ref (a 1)) rfl dX4_letLeave_5 ?_
  refine rgN F w cl3 1 (at_Sh_1 _ _ _) 0 (by decide) q67 rfl (v := .ref (a 2)) rfl dX4_letLeave_8 ?_
  refine lv_iload_n F.x F.b dX4_letLeave_11 rfl (lv_at hl 1 rfl) ?_
  obtain ⟨g1, h⟩ := gd h
  refine ri F w 2 (n := 16) (f := S.2 0) (at_Sh_2 _ _ _) g1 dX4_letLeave_12 ?_
  obtain ⟨S_2, hc3, h⟩ := bd h
  try dsimp only at h
  refine kVv0 F w (As := [.int (S.2 0 (Int32.toNatClampNeg x1))]) (rest := []) (w1 := wSh G.2.1 a S_2) (t_X0_remove F.1 hc3) m_X0_remove v_X0_remove q589 (ci := 4) (q0 := 12) rfl rfl rfl ⟨Nat.le_of_ble_eq_true rfl, Nat.le_of_ble_eq_true rfl⟩ rfl hl.1 rfl (Nat.le_of_ble_eq_true rfl) dX4_letLeave_13 ⟨Nat.le_of_ble_eq_true rfl, Nat.le_of_ble_eq_true rfl⟩ (fun H locs w => ?_)
  refine lv_aload_n F.x F.b dX4_letLeave_16 rfl (lv_at hl 0 rfl) ?_
  refine rg F w cl4 0 (at_Sh_0 _ _ _) 0 (by decide) q146 rfl (v := .ref (a 1)) rfl dX4_letLeave_17 ?_
  refine lv_iload_n F.x F.b dX4_letLeave_20 rfl (lv_at hl 1 rfl) ?_
  obtain ⟨S_4, hc5, h⟩ := bd h
  try dsimp only at h
  refine kVv0 F w (As := [.int x1]) (rest := []) (w1 := wSh G.2.1 a S_4) (t_X3_remove F.1 hc5) m_X3_remove v_X3_remove q593 (ci := 7) (q0 := 1) rfl rfl rfl ⟨Nat.le_of_ble_eq_true rfl, Nat.le_of_ble_eq_true rfl⟩ rfl hl.1 rfl (Nat.le_of_ble_eq_true rfl) dX4_letLeave_21 ⟨Nat.le_of_ble_eq_true rfl, Nat.le_of_ble_eq_true rfl⟩ (fun H locs w => ?_)
  have z0 := sm h
  exact ev F w hr hlocks (by rw [← z0]) dX4_letLeave_24
set_option maxRecDepth 100000 in
set_option maxHeartbeats 4000000 in
theorem t_X4_releaseLot {G : cG} (g : GOK G) {a : Nat → Nat} {S : Mem} {x1 : Int32} {r : Int32} {S' : Mem} (h : f_X4_releaseLot S x1 = some (r, S')) : CI G yX4_releaseLot cX4_releaseLot 4 .int 3 67 [.ref (a 0), .int x1] (wSh G.2.1 a S) (wSh G.2.1 a S') r := by
  unfold f_X4_releaseLot at h
  refine CI.of g (by decide) rfl (Nat.le_of_ble_eq_true rfl) ?_
  intro p l e s m below meth c A ls F hr hlocks w hl
  generalize ([.ref (a 0), .int x1] : List Value).toArray = args
  have hl : lv_has ls 4 [(0, .ref (a 0)), (1, .int x1)] := hl
  refine lv_aload_n F.x F.b dX4_releaseLot_0 rfl (lv_at hl 0 rfl) ?_
  refine rg F w cl4 0 (at_Sh_0 _ _ _) 0 (by decide) q146 rfl (v := .ref (a 1)) rfl dX4_releaseLot_1 ?_
  refine lv_iload_n F.x F.b dX4_releaseLot_4 rfl (lv_at hl 1 rfl) ?_
  obtain ⟨r1, hc2, h⟩ := bd h
  try dsimp only at h
  refine kVi0 F w (As := [.int x1]) (rest := []) (w1 := wSh G.2.1 a S) (t_X3_slotWith F.1 hc2) m_X3_slotWith v_X3_slotWith q698 (ci := 7) (q0 := 1) rfl rfl rfl ⟨Nat.le_of_ble_eq_true rfl, Nat.le_of_ble_eq_true rfl⟩ rfl hl.1 rfl (Nat.le_of_ble_eq_true rfl) dX4_releaseLot_5 ⟨Nat.le_of_ble_eq_true rfl, Nat.le_of_ble_eq_true rfl⟩ (fun H locs w => ?_)
  refine lv_istore_n (lv' := [(2, .int r1), (0, .ref (a 0)), (1, .int x1)]) F.x F.b dX4_releaseLot_8 rfl hl (by decide) rfl (fun ls hl => ?_)
  refine lv_iload_n F.x F.b dX4_releaseLot_9 rfl (lv_at hl 0 rfl) ?_
  refine lv_if_ge (tgt := 15) F.x F.b dX4_releaseLot_10 (by decide) (fun c3 => ?_) (fun c3 => ?_)
  · have h := it c3 h
    refine lv_aload_n F.x F.b dX4_releaseLot_15 rfl (lv_at hl 1 rfl) ?_
    refine lv_iload_n F.x F.b dX4_releaseLot_16 rfl (lv_at hl 0 rfl) ?_
    obtain ⟨r4, hc5, h⟩ := bd h
    try dsimp only at h
    refine kVi0 F w (As := [.int r1]) (rest := []) (w1 := wSh G.2.1 a S) (t_X4_dutyOf F.1 hc5) m_X4_dutyOf v_X4_dutyOf q331 (ci := 8) (q0 := 0) rfl rfl rfl ⟨Nat.le_of_ble_eq_true rfl, Nat.le_of_ble_eq_true rfl⟩ rfl hl.1 rfl (Nat.le_of_ble_eq_true rfl) dX4_releaseLot_17 ⟨Nat.le_of_ble_eq_true rfl, Nat.le_of_ble_eq_true rfl⟩ (fun H locs w => ?_)
    refine lv_istore_n (lv' := [(3, .int r4), (2, .int r1), (0, .ref (a 0)), (1, .int x1)]) F.x F.b dX4_releaseLot_20 rfl hl (by decide) rfl (fun ls hl => ?_)
    refine lv_aload_n F.x F.b dX4_releaseLot_21 rfl (lv_at hl 2 rfl) ?_
    refine rg F w cl4 0 (at_Sh_0 _ _ _) 3 (by decide) q152 rfl (v := .int (S.1 3)) rfl dX4_releaseLot_22 ?_
    refine lv_iload_n F.x F.b dX4_releaseLot_25 rfl (lv_at hl 0 rfl) ?_
    refine lv_icmp_ge (tgt := 32) F.x F.b dX4_releaseLot_26 (by decide) (fun c6 => ?_) (fun c6 => ?_)
    · have h := it c6 h
      refine lv_aload_n F.x F.b dX4_releaseLot_32 rfl (lv_at hl 2 rfl) ?_
      refine lv_dup F.x F.b dX4_releaseLot_33 rfl ?_
      refine rg F w cl4 0 (at_Sh_0 _ _ _) 3 (by decide) q152 rfl (v := .int (S.1 3)) rfl dX4_releaseLot_34 ?_
      refine lv_iload_n F.x F.b dX4_releaseLot_37 rfl (lv_at hl 0 rfl) ?_
      refine lv_isub F.x F.b dX4_releaseLot_38 ?_
      refine rp F w (ws' := wSh G.2.1 a (wrI S 3 ((S.1 3) - r4))) cl4 0 (at_Sh_0 _ _ _) 3 (by decide) q152 rfl rfl rfl rfl (Nat.le_of_ble_eq_true rfl) (pt_Sh_0_3 _ _ _ _) dX4_releaseLot_39 (fun H locs w => ?_)
      refine lv_aload_n F.x F.b dX4_releaseLot_42 rfl (lv_at hl 2 rfl) ?_
      refine lv_dup F.x F.b dX4_releaseLot_43 rfl ?_
      refine rg F w cl4 0 (at_Sh_0 _ _ _) 4 (by decide) q154 rfl (v := .int (S.1 4)) rfl dX4_releaseLot_44 ?_
      refine lv_iload_n F.x F.b dX4_releaseLot_47 rfl (lv_at hl 0 rfl) ?_
      refine lv_iadd F.x F.b dX4_releaseLot_48 ?_
      refine rp F w (ws' := wSh G.2.1 a (wrI (wrI S 3 ((S.1 3) - r4)) 4 ((S.1 4) + r4))) cl4 0 (at_Sh_0 _ _ _) 4 (by decide) q154 rfl rfl rfl rfl (Nat.le_of_ble_eq_true rfl) (pt_Sh_0_4 _ _ _ _) dX4_releaseLot_49 (fun H locs w => ?_)
      refine lv_aload_n F.x F.b dX4_releaseLot_52 rfl (lv_at hl 2 rfl) ?_
      refine lv_iload_n F.x F.b dX4_releaseLot_53 rfl (lv_at hl 1 rfl) ?_
      obtain ⟨S_7, hc8, h⟩ := bd h
      try dsimp only at h
      refine kVv0 F w (As := [.int r1]) (rest := []) (w1 := wSh G.2.1 a S_7) (t_X4_letLeave F.1 hc8) m_X4_letLeave v_X4_letLeave q585 (ci := 8) (q0 := 0) rfl rfl rfl ⟨Nat.le_of_ble_eq_true rfl, Nat.le_of_ble_eq_true rfl⟩ rfl hl.1 rfl (Nat.le_of_ble_eq_true rfl) dX4_releaseLot_54 ⟨Nat.le_of_ble_eq_true rfl, Nat.le_of_ble_eq_true rfl⟩ (fun H locs w => ?_)
      refine lv_iload_n F.x F.b dX4_releaseLot_57 rfl (lv_at hl 0 rfl) ?_
      obtain ⟨z0, z1⟩ := sm2 (sm h)
      exact ei F w hr hlocks rfl z0 (by rw [← z1]) dX4_releaseLot_58
    · have h := ie c6 h
      refine lv_bipush (v := (-5)) F.x F.b dX4_releaseLot_29 (by decide) ?_
      obtain ⟨z0, z1⟩ := sm2 (sm h)
      exact ei F w hr hlocks rfl z0 (by rw [← z1]) dX4_releaseLot_31
  · have h := ie c3 h
    refine lv_iconst (v := (-1)) F.x F.b dX4_releaseLot_13 (by decide) ?_
    obtain ⟨z0, z1⟩ := sm2 (sm h)
    exact ei F w hr hlocks rfl z0 (by rw [← z1]) dX4_releaseLot_14
set_option maxRecDepth 100000 in
set_option maxHeartbeats 4000000 in
theorem t_X4_letOneDayPass {G : cG} (g : GOK G) {a : Nat → Nat} {S : Mem} {S' : Mem} (h : f_X4_letOneDayPass S = some S') : CV G yX4_letOneDayPass cX4_letOneDayPass 3 3 66 [.ref (a 0)] (wSh G.2.1 a S) (wSh G.2.1 a S') := by
  unfold f_X4_letOneDayPass at h
  refine CV.of g (by decide) rfl (Nat.le_of_ble_eq_true rfl) ?_
  intro p l e s m below meth c A ls F hr hlocks w hl
  generalize ([.ref (a 0)] : List Value).toArray = args
  have hl : lv_has ls 3 [(0, .ref (a 0))] := hl
  have L26 : ∀ (x1 : Int32) {k : Mem → Option (Mem)} (n : Nat) (x2 : Int32) (S : Mem) (H : Heap) (locs : List Loc) (ls : Array Slot), Wd G A s.heap (wSh G.2.1 a S) H locs → lv_has ls 3 [(0, .ref (a 0)), (1, .int x1), (2, .int x2)] → f_X4_letOneDayPass_L26 x1 k n x2 S = some S' → (∀ (S : Mem) (H : Heap) (locs : List Loc) (ls : Array Slot), Wd G A s.heap (wSh G.2.1 a S) H locs → lv_has ls 3 [(0, .ref (a 0))] → k S = some S' → W p l e { frames := 3, cells := 0, slots := 0, locals := 66 } s m args below meth c H locs 0 0 (QV G A (wSh G.2.1 a S') below args s) (F0 m 92 ls [])) → W p l e { frames := 3, cells := 0, slots := 0, locals := 66 } s m args below meth c H locs 0 0 (QV G A (wSh G.2.1 a S') below args s) (F0 m 26 ls []) := by
    clear h w hl
    intro x1 k n
    induction n with
    | zero =>
      intro x2 S H locs ls w hl h hk
      exact nomatch (show (none : Option (Mem)) = some S' from h)
    | succ n ih =>
      intro x2 S H locs ls w hl h hk
      rw [f_X4_letOneDayPass_L26] at h
      refine lv_iload_n F.x F.b dX4_letOneDayPass_26 rfl (lv_at hl 2 rfl) ?_
      refine lv_if_lt (tgt := 92) F.x F.b dX4_letOneDayPass_27 (by decide) (fun c5 => ?_) (fun c5 => ?_)
      · have h := it c5 h
        exact hk S _ _ _ w (lv_sub hl [0] rfl) h
      · have h := ie c5 h
        refine lv_iload_n F.x F.b dX4_letOneDayPass_30 rfl (lv_at hl 1 rfl) ?_
        refine lv_aload_n F.x F.b dX4_letOneDayPass_31 rfl (lv_at hl 0 rfl) ?_
        refine rg F w cl4 0 (at_Sh_0 _ _ _) 0 (by decide) q146 rfl (v := .ref (a 1)) rfl dX4_letOneDayPass_32 ?_
        refine rgN F w cl3 1 (at_Sh_1 _ _ _) 4 (by decide) q76 rfl (v := .ref (a 6)) rfl dX4_letOneDayPass_35 ?_
        refine lv_iload_n F.x F.b dX4_letOneDayPass_38 rfl (lv_at hl 2 rfl) ?_
        obtain ⟨g6, h⟩ := gd h
        refine ri F w 6 (n := 16) (f := S.2 4) (at_Sh_6 _ _ _) g6 dX4_letOneDayPass_39 ?_
        obtain ⟨r7, hc8, h⟩ := bd h
        try dsimp only at h
        refine kSNi F w (t_X6_hasBay F.1 hc8) m_X6_hasBay v_X6_hasBay q584 (As := [.int x1, .int (S.2 4 (Int32.toNatClampNeg x2))]) (rest := []) ⟨Nat.le_of_ble_eq_true rfl, Nat.le_of_ble_eq_true rfl⟩ rfl hl.1 rfl (Nat.le_of_ble_eq_true rfl) dX4_letOneDayPass_40 ⟨Nat.le_of_ble_eq_true rfl, Nat.le_of_ble_eq_true rfl⟩ (fun H locs w => ?_)
        refine lv_if_eq (tgt := 86) F.x F.b dX4_letOneDayPass_43 (by decide) (fun c9 => ?_) (fun c9 => ?_)
        · have h := it c9 h
          refine lv_iinc (v := (x2 + (-1))) (lv' := [(2, .int (x2 + (-1))), (0, .ref (a 0)), (1, .int x1)]) F.x F.b dX4_letOneDayPass_86 hl (k := 2) rfl rfl (by decide) rfl (fun ls hl => ?_)
          refine lv_goto (tgt := 26) F.x F.b dX4_letOneDayPass_89 (by decide) ?_
          exact ih (x2 + (-1)) S _ _ _ w (lv_sub hl [1, 2, 0] rfl) h hk
        · have h := ie c9 h
          refine lv_aload_n F.x F.b dX4_letOneDayPass_46 rfl (lv_at hl 0 rfl) ?_
          refine rg F w cl4 0 (at_Sh_0 _ _ _) 0 (by decide) q146 rfl (v := .ref (a 1)) rfl dX4_letOneDayPass_47 ?_
          refine rgN F w cl3 1 (at_Sh_1 _ _ _) 2 (by decide) q72 rfl (v := .ref (a 4)) rfl dX4_letOneDayPass_50 ?_
          refine lv_iload_n F.x F.b dX4_letOneDayPass_53 rfl (lv_at hl 2 rfl) ?_
          refine lv_dup2_11 F.x F.b dX4_letOneDayPass_54 rfl rfl ?_
          obtain ⟨g10, h⟩ := gd h
          refine ri F w 4 (n := 16) (f := S.2 2) (at_Sh_4 _ _ _) g10 dX4_letOneDayPass_55 ?_
          refine lv_iconst (v := 1) F.x F.b dX4_letOneDayPass_56 (by decide) ?_
          refine lv_isub F.x F.b dX4_letOneDayPass_57 ?_
          obtain ⟨g11, h⟩ := gd h
          refine ris F w (ws' := wSh G.2.1 a (wrA S 2 x2 ((S.2 2 (Int32.toNatClampNeg x2)) - 1))) 4 (n := 16) (f := S.2 2) (at_Sh_4 _ _ _) g11 (st_Sh_4 _ _ _ _ _) dX4_letOneDayPass_58 (fun H locs w => ?_)
          refine lv_aload_n F.x F.b dX4_letOneDayPass_59 rfl (lv_at hl 0 rfl) ?_
          refine rg F w cl4 0 (at_Sh_0 _ _ _) 0 (by decide) q146 rfl (v := .ref (a 1)) rfl dX4_letOneDayPass_60 ?_
          refine rgN F w cl3 1 (at_Sh_1 _ _ _) 2 (by decide) q72 rfl (v := .ref (a 4)) rfl dX4_letOneDayPass_63 ?_
          refine lv_iload_n F.x F.b dX4_letOneDayPass_66 rfl (lv_at hl 2 rfl) ?_
          obtain ⟨g12, h⟩ := gd h
          refine ri F w 4 (n := 16) (f := (wrA S 2 x2 ((S.2 2 (Int32.toNatClampNeg x2)) - 1)).2 2) (at_Sh_4 _ _ _) g12 dX4_letOneDayPass_67 ?_
          refine lv_if_gt (tgt := 86) F.x F.b dX4_letOneDayPass_68 (by decide) (fun c13 => ?_) (fun c13 => ?_)
          · have h := it c13 h
            refine lv_iinc (v := (x2 + (-1))) (lv' := [(2, .int (x2 + (-1))), (0, .ref (a 0)), (1, .int x1)]) F.x F.b dX4_letOneDayPass_86 hl (k := 2) rfl rfl (by decide) rfl (fun ls hl => ?_)
            refine lv_goto (tgt := 26) F.x F.b dX4_letOneDayPass_89 (by decide) ?_
            exact ih (x2 + (-1)) (wrA S 2 x2 ((S.2 2 (Int32.toNatClampNeg x2)) - 1)) _ _ _ w (lv_sub hl [1, 2, 0] rfl) h hk
          · have h := ie c13 h
            refine lv_aload_n F.x F.b dX4_letOneDayPass_71 rfl (lv_at hl 0 rfl) ?_
            refine lv_iload_n F.x F.b dX4_letOneDayPass_72 rfl (lv_at hl 2 rfl) ?_
            obtain ⟨S_14, hc15, h⟩ := bd h
            try dsimp only at h
            refine kVv0 F w (As := [.int x2]) (rest := []) (w1 := wSh G.2.1 a S_14) (t_X4_letLeave F.1 hc15) m_X4_letLeave v_X4_letLeave q585 (ci := 8) (q0 := 0) rfl rfl rfl ⟨Nat.le_of_ble_eq_true rfl, Nat.le_of_ble_eq_true rfl⟩ rfl hl.1 rfl (Nat.le_of_ble_eq_true rfl) dX4_letOneDayPass_73 ⟨Nat.le_of_ble_eq_true rfl, Nat.le_of_ble_eq_true rfl⟩ (fun H locs w => ?_)
            refine lv_aload_n F.x F.b dX4_letOneDayPass_76 rfl (lv_at hl 0 rfl) ?_
            refine lv_dup F.x F.b dX4_letOneDayPass_77 rfl ?_
            refine rg F w cl4 0 (at_Sh_0 _ _ _) 6 (by decide) q158 rfl (v := .int (S_14.1 6)) rfl dX4_letOneDayPass_78 ?_
            refine lv_iconst (v := 1) F.x F.b dX4_letOneDayPass_81 (by decide) ?_
            refine lv_iadd F.x F.b dX4_letOneDayPass_82 ?_
            refine rp F w (ws' := wSh G.2.1 a (wrI S_14 6 ((S_14.1 6) + 1))) cl4 0 (at_Sh_0 _ _ _) 6 (by decide) q158 rfl rfl rfl rfl (Nat.le_of_ble_eq_true rfl) (pt_Sh_0_6 _ _ _ _) dX4_letOneDayPass_83 (fun H locs w => ?_)
            refine lv_iinc (v := (x2 + (-1))) (lv' := [(2, .int (x2 + (-1))), (0, .ref (a 0)), (1, .int x1)]) F.x F.b dX4_letOneDayPass_86 hl (k := 2) rfl rfl (by decide) rfl (fun ls hl => ?_)
            refine lv_goto (tgt := 26) F.x F.b dX4_letOneDayPass_89 (by decide) ?_
            exact ih (x2 + (-1)) (wrI S_14 6 ((S_14.1 6) + 1)) _ _ _ w (lv_sub hl [1, 2, 0] rfl) h hk
  refine lv_aload_n F.x F.b dX4_letOneDayPass_0 rfl (lv_at hl 0 rfl) ?_
  refine rg F w cl4 0 (at_Sh_0 _ _ _) 0 (by decide) q146 rfl (v := .ref (a 1)) rfl dX4_letOneDayPass_1 ?_
  obtain ⟨r1, hc2, h⟩ := bd h
  try dsimp only at h
  refine kVi0 F w (As := []) (rest := []) (w1 := wSh G.2.1 a S) (t_X3_baysOfDamp F.1 hc2) m_X3_baysOfDamp v_X3_baysOfDamp q570 (ci := 7) (q0 := 1) rfl rfl rfl ⟨Nat.le_of_ble_eq_true rfl, Nat.le_of_ble_eq_true rfl⟩ rfl hl.1 rfl (Nat.le_of_ble_eq_true rfl) dX4_letOneDayPass_4 ⟨Nat.le_of_ble_eq_true rfl, Nat.le_of_ble_eq_true rfl⟩ (fun H locs w => ?_)
  refine lv_istore_n (lv' := [(1, .int r1), (0, .ref (a 0))]) F.x F.b dX4_letOneDayPass_7 rfl hl (by decide) rfl (fun ls hl => ?_)
  refine lv_aload_n F.x F.b dX4_letOneDayPass_8 rfl (lv_at hl 1 rfl) ?_
  refine rg F w cl4 0 (at_Sh_0 _ _ _) 0 (by decide) q146 rfl (v := .ref (a 1)) rfl dX4_letOneDayPass_9 ?_
  refine lv_iload_n F.x F.b dX4_letOneDayPass_12 rfl (lv_at hl 0 rfl) ?_
  obtain ⟨S_3, hc4, h⟩ := bd h
  try dsimp only at h
  refine kVv0 F w (As := [.int r1]) (rest := []) (w1 := wSh G.2.1 a S_3) (t_X3_spreadFrom F.1 hc4) m_X3_spreadFrom v_X3_spreadFrom q574 (ci := 7) (q0 := 1) rfl rfl rfl ⟨Nat.le_of_ble_eq_true rfl, Nat.le_of_ble_eq_true rfl⟩ rfl hl.1 rfl (Nat.le_of_ble_eq_true rfl) dX4_letOneDayPass_13 ⟨Nat.le_of_ble_eq_true rfl, Nat.le_of_ble_eq_true rfl⟩ (fun H locs w => ?_)
  refine lv_aload_n F.x F.b dX4_letOneDayPass_16 rfl (lv_at hl 1 rfl) ?_
  refine rg F w cl4 0 (at_Sh_0 _ _ _) 0 (by decide) q146 rfl (v := .ref (a 1)) rfl dX4_letOneDayPass_17 ?_
  refine rgN F w cl3 1 (at_Sh_1 _ _ _) 7 (by decide) q85 rfl (v := .int (S_3.1 0)) rfl dX4_letOneDayPass_20 ?_
  refine lv_iconst (v := 1) F.x F.b dX4_letOneDayPass_23 (by decide) ?_
  refine lv_isub F.x F.b dX4_letOneDayPass_24 ?_
  refine lv_istore_n (lv' := [(2, .int ((S_3.1 0) - 1)), (1, .int r1), (0, .ref (a 0))]) F.x F.b dX4_letOneDayPass_25 rfl hl (by decide) rfl (fun ls hl => ?_)
  refine L26 r1 _ ((S_3.1 0) - 1) S_3 _ _ _ w (lv_sub hl [2, 1, 0] rfl) h ?_
  intro S_16 H locs ls w hl h
  try dsimp only at h
  refine lv_aload_n F.x F.b dX4_letOneDayPass_92 rfl (lv_at hl 0 rfl) ?_
  refine lv_dup F.x F.b dX4_letOneDayPass_93 rfl ?_
  refine rg F w cl4 0 (at_Sh_0 _ _ _) 5 (by decide) q156 rfl (v := .int (S_16.1 5)) rfl dX4_letOneDayPass_94 ?_
  refine lv_iconst (v := 1) F.x F.b dX4_letOneDayPass_97 (by decide) ?_
  refine lv_iadd F.x F.b dX4_letOneDayPass_98 ?_
  refine rp F w (ws' := wSh G.2.1 a (wrI S_16 5 ((S_16.1 5) + 1))) cl4 0 (at_Sh_0 _ _ _) 5 (by decide) q156 rfl rfl rfl rfl (Nat.le_of_ble_eq_true rfl) (pt_Sh_0_5 _ _ _ _) dX4_letOneDayPass_99 (fun H locs w => ?_)
  have z0 := sm h
  exact ev F w hr hlocks (by rw [← z0]) dX4_letOneDayPass_102
set_option maxRecDepth 100000 in
set_option maxHeartbeats 4000000 in
theorem t_X4_letPass {G : cG} (g : GOK G) {a : Nat → Nat} {S : Mem} {x1 : Int32} {r : Int32} {S' : Mem} (h : f_X4_letPass S x1 = some (r, S')) : CI G yX4_letPass cX4_letPass 4 .int 4 88 [.ref (a 0), .int x1] (wSh G.2.1 a S) (wSh G.2.1 a S') r := by
  unfold f_X4_letPass at h
  refine CI.of g (by decide) rfl (Nat.le_of_ble_eq_true rfl) ?_
  intro p l e s m below meth c A ls F hr hlocks w hl
  generalize ([.ref (a 0), .int x1] : List Value).toArray = args
  have hl : lv_has ls 4 [(0, .ref (a 0)), (1, .int x1)] := hl
  have L21 : ∀ (x1 : Int32) (x2 : Int32) {k : Mem → Option (Int32 × Mem)} (n : Nat) (x3 : Int32) (S : Mem) (H : Heap) (locs : List Loc) (ls : Array Slot), Wd G A s.heap (wSh G.2.1 a S) H locs → lv_has ls 4 [(0, .ref (a 0)), (1, .int x1), (2, .int x2), (3, .int x3)] → f_X4_letPass_L21 x1 x2 k n x3 S = some (r, S') → (∀ (S : Mem) (H : Heap) (locs : List Loc) (ls : Array Slot), Wd G A s.heap (wSh G.2.1 a S) H locs → lv_has ls 4 [(0, .ref (a 0)), (2, .int x2)] → k S = some (r, S') → W p l e { frames := 4, cells := 0, slots := 0, locals := 88 } s m args below meth c H locs 0 0 (QI G A (wSh G.2.1 a S') r below args s) (F0 m 36 ls [])) → W p l e { frames := 4, cells := 0, slots := 0, locals := 88 } s m args below meth c H locs 0 0 (QI G A (wSh G.2.1 a S') r below args s) (F0 m 21 ls []) := by
    clear h w hl
    intro x1 x2 k n
    induction n with
    | zero =>
      intro x3 S H locs ls w hl h hk
      exact nomatch (show (none : Option (Int32 × Mem)) = some (r, S') from h)
    | succ n ih =>
      intro x3 S H locs ls w hl h hk
      rw [f_X4_letPass_L21] at h
      refine lv_iload_n F.x F.b dX4_letPass_21 rfl (lv_at hl 3 rfl) ?_
      refine lv_iload_n F.x F.b dX4_letPass_22 rfl (lv_at hl 1 rfl) ?_
      refine lv_icmp_ge (tgt := 36) F.x F.b dX4_letPass_23 (by decide) (fun c3 => ?_) (fun c3 => ?_)
      · have h := it c3 h
        exact hk S _ _ _ w (lv_sub hl [0, 2] rfl) h
      · have h := ie c3 h
        refine lv_aload_n F.x F.b dX4_letPass_26 rfl (lv_at hl 0 rfl) ?_
        obtain ⟨S_4, hc5, h⟩ := bd h
        try dsimp only at h
        refine kVv0 F w (As := []) (rest := []) (w1 := wSh G.2.1 a S_4) (t_X4_letOneDayPass F.1 hc5) m_X4_letOneDayPass v_X4_letOneDayPass q566 (ci := 8) (q0 := 0) rfl rfl rfl ⟨Nat.le_of_ble_eq_true rfl, Nat.le_of_ble_eq_true rfl⟩ rfl hl.1 rfl (Nat.le_of_ble_eq_true rfl) dX4_letPass_27 ⟨Nat.le_of_ble_eq_true rfl, Nat.le_of_ble_eq_true rfl⟩ (fun H locs w => ?_)
        refine lv_iinc (v := (x3 + 1)) (lv' := [(3, .int (x3 + 1)), (0, .ref (a 0)), (1, .int x1), (2, .int x2)]) F.x F.b dX4_letPass_30 hl (k := 3) rfl rfl (by decide) rfl (fun ls hl => ?_)
        refine lv_goto (tgt := 21) F.x F.b dX4_letPass_33 (by decide) ?_
        exact ih (x3 + 1) S_4 _ _ _ w (lv_sub hl [1, 2, 3, 0] rfl) h hk
  refine lv_iload_n F.x F.b dX4_letPass_0 rfl (lv_at hl 1 rfl) ?_
  refine lv_iconst (v := 1) F.x F.b dX4_letPass_1 (by decide) ?_
  refine lv_icmp_lt (tgt := 11) F.x F.b dX4_letPass_2 (by decide) (fun c1 => ?_) (fun c1 => ?_)
  · have h := it c1 h
    refine lv_bipush (v := (-3)) F.x F.b dX4_letPass_11 (by decide) ?_
    obtain ⟨z0, z1⟩ := sm2 (sm h)
    exact ei F w hr hlocks rfl z0 (by rw [← z1]) dX4_letPass_13
  · have h := ie c1 h
    refine lv_iload_n F.x F.b dX4_letPass_5 rfl (lv_at hl 1 rfl) ?_
    refine lv_bipush (v := 30) F.x F.b dX4_letPass_6 (by decide) ?_
    refine lv_icmp_le (tgt := 14) F.x F.b dX4_letPass_8 (by decide) (fun c2 => ?_) (fun c2 => ?_)
    · have h := it c2 h
      refine lv_aload_n F.x F.b dX4_letPass_14 rfl (lv_at hl 0 rfl) ?_
      refine rg F w cl4 0 (at_Sh_0 _ _ _) 6 (by decide) q158 rfl (v := .int (S.1 6)) rfl dX4_letPass_15 ?_
      refine lv_istore_n (lv' := [(2, .int (S.1 6)), (0, .ref (a 0)), (1, .int x1)]) F.x F.b dX4_letPass_18 rfl hl (by decide) rfl (fun ls hl => ?_)
      refine lv_iconst (v := 0) F.x F.b dX4_letPass_19 (by decide) ?_
      refine lv_istore_n (lv' := [(3, .int 0), (2, .int (S.1 6)), (0, .ref (a 0)), (1, .int x1)]) F.x F.b dX4_letPass_20 rfl hl (by decide) rfl (fun ls hl => ?_)
      refine L21 x1 (S.1 6) _ 0 S _ _ _ w (lv_sub hl [2, 3, 1, 0] rfl) h ?_
      intro S_6 H locs ls w hl h
      try dsimp only at h
      refine lv_aload_n F.x F.b dX4_letPass_36 rfl (lv_at hl 0 rfl) ?_
      refine rg F w cl4 0 (at_Sh_0 _ _ _) 6 (by decide) q158 rfl (v := .int (S_6.1 6)) rfl dX4_letPass_37 ?_
      refine lv_iload_n F.x F.b dX4_letPass_40 rfl (lv_at hl 1 rfl) ?_
      refine lv_isub F.x F.b dX4_letPass_41 ?_
      obtain ⟨z0, z1⟩ := sm2 (sm h)
      exact ei F w hr hlocks rfl z0 (by rw [← z1]) dX4_letPass_42
    · have h := ie c2 h
      refine lv_bipush (v := (-3)) F.x F.b dX4_letPass_11 (by decide) ?_
      obtain ⟨z0, z1⟩ := sm2 (sm h)
      exact ei F w hr hlocks rfl z0 (by rw [← z1]) dX4_letPass_13
set_option maxRecDepth 100000 in
set_option maxHeartbeats 4000000 in
theorem t_X4_dutyInOrderOfIds {G : cG} (g : GOK G) {a : Nat → Nat} {S : Mem} {r : Int32} (h : f_X4_dutyInOrderOfIds S = some r) : CI G yX4_dutyInOrderOfIds cX4_dutyInOrderOfIds 3 .int 3 67 [.ref (a 0)] (wSh G.2.1 a S) (wSh G.2.1 a S) r := by
  unfold f_X4_dutyInOrderOfIds at h
  refine CI.of g (by decide) rfl (Nat.le_of_ble_eq_true rfl) ?_
  intro p l e s m below meth c A ls F hr hlocks w hl
  generalize ([.ref (a 0)] : List Value).toArray = args
  have hl : lv_has ls 3 [(0, .ref (a 0))] := hl
  have L4 : ∀ (S : Mem) {k : Int32 → Option (Int32)} (n : Nat) (x1 : Int32) (x2 : Int32) (H : Heap) (locs : List Loc) (ls : Array Slot), Wd G A s.heap (wSh G.2.1 a S) H locs → lv_has ls 3 [(0, .ref (a 0)), (1, .int x1), (2, .int x2)] → f_X4_dutyInOrderOfIds_L4 S k n x1 x2 = some r → (∀ (x1 : Int32) (H : Heap) (locs : List Loc) (ls : Array Slot), Wd G A s.heap (wSh G.2.1 a S) H locs → lv_has ls 3 [(1, .int x1)] → k x1 = some r → W p l e { frames := 3, cells := 0, slots := 0, locals := 67 } s m args below meth c H locs 0 0 (QI G A (wSh G.2.1 a S) r below args s) (F0 m 29 ls [])) → W p l e { frames := 3, cells := 0, slots := 0, locals := 67 } s m args below meth c H locs 0 0 (QI G A (wSh G.2.1 a S) r below args s) (F0 m 4 ls []) := by
    clear h w hl
    intro S k n
    induction n with
    | zero =>
      intro x1 x2 H locs ls w hl h hk
      exact nomatch (show (none : Option (Int32)) = some r from h)
    | succ n ih =>
      intro x1 x2 H locs ls w hl h hk
      rw [f_X4_dutyInOrderOfIds_L4] at h
      refine lv_iload_n F.x F.b dX4_dutyInOrderOfIds_4 rfl (lv_at hl 2 rfl) ?_
      refine lv_aload_n F.x F.b dX4_dutyInOrderOfIds_5 rfl (lv_at hl 0 rfl) ?_
      refine rg F w cl4 0 (at_Sh_0 _ _ _) 0 (by decide) q146 rfl (v := .ref (a 1)) rfl dX4_dutyInOrderOfIds_6 ?_
      refine rgN F w cl3 1 (at_Sh_1 _ _ _) 7 (by decide) q85 rfl (v := .int (S.1 0)) rfl dX4_dutyInOrderOfIds_9 ?_
      refine lv_icmp_ge (tgt := 29) F.x F.b dX4_dutyInOrderOfIds_12 (by decide) (fun c1 => ?_) (fun c1 => ?_)
      · have h := it c1 h
        exact hk x1 _ _ _ w (lv_sub hl [1] rfl) h
      · have h := ie c1 h
        refine lv_iload_n F.x F.b dX4_dutyInOrderOfIds_15 rfl (lv_at hl 1 rfl) ?_
        refine lv_aload_n F.x F.b dX4_dutyInOrderOfIds_16 rfl (lv_at hl 0 rfl) ?_
        refine lv_iload_n F.x F.b dX4_dutyInOrderOfIds_17 rfl (lv_at hl 2 rfl) ?_
        obtain ⟨r2, hc3, h⟩ := bd h
        try dsimp only at h
        refine kVi0 F w (As := [.int x2]) (rest := [.int x1]) (w1 := wSh G.2.1 a S) (t_X4_dutyOf F.1 hc3) m_X4_dutyOf v_X4_dutyOf q331 (ci := 8) (q0 := 0) rfl rfl rfl ⟨Nat.le_of_ble_eq_true rfl, Nat.le_of_ble_eq_true rfl⟩ rfl hl.1 rfl (Nat.le_of_ble_eq_true rfl) dX4_dutyInOrderOfIds_18 ⟨Nat.le_of_ble_eq_true rfl, Nat.le_of_ble_eq_true rfl⟩ (fun H locs w => ?_)
        refine lv_iadd F.x F.b dX4_dutyInOrderOfIds_21 ?_
        refine lv_istore_n (lv' := [(1, .int (x1 + r2)), (0, .ref (a 0)), (2, .int x2)]) F.x F.b dX4_dutyInOrderOfIds_22 rfl hl (by decide) rfl (fun ls hl => ?_)
        refine lv_iinc (v := (x2 + 1)) (lv' := [(2, .int (x2 + 1)), (1, .int (x1 + r2)), (0, .ref (a 0))]) F.x F.b dX4_dutyInOrderOfIds_23 hl (k := 2) rfl rfl (by decide) rfl (fun ls hl => ?_)
        refine lv_goto (tgt := 4) F.x F.b dX4_dutyInOrderOfIds_26 (by decide) ?_
        exact ih (x1 + r2) (x2 + 1) _ _ _ w (lv_sub hl [2, 1, 0] rfl) h hk
  refine lv_iconst (v := 0) F.x F.b dX4_dutyInOrderOfIds_0 (by decide) ?_
  refine lv_istore_n (lv' := [(1, .int 0), (0, .ref (a 0))]) F.x F.b dX4_dutyInOrderOfIds_1 rfl hl (by decide) rfl (fun ls hl => ?_)
  refine lv_iconst (v := 0) F.x F.b dX4_dutyInOrderOfIds_2 (by decide) ?_
  refine lv_istore_n (lv' := [(2, .int 0), (1, .int 0), (0, .ref (a 0))]) F.x F.b dX4_dutyInOrderOfIds_3 rfl hl (by decide) rfl (fun ls hl => ?_)
  refine L4 S _ 0 0 _ _ _ w (lv_sub hl [2, 1, 0] rfl) h ?_
  intro y4_1 H locs ls w hl h
  try dsimp only at h
  refine lv_iload_n F.x F.b dX4_dutyInOrderOfIds_29 rfl (lv_at hl 0 rfl) ?_
  have z0 := sm h
  exact ei F w hr hlocks rfl z0 rfl dX4_dutyInOrderOfIds_30
set_option maxRecDepth 100000 in
set_option maxHeartbeats 4000000 in
theorem t_X4_dutyBayByBay {G : cG} (g : GOK G) {a : Nat → Nat} {S : Mem} {r : Int32} (h : f_X4_dutyBayByBay S = some r) : CI G yX4_dutyBayByBay cX4_dutyBayByBay 4 .int 3 67 [.ref (a 0)] (wSh G.2.1 a S) (wSh G.2.1 a S) r := by
  unfold f_X4_dutyBayByBay at h
  refine CI.of g (by decide) rfl (Nat.le_of_ble_eq_true rfl) ?_
  intro p l e s m below meth c A ls F hr hlocks w hl
  generalize ([.ref (a 0)] : List Value).toArray = args
  have hl : lv_has ls 4 [(0, .ref (a 0))] := hl
  have L4 : ∀ (S : Mem) {k : Int32 → Option (Int32)} (n : Nat) (x1 : Int32) (x2 : Int32) (H : Heap) (locs : List Loc) (ls : Array Slot), Wd G A s.heap (wSh G.2.1 a S) H locs → lv_has ls 4 [(0, .ref (a 0)), (1, .int x1), (2, .int x2)] → f_X4_dutyBayByBay_L4 S k n x1 x2 = some r → (∀ (x1 : Int32) (H : Heap) (locs : List Loc) (ls : Array Slot), Wd G A s.heap (wSh G.2.1 a S) H locs → lv_has ls 4 [(1, .int x1)] → k x1 = some r → W p l e { frames := 3, cells := 0, slots := 0, locals := 67 } s m args below meth c H locs 0 0 (QI G A (wSh G.2.1 a S) r below args s) (F0 m 37 ls [])) → W p l e { frames := 3, cells := 0, slots := 0, locals := 67 } s m args below meth c H locs 0 0 (QI G A (wSh G.2.1 a S) r below args s) (F0 m 4 ls []) := by
    clear h w hl
    intro S k n
    induction n with
    | zero =>
      intro x1 x2 H locs ls w hl h hk
      exact nomatch (show (none : Option (Int32)) = some r from h)
    | succ n ih =>
      intro x1 x2 H locs ls w hl h hk
      rw [f_X4_dutyBayByBay_L4] at h
      refine lv_iload_n F.x F.b dX4_dutyBayByBay_4 rfl (lv_at hl 2 rfl) ?_
      refine lv_bipush (v := 24) F.x F.b dX4_dutyBayByBay_5 (by decide) ?_
      refine lv_icmp_ge (tgt := 37) F.x F.b dX4_dutyBayByBay_7 (by decide) (fun c1 => ?_) (fun c1 => ?_)
      · have h := it c1 h
        exact hk x1 _ _ _ w (lv_sub hl [1] rfl) h
      · have h := ie c1 h
        refine lv_aload_n F.x F.b dX4_dutyBayByBay_10 rfl (lv_at hl 0 rfl) ?_
        refine rg F w cl4 0 (at_Sh_0 _ _ _) 0 (by decide) q146 rfl (v := .ref (a 1)) rfl dX4_dutyBayByBay_11 ?_
        refine lv_iload_n F.x F.b dX4_dutyBayByBay_14 rfl (lv_at hl 2 rfl) ?_
        obtain ⟨r2, hc3, h⟩ := bd h
        try dsimp only at h
        refine kVi0 F w (As := [.int x2]) (rest := []) (w1 := wSh G.2.1 a S) (t_X3_slotAt F.1 hc3) m_X3_slotAt v_X3_slotAt q630 (ci := 7) (q0 := 1) rfl rfl rfl ⟨Nat.le_of_ble_eq_true rfl, Nat.le_of_ble_eq_true rfl⟩ rfl hl.1 rfl (Nat.le_of_ble_eq_true rfl) dX4_dutyBayByBay_15 ⟨Nat.le_of_ble_eq_true rfl, Nat.le_of_ble_eq_true rfl⟩ (fun H locs w => ?_)
        refine lv_istore_n (lv' := [(3, .int r2), (0, .ref (a 0)), (1, .int x1), (2, .int x2)]) F.x F.b dX4_dutyBayByBay_18 rfl hl (by decide) rfl (fun ls hl => ?_)
        refine lv_iload_n F.x F.b dX4_dutyBayByBay_19 rfl (lv_at hl 0 rfl) ?_
        refine lv_if_lt (tgt := 31) F.x F.b dX4_dutyBayByBay_20 (by decide) (fun c4 => ?_) (fun c4 => ?_)
        · have h := it c4 h
          refine lv_iinc (v := (x2 + 1)) (lv' := [(2, .int (x2 + 1)), (3, .int r2), (0, .ref (a 0)), (1, .int x1)]) F.x F.b dX4_dutyBayByBay_31 hl (k := 3) rfl rfl (by decide) rfl (fun ls hl => ?_)
          refine lv_goto (tgt := 4) F.x F.b dX4_dutyBayByBay_34 (by decide) ?_
          exact ih x1 (x2 + 1) _ _ _ w (lv_sub hl [2, 3, 0] rfl) h hk
        · have h := ie c4 h
          refine lv_iload_n F.x F.b dX4_dutyBayByBay_23 rfl (lv_at hl 2 rfl) ?_
          refine lv_aload_n F.x F.b dX4_dutyBayByBay_24 rfl (lv_at hl 1 rfl) ?_
          refine lv_iload_n F.x F.b dX4_dutyBayByBay_25 rfl (lv_at hl 0 rfl) ?_
          obtain ⟨r5, hc6, h⟩ := bd h
          try dsimp only at h
          refine kVi0 F w (As := [.int r2]) (rest := [.int x1]) (w1 := wSh G.2.1 a S) (t_X4_dutyOf F.1 hc6) m_X4_dutyOf v_X4_dutyOf q331 (ci := 8) (q0 := 0) rfl rfl rfl ⟨Nat.le_of_ble_eq_true rfl, Nat.le_of_ble_eq_true rfl⟩ rfl hl.1 rfl (Nat.le_of_ble_eq_true rfl) dX4_dutyBayByBay_26 ⟨Nat.le_of_ble_eq_true rfl, Nat.le_of_ble_eq_true rfl⟩ (fun H locs w => ?_)
          refine lv_iadd F.x F.b dX4_dutyBayByBay_29 ?_
          refine lv_istore_n (lv' := [(1, .int (x1 + r5)), (3, .int r2), (0, .ref (a 0)), (2, .int x2)]) F.x F.b dX4_dutyBayByBay_30 rfl hl (by decide) rfl (fun ls hl => ?_)
          refine lv_iinc (v := (x2 + 1)) (lv' := [(2, .int (x2 + 1)), (1, .int (x1 + r5)), (3, .int r2), (0, .ref (a 0))]) F.x F.b dX4_dutyBayByBay_31 hl (k := 3) rfl rfl (by decide) rfl (fun ls hl => ?_)
          refine lv_goto (tgt := 4) F.x F.b dX4_dutyBayByBay_34 (by decide) ?_
          exact ih (x1 + r5) (x2 + 1) _ _ _ w (lv_sub hl [3, 1, 0] rfl) h hk
  refine lv_iconst (v := 0) F.x F.b dX4_dutyBayByBay_0 (by decide) ?_
  refine lv_istore_n (lv' := [(1, .int 0), (0, .ref (a 0))]) F.x F.b dX4_dutyBayByBay_1 rfl hl (by decide) rfl (fun ls hl => ?_)
  refine lv_iconst (v := 0) F.x F.b dX4_dutyBayByBay_2 (by decide) ?_
  refine lv_istore_n (lv' := [(2, .int 0), (1, .int 0), (0, .ref (a 0))]) F.x F.b dX4_dutyBayByBay_3 rfl hl (by decide) rfl (fun ls hl => ?_)
  refine L4 S _ 0 0 _ _ _ w (lv_sub hl [2, 1, 0] rfl) h ?_
  intro y7_1 H locs ls w hl h
  try dsimp only at h
  refine lv_iload_n F.x F.b dX4_dutyBayByBay_37 rfl (lv_at hl 0 rfl) ?_
  have z0 := sm h
  exact ei F w hr hlocks rfl z0 rfl dX4_dutyBayByBay_38
set_option maxRecDepth 100000 in
set_option maxHeartbeats 4000000 in
theorem t_X4_dutiesAgree {G : cG} (g : GOK G) {a : Nat → Nat} {S : Mem} {r : Int32} (h : f_X4_dutiesAgree S = some r) : CI G yX4_dutiesAgree cX4_dutiesAgree 3 .boolean 2 46 [.ref (a 0)] (wSh G.2.1 a S) (wSh G.2.1 a S) r := by
  unfold f_X4_dutiesAgree at h
  refine CI.of g (by decide) rfl (Nat.le_of_ble_eq_true rfl) ?_
  intro p l e s m below meth c A ls F hr hlocks w hl
  generalize ([.ref (a 0)] : List Value).toArray = args
  have hl : lv_has ls 3 [(0, .ref (a 0))] := hl
  have L2 : ∀ (S : Mem) {k : Option (Int32)} (n : Nat) (x1 : Int32) (H : Heap) (locs : List Loc) (ls : Array Slot), Wd G A s.heap (wSh G.2.1 a S) H locs → lv_has ls 3 [(0, .ref (a 0)), (1, .int x1)] → f_X4_dutiesAgree_L2 S k n x1 = some r → (∀ (H : Heap) (locs : List Loc) (ls : Array Slot), Wd G A s.heap (wSh G.2.1 a S) H locs → lv_has ls 3 [] → k = some r → W p l e { frames := 2, cells := 0, slots := 0, locals := 46 } s m args below meth c H locs 0 0 (QI G A (wSh G.2.1 a S) r below args s) (F0 m 49 ls [])) → W p l e { frames := 2, cells := 0, slots := 0, locals := 46 } s m args below meth c H locs 0 0 (QI G A (wSh G.2.1 a S) r below args s) (F0 m 2 ls []) := by
    clear h w hl
    intro S k n
    induction n with
    | zero =>
      intro x1 H locs ls w hl h hk
      exact nomatch (show (none : Option (Int32)) = some r from h)
    | succ n ih =>
      intro x1 H locs ls w hl h hk
      rw [f_X4_dutiesAgree_L2] at h
      refine lv_iload_n F.x F.b dX4_dutiesAgree_2 rfl (lv_at hl 1 rfl) ?_
      refine lv_aload_n F.x F.b dX4_dutiesAgree_3 rfl (lv_at hl 0 rfl) ?_
      refine rg F w cl4 0 (at_Sh_0 _ _ _) 0 (by decide) q146 rfl (v := .ref (a 1)) rfl dX4_dutiesAgree_4 ?_
      refine rgN F w cl3 1 (at_Sh_1 _ _ _) 7 (by decide) q85 rfl (v := .int (S.1 0)) rfl dX4_dutiesAgree_7 ?_
      refine lv_icmp_ge (tgt := 49) F.x F.b dX4_dutiesAgree_10 (by decide) (fun c1 => ?_) (fun c1 => ?_)
      · have h := it c1 h
        exact hk _ _ _ w (lv_sub hl [] rfl) h
      · have h := ie c1 h
        refine lv_aload_n F.x F.b dX4_dutiesAgree_13 rfl (lv_at hl 0 rfl) ?_
        refine rg F w cl4 0 (at_Sh_0 _ _ _) 0 (by decide) q146 rfl (v := .ref (a 1)) rfl dX4_dutiesAgree_14 ?_
        refine lv_iload_n F.x F.b dX4_dutiesAgree_17 rfl (lv_at hl 1 rfl) ?_
        obtain ⟨r2, hc3, h⟩ := bd h
        try dsimp only at h
        refine kVi0 F w (As := [.int x1]) (rest := []) (w1 := wSh G.2.1 a S) (t_X3_valueOf F.1 hc3) m_X3_valueOf v_X3_valueOf q335 (ci := 7) (q0 := 1) rfl rfl rfl ⟨Nat.le_of_ble_eq_true rfl, Nat.le_of_ble_eq_true rfl⟩ rfl hl.1 rfl (Nat.le_of_ble_eq_true rfl) dX4_dutiesAgree_18 ⟨Nat.le_of_ble_eq_true rfl, Nat.le_of_ble_eq_true rfl⟩ (fun H locs w => ?_)
        refine lv_istore_n (lv' := [(2, .int r2), (0, .ref (a 0)), (1, .int x1)]) F.x F.b dX4_dutiesAgree_21 rfl hl (by decide) rfl (fun ls hl => ?_)
        refine lv_aload_n F.x F.b dX4_dutiesAgree_22 rfl (lv_at hl 1 rfl) ?_
        refine rg F w cl4 0 (at_Sh_0 _ _ _) 1 (by decide) q148 rfl (v := .ref (a 9)) rfl dX4_dutiesAgree_23 ?_
        refine lv_iload_n F.x F.b dX4_dutiesAgree_26 rfl (lv_at hl 0 rfl) ?_
        obtain ⟨r4, hc5, h⟩ := bd h
        try dsimp only at h
        refine kVi0 F w (As := [.int r2]) (rest := []) (w1 := wSh G.2.1 a S) (t_X5_dutyByParts F.1 hc5) m_X5_dutyByParts v_X5_dutyByParts q339 (ci := 9) (q0 := 9) rfl rfl rfl ⟨Nat.le_of_ble_eq_true rfl, Nat.le_of_ble_eq_true rfl⟩ rfl hl.1 rfl (Nat.le_of_ble_eq_true rfl) dX4_dutiesAgree_27 ⟨Nat.le_of_ble_eq_true rfl, Nat.le_of_ble_eq_true rfl⟩ (fun H locs w => ?_)
        refine lv_aload_n F.x F.b dX4_dutiesAgree_30 rfl (lv_at hl 1 rfl) ?_
        refine rg F w cl4 0 (at_Sh_0 _ _ _) 1 (by decide) q148 rfl (v := .ref (a 9)) rfl dX4_dutiesAgree_31 ?_
        refine lv_iload_n F.x F.b dX4_dutiesAgree_34 rfl (lv_at hl 0 rfl) ?_
        obtain ⟨r6, hc7, h⟩ := bd h
        try dsimp only at h
        refine kVi0 F w (As := [.int r2]) (rest := [.int r4]) (w1 := wSh G.2.1 a S) (t_X5_dutyByCoins F.1 hc7) m_X5_dutyByCoins v_X5_dutyByCoins q1477 (ci := 9) (q0 := 9) rfl rfl rfl ⟨Nat.le_of_ble_eq_true rfl, Nat.le_of_ble_eq_true rfl⟩ rfl hl.1 rfl (Nat.le_of_ble_eq_true rfl) dX4_dutiesAgree_35 ⟨Nat.le_of_ble_eq_true rfl, Nat.le_of_ble_eq_true rfl⟩ (fun H locs w => ?_)
        refine lv_icmp_eq (tgt := 43) F.x F.b dX4_dutiesAgree_38 (by decide) (fun c8 => ?_) (fun c8 => ?_)
        · have h := it c8 h
          refine lv_iinc (v := (x1 + 1)) (lv' := [(1, .int (x1 + 1)), (2, .int r2), (0, .ref (a 0))]) F.x F.b dX4_dutiesAgree_43 hl (k := 2) rfl rfl (by decide) rfl (fun ls hl => ?_)
          refine lv_goto (tgt := 2) F.x F.b dX4_dutiesAgree_46 (by decide) ?_
          exact ih (x1 + 1) _ _ _ w (lv_sub hl [2, 0] rfl) h hk
        · have h := ie c8 h
          refine lv_iconst (v := 0) F.x F.b dX4_dutiesAgree_41 (by decide) ?_
          have z0 := sm h
          exact ei F w hr hlocks rfl z0 rfl dX4_dutiesAgree_42
  refine lv_iconst (v := 0) F.x F.b dX4_dutiesAgree_0 (by decide) ?_
  refine lv_istore_n (lv' := [(1, .int 0), (0, .ref (a 0))]) F.x F.b dX4_dutiesAgree_1 rfl hl (by decide) rfl (fun ls hl => ?_)
  refine L2 S _ 0 _ _ _ w (lv_sub hl [1, 0] rfl) h ?_
  intro  H locs ls w hl h
  try dsimp only at h
  refine lv_iconst (v := 1) F.x F.b dX4_dutiesAgree_49 (by decide) ?_
  have z0 := sm h
  exact ei F w hr hlocks rfl z0 rfl dX4_dutiesAgree_50
set_option maxRecDepth 100000 in
set_option maxHeartbeats 4000000 in
theorem t_X4_sortDutiesInto {G : cG} (g : GOK G) {a : Nat → Nat} {S : Mem} {da : Nat → Nat} {B : Mem} {B' : Mem} (h : f_X4_sortDutiesInto S B = some B') : CV G yX4_sortDutiesInto cX4_sortDutiesInto 5 3 67 [.ref (a 0), .ref (da 0)] (wSh G.2.1 a S ++ wAd G.2.1 da B) (wSh G.2.1 a S ++ wAd G.2.1 da B') := by
  unfold f_X4_sortDutiesInto at h
  refine CV.of g (by decide) rfl (Nat.le_of_ble_eq_true rfl) ?_
  intro p l e s m below meth c A ls F hr hlocks w hl
  generalize ([.ref (a 0), .ref (da 0)] : List Value).toArray = args
  have hl : lv_has ls 5 [(0, .ref (a 0)), (1, .ref (da 0))] := hl
  have L28 : ∀ (x2 : Int32) (x3 : Int32) (S : Mem) {k : Int32 → Mem → Option (Mem)} (n : Nat) (x4 : Int32) (B : Mem) (H : Heap) (locs : List Loc) (ls : Array Slot), Wd G A s.heap (wSh G.2.1 a S ++ wAd G.2.1 da B) H locs → lv_has ls 5 [(0, .ref (a 0)), (1, .ref (da 0)), (2, .int x2), (3, .int x3), (4, .int x4)] → f_X4_sortDutiesInto_L28 x2 x3 S k n x4 B = some B' → (∀ (x4 : Int32) (B : Mem) (H : Heap) (locs : List Loc) (ls : Array Slot), Wd G A s.heap (wSh G.2.1 a S ++ wAd G.2.1 da B) H locs → lv_has ls 5 [(0, .ref (a 0)), (1, .ref (da 0)), (2, .int x2), (3, .int x3), (4, .int x4)] → k x4 B = some B' → W p l e { frames := 3, cells := 0, slots := 0, locals := 67 } s m args below meth c H locs 0 0 (QV G A (wSh G.2.1 a S ++ wAd G.2.1 da B') below args s) (F0 m 59 ls [])) → W p l e { frames := 3, cells := 0, slots := 0, locals := 67 } s m args below meth c H locs 0 0 (QV G A (wSh G.2.1 a S ++ wAd G.2.1 da B') below args s) (F0 m 28 ls []) := by
    clear h w hl
    intro x2 x3 S k n
    induction n with
    | zero =>
      intro x4 B H locs ls w hl h hk
      exact nomatch (show (none : Option (Mem)) = some B' from h)
    | succ n ih =>
      intro x4 B H locs ls w hl h hk
      rw [f_X4_sortDutiesInto_L28] at h
      refine lv_iload F.x F.b dX4_sortDutiesInto_28 (lv_at hl 4 rfl) ?_
      refine lv_if_le (tgt := 59) F.x F.b dX4_sortDutiesInto_30 (by decide) (fun c5 => ?_) (fun c5 => ?_)
      · have h := it c5 h
        exact hk x4 B _ _ _ w (lv_sub hl [0, 1, 2, 3, 4] rfl) h
      · have h := ie c5 h
        refine lv_aload_n F.x F.b dX4_sortDutiesInto_33 rfl (lv_at hl 1 rfl) ?_
        refine lv_iload F.x F.b dX4_sortDutiesInto_34 (lv_at hl 4 rfl) ?_
        refine lv_iconst (v := 1) F.x F.b dX4_sortDutiesInto_36 (by decide) ?_
        refine lv_isub F.x F.b dX4_sortDutiesInto_37 ?_
        obtain ⟨g6, h⟩ := gd h
        refine ri F w 14 (n := 16) (f := B.2 0) rfl g6 dX4_sortDutiesInto_38 ?_
        refine lv_iload_n F.x F.b dX4_sortDutiesInto_39 rfl (lv_at hl 3 rfl) ?_
        refine lv_icmp_le (tgt := 59) F.x F.b dX4_sortDutiesInto_40 (by decide) (fun c7 => ?_) (fun c7 => ?_)
        · have h := it c7 h
          exact hk x4 B _ _ _ w (lv_sub hl [0, 1, 2, 3, 4] rfl) h
        · have h := ie c7 h
          refine lv_aload_n F.x F.b dX4_sortDutiesInto_43 rfl (lv_at hl 1 rfl) ?_
          refine lv_iload F.x F.b dX4_sortDutiesInto_44 (lv_at hl 4 rfl) ?_
          refine lv_aload_n F.x F.b dX4_sortDutiesInto_46 rfl (lv_at hl 1 rfl) ?_
          refine lv_iload F.x F.b dX4_sortDutiesInto_47 (lv_at hl 4 rfl) ?_
          refine lv_iconst (v := 1) F.x F.b dX4_sortDutiesInto_49 (by decide) ?_
          refine lv_isub F.x F.b dX4_sortDutiesInto_50 ?_
          obtain ⟨g8, h⟩ := gd h
          refine ri F w 14 (n := 16) (f := B.2 0) rfl g8 dX4_sortDutiesInto_51 ?_
          obtain ⟨g9, h⟩ := gd h
          refine ris F w (ws' := wSh G.2.1 a S ++ wAd G.2.1 da (wrA B 0 x4 (B.2 0 (Int32.toNatClampNeg (x4 - 1))))) 14 (n := 16) (f := B.2 0) rfl g9 rfl dX4_sortDutiesInto_52 (fun H locs w => ?_)
          refine lv_iinc (v := (x4 + (-1))) (lv' := [(4, .int (x4 + (-1))), (0, .ref (a 0)), (1, .ref (da 0)), (2, .int x2), (3, .int x3)]) F.x F.b dX4_sortDutiesInto_53 hl (k := 4) rfl rfl (by decide) rfl (fun ls hl => ?_)
          refine lv_goto (tgt := 28) F.x F.b dX4_sortDutiesInto_56 (by decide) ?_
          exact ih (x4 + (-1)) (wrA B 0 x4 (B.2 0 (Int32.toNatClampNeg (x4 - 1)))) _ _ _ w (lv_sub hl [1, 2, 3, 4, 0] rfl) h hk
  have L2 : ∀ (S : Mem) {k : Mem → Option (Mem)} (n : Nat) (x2 : Int32) (B : Mem) (H : Heap) (locs : List Loc) (ls : Array Slot), Wd G A s.heap (wSh G.2.1 a S ++ wAd G.2.1 da B) H locs → lv_has ls 5 [(0, .ref (a 0)), (1, .ref (da 0)), (2, .int x2)] → f_X4_sortDutiesInto_L2 S k n x2 B = some B' → (∀ (B : Mem) (H : Heap) (locs : List Loc) (ls : Array Slot), Wd G A s.heap (wSh G.2.1 a S ++ wAd G.2.1 da B) H locs → lv_has ls 5 [] → k B = some B' → W p l e { frames := 3, cells := 0, slots := 0, locals := 67 } s m args below meth c H locs 0 0 (QV G A (wSh G.2.1 a S ++ wAd G.2.1 da B') below args s) (F0 m 70 ls [])) → W p l e { frames := 3, cells := 0, slots := 0, locals := 67 } s m args below meth c H locs 0 0 (QV G A (wSh G.2.1 a S ++ wAd G.2.1 da B') below args s) (F0 m 2 ls []) := by
    clear h w hl
    intro S k n
    induction n with
    | zero =>
      intro x2 B H locs ls w hl h hk
      exact nomatch (show (none : Option (Mem)) = some B' from h)
    | succ n ih =>
      intro x2 B H locs ls w hl h hk
      rw [f_X4_sortDutiesInto_L2] at h
      refine lv_iload_n F.x F.b dX4_sortDutiesInto_2 rfl (lv_at hl 2 rfl) ?_
      refine lv_aload_n F.x F.b dX4_sortDutiesInto_3 rfl (lv_at hl 0 rfl) ?_
      refine rg F w cl4 0 rfl 0 (by decide) q146 rfl (v := .ref (a 1)) rfl dX4_sortDutiesInto_4 ?_
      refine rgN F w cl3 1 rfl 7 (by decide) q85 rfl (v := .int (S.1 0)) rfl dX4_sortDutiesInto_7 ?_
      refine lv_icmp_ge (tgt := 70) F.x F.b dX4_sortDutiesInto_10 (by decide) (fun c1 => ?_) (fun c1 => ?_)
      · have h := it c1 h
        exact hk B _ _ _ w (lv_sub hl [] rfl) h
      · have h := ie c1 h
        refine lv_iload_n F.x F.b dX4_sortDutiesInto_13 rfl (lv_at hl 2 rfl) ?_
        refine lv_aload_n F.x F.b dX4_sortDutiesInto_14 rfl (lv_at hl 1 rfl) ?_
        refine rl F w 14 0 rfl rfl (v := 16) rfl dX4_sortDutiesInto_15 ?_
        refine lv_icmp_ge (tgt := 70) F.x F.b dX4_sortDutiesInto_16 (by decide) (fun c2 => ?_) (fun c2 => ?_)
        · have h := it c2 h
          exact hk B _ _ _ w (lv_sub hl [] rfl) h
        · have h := ie c2 h
          refine lv_aload_n F.x F.b dX4_sortDutiesInto_19 rfl (lv_at hl 0 rfl) ?_
          refine lv_iload_n F.x F.b dX4_sortDutiesInto_20 rfl (lv_at hl 2 rfl) ?_
          obtain ⟨r3, hc4, h⟩ := bd h
          try dsimp only at h
          refine kVi F w (As := [.int x2]) (rest := []) (ws' := wSh G.2.1 a S ++ wAd G.2.1 da B) (wr := wAd G.2.1 da B) (t_X4_dutyOf F.1 hc4) m_X4_dutyOf v_X4_dutyOf q331 (ci := 8) (q0 := 0) rfl rfl rfl [0, 1, 2, 3, 4, 5, 6, 7, 8, 9, 10, 11, 12, 13] [14] [1, 2, 3, 4, 5, 6, 7, 8, 9, 10, 11, 12, 13, 14, 0] rfl rfl rfl rfl (by decide) rfl rfl ⟨Nat.le_of_ble_eq_true rfl, Nat.le_of_ble_eq_true rfl⟩ rfl hl.1 rfl (Nat.le_of_ble_eq_true rfl) dX4_sortDutiesInto_21 ⟨Nat.le_of_ble_eq_true rfl, Nat.le_of_ble_eq_true rfl⟩ (fun H locs w => ?_)
          refine lv_istore_n (lv' := [(3, .int r3), (0, .ref (a 0)), (1, .ref (da 0)), (2, .int x2)]) F.x F.b dX4_sortDutiesInto_24 rfl hl (by decide) rfl (fun ls hl => ?_)
          refine lv_iload_n F.x F.b dX4_sortDutiesInto_25 rfl (lv_at hl 3 rfl) ?_
          refine lv_istore (lv' := [(4, .int x2), (3, .int r3), (0, .ref (a 0)), (1, .ref (da 0)), (2, .int x2)]) F.x F.b dX4_sortDutiesInto_26 hl (by decide) rfl (fun ls hl => ?_)
          refine L28 x2 r3 S _ x2 B _ _ _ w (lv_sub hl [2, 3, 4, 1, 0] rfl) h ?_
          intro y10_4 B_10 H locs ls w hl h
          try dsimp only at h
          refine lv_aload_n F.x F.b dX4_sortDutiesInto_59 rfl (lv_at hl 1 rfl) ?_
          refine lv_iload F.x F.b dX4_sortDutiesInto_60 (lv_at hl 4 rfl) ?_
          refine lv_iload_n F.x F.b dX4_sortDutiesInto_62 rfl (lv_at hl 3 rfl) ?_
          obtain ⟨g11, h⟩ := gd h
          refine ris F w (ws' := wSh G.2.1 a S ++ wAd G.2.1 da (wrA B_10 0 y10_4 r3)) 14 (n := 16) (f := B_10.2 0) rfl g11 rfl dX4_sortDutiesInto_63 (fun H locs w => ?_)
          refine lv_iinc (v := (x2 + 1)) (lv' := [(2, .int (x2 + 1)), (0, .ref (a 0)), (1, .ref (da 0)), (3, .int r3), (4, .int y10_4)]) F.x F.b dX4_sortDutiesInto_64 hl (k := 2) rfl rfl (by decide) rfl (fun ls hl => ?_)
          refine lv_goto (tgt := 2) F.x F.b dX4_sortDutiesInto_67 (by decide) ?_
          exact ih (x2 + 1) (wrA B_10 0 y10_4 r3) _ _ _ w (lv_sub hl [1, 2, 0] rfl) h hk
  refine lv_iconst (v := 0) F.x F.b dX4_sortDutiesInto_0 (by decide) ?_
  refine lv_istore_n (lv' := [(2, .int 0), (0, .ref (a 0)), (1, .ref (da 0))]) F.x F.b dX4_sortDutiesInto_1 rfl hl (by decide) rfl (fun ls hl => ?_)
  refine L2 S _ 0 B _ _ _ w (lv_sub hl [1, 2, 0] rfl) h ?_
  intro B_12 H locs ls w hl h
  try dsimp only at h
  have z0 := sm h
  exact ev F w hr hlocks (by rw [← z0]) dX4_sortDutiesInto_70
set_option maxRecDepth 100000 in
set_option maxHeartbeats 4000000 in
theorem t_X4_countReleases {G : cG} (g : GOK G) {a : Nat → Nat} {S : Mem} {da : Nat → Nat} {B : Mem} {r : Int32} {B' : Mem} (h : f_X4_countReleases S B = some (r, B')) : CI G yX4_countReleases cX4_countReleases 4 .int 4 91 [.ref (a 0), .ref (da 0)] (wSh G.2.1 a S ++ wAd G.2.1 da B) (wSh G.2.1 a S ++ wAd G.2.1 da B') r := by
  unfold f_X4_countReleases at h
  refine CI.of g (by decide) rfl (Nat.le_of_ble_eq_true rfl) ?_
  intro p l e s m below meth c A ls F hr hlocks w hl
  generalize ([.ref (a 0), .ref (da 0)] : List Value).toArray = args
  have hl : lv_has ls 4 [(0, .ref (a 0)), (1, .ref (da 0))] := hl
  have L12 : ∀ (S : Mem) (B : Mem) {k : Option (Int32 × Mem)} (n : Nat) (x2 : Int32) (x3 : Int32) (H : Heap) (locs : List Loc) (ls : Array Slot), Wd G A s.heap (wSh G.2.1 a S ++ wAd G.2.1 da B) H locs → lv_has ls 4 [(0, .ref (a 0)), (1, .ref (da 0)), (2, .int x2), (3, .int x3)] → f_X4_countReleases_L12 S B k n x2 x3 = some (r, B') → (∀ (H : Heap) (locs : List Loc) (ls : Array Slot), Wd G A s.heap (wSh G.2.1 a S ++ wAd G.2.1 da B) H locs → lv_has ls 4 [(0, .ref (a 0))] → k = some (r, B') → W p l e { frames := 4, cells := 0, slots := 0, locals := 91 } s m args below meth c H locs 0 0 (QI G A (wSh G.2.1 a S ++ wAd G.2.1 da B') r below args s) (F0 m 47 ls [])) → W p l e { frames := 4, cells := 0, slots := 0, locals := 91 } s m args below meth c H locs 0 0 (QI G A (wSh G.2.1 a S ++ wAd G.2.1 da B') r below args s) (F0 m 12 ls []) := by
    clear h w hl
    intro S B k n
    induction n with
    | zero =>
      intro x2 x3 H locs ls w hl h hk
      exact nomatch (show (none : Option (Int32 × Mem)) = some (r, B') from h)
    | succ n ih =>
      intro x2 x3 H locs ls w hl h hk
      rw [f_X4_countReleases_L12] at h
      refine lv_iload_n F.x F.b dX4_countReleases_12 rfl (lv_at hl 3 rfl) ?_
      refine lv_aload_n F.x F.b dX4_countReleases_13 rfl (lv_at hl 0 rfl) ?_
      refine rg F w cl4 0 rfl 0 (by decide) q146 rfl (v := .ref (a 1)) rfl dX4_countReleases_14 ?_
      refine rgN F w cl3 1 rfl 7 (by decide) q85 rfl (v := .int (S.1 0)) rfl dX4_countReleases_17 ?_
      refine lv_icmp_ge (tgt := 47) F.x F.b dX4_countReleases_20 (by decide) (fun c3 => ?_) (fun c3 => ?_)
      · have h := it c3 h
        exact hk _ _ _ w (lv_sub hl [0] rfl) h
      · have h := ie c3 h
        refine lv_iload_n F.x F.b dX4_countReleases_23 rfl (lv_at hl 3 rfl) ?_
        refine lv_aload_n F.x F.b dX4_countReleases_24 rfl (lv_at hl 1 rfl) ?_
        refine rl F w 14 0 rfl rfl (v := 16) rfl dX4_countReleases_25 ?_
        refine lv_icmp_ge (tgt := 47) F.x F.b dX4_countReleases_26 (by decide) (fun c4 => ?_) (fun c4 => ?_)
        · have h := it c4 h
          exact hk _ _ _ w (lv_sub hl [0] rfl) h
        · have h := ie c4 h
          refine lv_iload_n F.x F.b dX4_countReleases_29 rfl (lv_at hl 2 rfl) ?_
          refine lv_aload_n F.x F.b dX4_countReleases_30 rfl (lv_at hl 1 rfl) ?_
          refine lv_iload_n F.x F.b dX4_countReleases_31 rfl (lv_at hl 3 rfl) ?_
          obtain ⟨g5, h⟩ := gd h
          refine ri F w 14 (n := 16) (f := B.2 0) rfl g5 dX4_countReleases_32 ?_
          refine lv_isub F.x F.b dX4_countReleases_33 ?_
          refine lv_istore_n (lv' := [(2, .int (x2 - (B.2 0 (Int32.toNatClampNeg x3)))), (0, .ref (a 0)), (1, .ref (da 0)), (3, .int x3)]) F.x F.b dX4_countReleases_34 rfl hl (by decide) rfl (fun ls hl => ?_)
          refine lv_iload_n F.x F.b dX4_countReleases_35 rfl (lv_at hl 0 rfl) ?_
          refine lv_if_ge (tgt := 41) F.x F.b dX4_countReleases_36 (by decide) (fun c6 => ?_) (fun c6 => ?_)
          · have h := it c6 h
            refine lv_iinc (v := (x3 + 1)) (lv' := [(3, .int (x3 + 1)), (2, .int (x2 - (B.2 0 (Int32.toNatClampNeg x3)))), (0, .ref (a 0)), (1, .ref (da 0))]) F.x F.b dX4_countReleases_41 hl (k := 3) rfl rfl (by decide) rfl (fun ls hl => ?_)
            refine lv_goto (tgt := 12) F.x F.b dX4_countReleases_44 (by decide) ?_
            exact ih (x2 - (B.2 0 (Int32.toNatClampNeg x3))) (x3 + 1) _ _ _ w (lv_sub hl [2, 3, 1, 0] rfl) h hk
          · have h := ie c6 h
            refine lv_iload_n F.x F.b dX4_countReleases_39 rfl (lv_at hl 3 rfl) ?_
            obtain ⟨z0, z1⟩ := sm2 (sm h)
            exact ei F w hr hlocks rfl z0 (by rw [← z1]) dX4_countReleases_40
  refine lv_aload_n F.x F.b dX4_countReleases_0 rfl (lv_at hl 0 rfl) ?_
  refine lv_aload_n F.x F.b dX4_countReleases_1 rfl (lv_at hl 1 rfl) ?_
  obtain ⟨B_1, hc2, h⟩ := bd h
  try dsimp only at h
  refine kVv0 F w (As := [.ref (da 0)]) (rest := []) (w1 := wSh G.2.1 a S ++ wAd G.2.1 da B_1) (t_X4_sortDutiesInto F.1 hc2) m_X4_sortDutiesInto v_X4_sortDutiesInto q327 (ci := 8) (q0 := 0) rfl rfl rfl ⟨Nat.le_of_ble_eq_true rfl, Nat.le_of_ble_eq_true rfl⟩ rfl hl.1 rfl (Nat.le_of_ble_eq_true rfl) dX4_countReleases_2 ⟨Nat.le_of_ble_eq_true rfl, Nat.le_of_ble_eq_true rfl⟩ (fun H locs w => ?_)
  refine lv_aload_n F.x F.b dX4_countReleases_5 rfl (lv_at hl 0 rfl) ?_
  refine rg F w cl4 0 rfl 3 (by decide) q152 rfl (v := .int (S.1 3)) rfl dX4_countReleases_6 ?_
  refine lv_istore_n (lv' := [(2, .int (S.1 3)), (0, .ref (a 0)), (1, .ref (da 0))]) F.x F.b dX4_countReleases_9 rfl hl (by decide) rfl (fun ls hl => ?_)
  refine lv_iconst (v := 0) F.x F.b dX4_countReleases_10 (by decide) ?_
  refine lv_istore_n (lv' := [(3, .int 0), (2, .int (S.1 3)), (0, .ref (a 0)), (1, .ref (da 0))]) F.x F.b dX4_countReleases_11 rfl hl (by decide) rfl (fun ls hl => ?_)
  refine L12 S B_1 _ (S.1 3) 0 _ _ _ w (lv_sub hl [2, 3, 1, 0] rfl) h ?_
  intro  H locs ls w hl h
  try dsimp only at h
  refine lv_aload_n F.x F.b dX4_countReleases_47 rfl (lv_at hl 0 rfl) ?_
  refine rg F w cl4 0 rfl 0 (by decide) q146 rfl (v := .ref (a 1)) rfl dX4_countReleases_48 ?_
  refine rgN F w cl3 1 rfl 7 (by decide) q85 rfl (v := .int (S.1 0)) rfl dX4_countReleases_51 ?_
  obtain ⟨z0, z1⟩ := sm2 (sm h)
  exact ei F w hr hlocks rfl z0 (by rw [← z1]) dX4_countReleases_54
set_option maxRecDepth 100000 in
set_option maxHeartbeats 4000000 in
theorem t_X4_perform {G : cG} (g : GOK G) {a : Nat → Nat} {S : Mem} {ta : Nat → Nat} {C : Mem} {r : Int32} {S' : Mem} (h : f_X4_perform S C = some (r, S')) : CI G yX4_perform cX4_perform 5 .int 4 90 [.ref (a 0), .ref (ta 0)] (wSh G.2.1 a S ++ wTe G.2.1 ta C) (wSh G.2.1 a S' ++ wTe G.2.1 ta C) r := by
  unfold f_X4_perform at h
  refine CI.of g (by decide) rfl (Nat.le_of_ble_eq_true rfl) ?_
  intro p l e s m below meth c A ls F hr hlocks w hl
  generalize ([.ref (a 0), .ref (ta 0)] : List Value).toArray = args
  have hl : lv_has ls 5 [(0, .ref (a 0)), (1, .ref (ta 0))] := hl
  refine lv_aload_n F.x F.b dX4_perform_0 rfl (lv_at hl 1 rfl) ?_
  refine rgN F w cl1 14 rfl 1 (by decide) q202 rfl (v := .ref (ta 2)) rfl dX4_perform_1 ?_
  refine lv_iconst (v := 0) F.x F.b dX4_perform_4 (by decide) ?_
  obtain ⟨g1, h⟩ := gd h
  refine ri F w 16 (n := 3) (f := C.2 1) rfl g1 dX4_perform_5 ?_
  refine lv_istore_n (lv' := [(2, .int (C.2 1 (Int32.toNatClampNeg 0))), (0, .ref (a 0)), (1, .ref (ta 0))]) F.x F.b dX4_perform_6 rfl hl (by decide) rfl (fun ls hl => ?_)
  refine lv_aload_n F.x F.b dX4_perform_7 rfl (lv_at hl 2 rfl) ?_
  refine rgN F w cl1 14 rfl 1 (by decide) q202 rfl (v := .ref (ta 2)) rfl dX4_perform_8 ?_
  refine lv_iconst (v := 1) F.x F.b dX4_perform_11 (by decide) ?_
  obtain ⟨g2, h⟩ := gd h
  refine ri F w 16 (n := 3) (f := C.2 1) rfl g2 dX4_perform_12 ?_
  refine lv_istore_n (lv' := [(3, .int (C.2 1 (Int32.toNatClampNeg 1))), (2, .int (C.2 1 (Int32.toNatClampNeg 0))), (0, .ref (a 0)), (1, .ref (ta 0))]) F.x F.b dX4_perform_13 rfl hl (by decide) rfl (fun ls hl => ?_)
  refine lv_aload_n F.x F.b dX4_perform_14 rfl (lv_at hl 3 rfl) ?_
  refine rgN F w cl1 14 rfl 1 (by decide) q202 rfl (v := .ref (ta 2)) rfl dX4_perform_15 ?_
  refine lv_iconst (v := 2) F.x F.b dX4_perform_18 (by decide) ?_
  obtain ⟨g3, h⟩ := gd h
  refine ri F w 16 (n := 3) (f := C.2 1) rfl g3 dX4_perform_19 ?_
  refine lv_istore (lv' := [(4, .int (C.2 1 (Int32.toNatClampNeg 2))), (3, .int (C.2 1 (Int32.toNatClampNeg 1))), (2, .int (C.2 1 (Int32.toNatClampNeg 0))), (0, .ref (a 0)), (1, .ref (ta 0))]) F.x F.b dX4_perform_20 hl (by decide) rfl (fun ls hl => ?_)
  refine lv_aload_n F.x F.b dX4_perform_22 rfl (lv_at hl 4 rfl) ?_
  refine rgN F w cl1 14 rfl 4 (by decide) q208 rfl (v := .int (C.1 2)) rfl dX4_perform_23 ?_
  by_cases c4 : (C.1 2) = 0
  · have h := it c4 h
    rw [c4]
    refine lv_tableIn (tgt := 80) F.x F.b dX4_perform_26 (by decide) (by decide) rfl (by decide) ?_
    refine lv_aload_n F.x F.b dX4_perform_80 rfl (lv_at hl 3 rfl) ?_
    refine lv_aload_n F.x F.b dX4_perform_81 rfl (lv_at hl 4 rfl) ?_
    refine rgN F w cl1 14 rfl 5 (by decide) q210 rfl (v := .int (C.1 3)) rfl dX4_perform_82 ?_
    refine lv_iload_n F.x F.b dX4_perform_85 rfl (lv_at hl 2 rfl) ?_
    refine lv_iload_n F.x F.b dX4_perform_86 rfl (lv_at hl 1 rfl) ?_
    refine lv_iload F.x F.b dX4_perform_87 (lv_at hl 0 rfl) ?_
    obtain ⟨⟨r5, S_6⟩, hc7, h⟩ := bd h
    try dsimp only at h
    refine kVi F w (As := [.int (C.1 3), .int (C.2 1 (Int32.toNatClampNeg 0)), .int (C.2 1 (Int32.toNatClampNeg 1)), .int (C.2 1 (Int32.toNatClampNeg 2))]) (rest := []) (ws' := wSh G.2.1 a S_6 ++ wTe G.2.1 ta C) (wr := wTe G.2.1 ta C) (t_X4_takeIn F.1 hc7) m_X4_takeIn v_X4_takeIn q1117 (ci := 8) (q0 := 0) rfl rfl rfl [0, 1, 2, 3, 4, 5, 6, 7, 8, 9, 10, 11, 12, 13] [14, 15, 16] [3, 4, 5, 6, 7, 8, 9, 10, 11, 12, 13, 14, 15, 16, 0, 1, 2] rfl rfl rfl rfl (by decide) rfl rfl ⟨Nat.le_of_ble_eq_true rfl, Nat.le_of_ble_eq_true rfl⟩ rfl hl.1 rfl (Nat.le_of_ble_eq_true rfl) dX4_perform_89 ⟨Nat.le_of_ble_eq_true rfl, Nat.le_of_ble_eq_true rfl⟩ (fun H locs w => ?_)
    obtain ⟨z0, z1⟩ := sm2 (sm h)
    exact ei F w hr hlocks rfl z0 (by rw [← z1]) dX4_perform_92
  · have h := ie c4 h
    by_cases c8 : (C.1 2) = 1
    · have h := it c8 h
      rw [c8]
      refine lv_tableIn (tgt := 93) F.x F.b dX4_perform_26 (by decide) (by decide) rfl (by decide) ?_
      refine lv_aload_n F.x F.b dX4_perform_93 rfl (lv_at hl 3 rfl) ?_
      refine lv_iload_n F.x F.b dX4_perform_94 rfl (lv_at hl 2 rfl) ?_
      obtain ⟨⟨r9, S_10⟩, hc11, h⟩ := bd h
      try dsimp only at h
      refine kVi F w (As := [.int (C.2 1 (Int32.toNatClampNeg 0))]) (rest := []) (ws' := wSh G.2.1 a S_10 ++ wTe G.2.1 ta C) (wr := wTe G.2.1 ta C) (t_X4_sealLot F.1 hc11) m_X4_sealLot v_X4_sealLot q1118 (ci := 8) (q0 := 0) rfl rfl rfl [0, 1, 2, 3, 4, 5, 6, 7, 8, 9, 10, 11, 12, 13] [14, 15, 16] [3, 4, 5, 6, 7, 8, 9, 10, 11, 12, 13, 14, 15, 16, 0, 1, 2] rfl rfl rfl rfl (by decide) rfl rfl ⟨Nat.le_of_ble_eq_true rfl, Nat.le_of_ble_eq_true rfl⟩ rfl hl.1 rfl (Nat.le_of_ble_eq_true rfl) dX4_perform_95 ⟨Nat.le_of_ble_eq_true rfl, Nat.le_of_ble_eq_true rfl⟩ (fun H locs w => ?_)
      obtain ⟨z0, z1⟩ := sm2 (sm h)
      exact ei F w hr hlocks rfl z0 (by rw [← z1]) dX4_perform_98
    · have h := ie c8 h
      by_cases c12 : (C.1 2) = 2
      · have h := it c12 h
        rw [c12]
        refine lv_tableIn (tgt := 99) F.x F.b dX4_perform_26 (by decide) (by decide) rfl (by decide) ?_
        refine lv_aload_n F.x F.b dX4_perform_99 rfl (lv_at hl 3 rfl) ?_
        refine lv_iload_n F.x F.b dX4_perform_100 rfl (lv_at hl 2 rfl) ?_
        obtain ⟨⟨r13, S_14⟩, hc15, h⟩ := bd h
        try dsimp only at h
        refine kVi F w (As := [.int (C.2 1 (Int32.toNatClampNeg 0))]) (rest := []) (ws' := wSh G.2.1 a S_14 ++ wTe G.2.1 ta C) (wr := wTe G.2.1 ta C) (t_X4_openLot F.1 hc15) m_X4_openLot v_X4_openLot q1119 (ci := 8) (q0 := 0) rfl rfl rfl [0, 1, 2, 3, 4, 5, 6, 7, 8, 9, 10, 11, 12, 13] [14, 15, 16] [3, 4, 5, 6, 7, 8, 9, 10, 11, 12, 13, 14, 15, 16, 0, 1, 2] rfl rfl rfl rfl (by decide) rfl rfl ⟨Nat.le_of_ble_eq_true rfl, Nat.le_of_ble_eq_true rfl⟩ rfl hl.1 rfl (Nat.le_of_ble_eq_true rfl) dX4_perform_101 ⟨Nat.le_of_ble_eq_true rfl, Nat.le_of_ble_eq_true rfl⟩ (fun H locs w => ?_)
        obtain ⟨z0, z1⟩ := sm2 (sm h)
        exact ei F w hr hlocks rfl z0 (by rw [← z1]) dX4_perform_104
      · have h := ie c12 h
        by_cases c16 : (C.1 2) = 3
        · have h := it c16 h
          rw [c16]
          refine lv_tableIn (tgt := 105) F.x F.b dX4_perform_26 (by decide) (by decide) rfl (by decide) ?_
          refine lv_aload_n F.x F.b dX4_perform_105 rfl (lv_at hl 3 rfl) ?_
          refine lv_iload_n F.x F.b dX4_perform_106 rfl (lv_at hl 2 rfl) ?_
          obtain ⟨⟨r17, S_18⟩, hc19, h⟩ := bd h
          try dsimp only at h
          refine kVi F w (As := [.int (C.2 1 (Int32.toNatClampNeg 0))]) (rest := []) (ws' := wSh G.2.1 a S_18 ++ wTe G.2.1 ta C) (wr := wTe G.2.1 ta C) (t_X4_wetLot F.1 hc19) m_X4_wetLot v_X4_wetLot q1120 (ci := 8) (q0 := 0) rfl rfl rfl [0, 1, 2, 3, 4, 5, 6, 7, 8, 9, 10, 11, 12, 13] [14, 15, 16] [3, 4, 5, 6, 7, 8, 9, 10, 11, 12, 13, 14, 15, 16, 0, 1, 2] rfl rfl rfl rfl (by decide) rfl rfl ⟨Nat.le_of_ble_eq_true rfl, Nat.le_of_ble_eq_true rfl⟩ rfl hl.1 rfl (Nat.le_of_ble_eq_true rfl) dX4_perform_107 ⟨Nat.le_of_ble_eq_true rfl, Nat.le_of_ble_eq_true rfl⟩ (fun H locs w => ?_)
          obtain ⟨z0, z1⟩ := sm2 (sm h)
          exact ei F w hr hlocks rfl z0 (by rw [← z1]) dX4_perform_110
        · have h := ie c16 h
          by_cases c20 : (C.1 2) = 4
          · have h := it c20 h
            rw [c20]
            refine lv_tableIn (tgt := 111) F.x F.b dX4_perform_26 (by decide) (by decide) rfl (by decide) ?_
            refine lv_aload_n F.x F.b dX4_perform_111 rfl (lv_at hl 3 rfl) ?_
            refine lv_iload_n F.x F.b dX4_perform_112 rfl (lv_at hl 2 rfl) ?_
            obtain ⟨⟨r21, S_22⟩, hc23, h⟩ := bd h
            try dsimp only at h
            refine kVi F w (As := [.int (C.2 1 (Int32.toNatClampNeg 0))]) (rest := []) (ws' := wSh G.2.1 a S_22 ++ wTe G.2.1 ta C) (wr := wTe G.2.1 ta C) (t_X4_queueLot F.1 hc23) m_X4_queueLot v_X4_queueLot q1121 (ci := 8) (q0 := 0) rfl rfl rfl [0, 1, 2, 3, 4, 5, 6, 7, 8, 9, 10, 11, 12, 13] [14, 15, 16] [3, 4, 5, 6, 7, 8, 9, 10, 11, 12, 13, 14, 15, 16, 0, 1, 2] rfl rfl rfl rfl (by decide) rfl rfl ⟨Nat.le_of_ble_eq_true rfl, Nat.le_of_ble_eq_true rfl⟩ rfl hl.1 rfl (Nat.le_of_ble_eq_true rfl) dX4_perform_113 ⟨Nat.le_of_ble_eq_true rfl, Nat.le_of_ble_eq_true rfl⟩ (fun H locs w => ?_)
            obtain ⟨z0, z1⟩ := sm2 (sm h)
            exact ei F w hr hlocks rfl z0 (by rw [← z1]) dX4_perform_116
          · have h := ie c20 h
            by_cases c24 : (C.1 2) = 5
            · have h := it c24 h
              rw [c24]
              refine lv_tableIn (tgt := 117) F.x F.b dX4_perform_26 (by decide) (by decide) rfl (by decide) ?_
              refine lv_aload_n F.x F.b dX4_perform_117 rfl (lv_at hl 3 rfl) ?_
              refine lv_iload_n F.x F.b dX4_perform_118 rfl (lv_at hl 2 rfl) ?_
              obtain ⟨⟨r25, S_26⟩, hc27, h⟩ := bd h
              try dsimp only at h
              refine kVi F w (As := [.int (C.2 1 (Int32.toNatClampNeg 0))]) (rest := []) (ws' := wSh G.2.1 a S_26 ++ wTe G.2.1 ta C) (wr := wTe G.2.1 ta C) (t_X4_releaseLot F.1 hc27) m_X4_releaseLot v_X4_releaseLot q1133 (ci := 8) (q0 := 0) rfl rfl rfl [0, 1, 2, 3, 4, 5, 6, 7, 8, 9, 10, 11, 12, 13] [14, 15, 16] [3, 4, 5, 6, 7, 8, 9, 10, 11, 12, 13, 14, 15, 16, 0, 1, 2] rfl rfl rfl rfl (by decide) rfl rfl ⟨Nat.le_of_ble_eq_true rfl, Nat.le_of_ble_eq_true rfl⟩ rfl hl.1 rfl (Nat.le_of_ble_eq_true rfl) dX4_perform_119 ⟨Nat.le_of_ble_eq_true rfl, Nat.le_of_ble_eq_true rfl⟩ (fun H locs w => ?_)
              obtain ⟨z0, z1⟩ := sm2 (sm h)
              exact ei F w hr hlocks rfl z0 (by rw [← z1]) dX4_perform_122
            · have h := ie c24 h
              by_cases c28 : (C.1 2) = 6
              · have h := it c28 h
                rw [c28]
                refine lv_tableIn (tgt := 123) F.x F.b dX4_perform_26 (by decide) (by decide) rfl (by decide) ?_
                refine lv_aload_n F.x F.b dX4_perform_123 rfl (lv_at hl 3 rfl) ?_
                refine lv_iload_n F.x F.b dX4_perform_124 rfl (lv_at hl 2 rfl) ?_
                refine lv_iload_n F.x F.b dX4_perform_125 rfl (lv_at hl 1 rfl) ?_
                obtain ⟨⟨r29, S_30⟩, hc31, h⟩ := bd h
                try dsimp only at h
                refine kVi F w (As := [.int (C.2 1 (Int32.toNatClampNeg 0)), .int (C.2 1 (Int32.toNatClampNeg 1))]) (rest := []) (ws' := wSh G.2.1 a S_30 ++ wTe G.2.1 ta C) (wr := wTe G.2.1 ta C) (t_X4_moveLot F.1 hc31) m_X4_moveLot v_X4_moveLot q1137 (ci := 8) (q0 := 0) rfl rfl rfl [0, 1, 2, 3, 4, 5, 6, 7, 8, 9, 10, 11, 12, 13] [14, 15, 16] [3, 4, 5, 6, 7, 8, 9, 10, 11, 12, 13, 14, 15, 16, 0, 1, 2] rfl rfl rfl rfl (by decide) rfl rfl ⟨Nat.le_of_ble_eq_true rfl, Nat.le_of_ble_eq_true rfl⟩ rfl hl.1 rfl (Nat.le_of_ble_eq_true rfl) dX4_perform_126 ⟨Nat.le_of_ble_eq_true rfl, Nat.le_of_ble_eq_true rfl⟩ (fun H locs w => ?_)
                obtain ⟨z0, z1⟩ := sm2 (sm h)
                exact ei F w hr hlocks rfl z0 (by rw [← z1]) dX4_perform_129
              · have h := ie c28 h
                by_cases c32 : (C.1 2) = 7
                · have h := it c32 h
                  rw [c32]
                  refine lv_tableIn (tgt := 130) F.x F.b dX4_perform_26 (by decide) (by decide) rfl (by decide) ?_
                  refine lv_aload_n F.x F.b dX4_perform_130 rfl (lv_at hl 3 rfl) ?_
                  obtain ⟨⟨r33, S_34⟩, hc35, h⟩ := bd h
                  try dsimp only at h
                  refine kVi F w (As := []) (rest := []) (ws' := wSh G.2.1 a S_34 ++ wTe G.2.1 ta C) (wr := wTe G.2.1 ta C) (t_X4_auditFirst F.1 hc35) m_X4_auditFirst v_X4_auditFirst q1138 (ci := 8) (q0 := 0) rfl rfl rfl [0, 1, 2, 3, 4, 5, 6, 7, 8, 9, 10, 11, 12, 13] [14, 15, 16] [3, 4, 5, 6, 7, 8, 9, 10, 11, 12, 13, 14, 15, 16, 0, 1, 2] rfl rfl rfl rfl (by decide) rfl rfl ⟨Nat.le_of_ble_eq_true rfl, Nat.le_of_ble_eq_true rfl⟩ rfl hl.1 rfl (Nat.le_of_ble_eq_true rfl) dX4_perform_131 ⟨Nat.le_of_ble_eq_true rfl, Nat.le_of_ble_eq_true rfl⟩ (fun H locs w => ?_)
                  obtain ⟨z0, z1⟩ := sm2 (sm h)
                  exact ei F w hr hlocks rfl z0 (by rw [← z1]) dX4_perform_134
                · have h := ie c32 h
                  by_cases c36 : (C.1 2) = 8
                  · have h := it c36 h
                    rw [c36]
                    refine lv_tableIn (tgt := 135) F.x F.b dX4_perform_26 (by decide) (by decide) rfl (by decide) ?_
                    refine lv_aload_n F.x F.b dX4_perform_135 rfl (lv_at hl 3 rfl) ?_
                    refine rg F w cl4 0 rfl 1 (by decide) q148 rfl (v := .ref (a 9)) rfl dX4_perform_136 ?_
                    refine lv_iload_n F.x F.b dX4_perform_139 rfl (lv_at hl 2 rfl) ?_
                    refine lv_iload_n F.x F.b dX4_perform_140 rfl (lv_at hl 1 rfl) ?_
                    obtain ⟨⟨r37, S_38⟩, hc39, h⟩ := bd h
                    try dsimp only at h
                    refine kVi F w (As := [.int (C.2 1 (Int32.toNatClampNeg 0)), .int (C.2 1 (Int32.toNatClampNeg 1))]) (rest := []) (ws' := wSh G.2.1 a S_38 ++ wTe G.2.1 ta C) (wr := wTe G.2.1 ta C) (t_X5_insert F.1 hc39) m_X5_insert v_X5_insert q1139 (ci := 9) (q0 := 9) rfl rfl rfl [0, 1, 2, 3, 4, 5, 6, 7, 8, 9, 10, 11, 12, 13] [14, 15, 16] [3, 4, 5, 6, 7, 8, 9, 10, 11, 12, 13, 14, 15, 16, 0, 1, 2] rfl rfl rfl rfl (by decide) rfl rfl ⟨Nat.le_of_ble_eq_true rfl, Nat.le_of_ble_eq_true rfl⟩ rfl hl.1 rfl (Nat.le_of_ble_eq_true rfl) dX4_perform_141 ⟨Nat.le_of_ble_eq_true rfl, Nat.le_of_ble_eq_true rfl⟩ (fun H locs w => ?_)
                    obtain ⟨z0, z1⟩ := sm2 (sm h)
                    exact ei F w hr hlocks rfl z0 (by rw [← z1]) dX4_perform_144
                  · have h := ie c36 h
                    by_cases c40 : (C.1 2) = 9
                    · have h := it c40 h
                      rw [c40]
                      refine lv_tableIn (tgt := 145) F.x F.b dX4_perform_26 (by decide) (by decide) rfl (by decide) ?_
                      refine lv_aload_n F.x F.b dX4_perform_145 rfl (lv_at hl 3 rfl) ?_
                      refine lv_iload_n F.x F.b dX4_perform_146 rfl (lv_at hl 2 rfl) ?_
                      obtain ⟨⟨r41, S_42⟩, hc43, h⟩ := bd h
                      try dsimp only at h
                      refine kVi F w (As := [.int (C.2 1 (Int32.toNatClampNeg 0))]) (rest := []) (ws' := wSh G.2.1 a S_42 ++ wTe G.2.1 ta C) (wr := wTe G.2.1 ta C) (t_X4_takeCoins F.1 hc43) m_X4_takeCoins v_X4_takeCoins q1140 (ci := 8) (q0 := 0) rfl rfl rfl [0, 1, 2, 3, 4, 5, 6, 7, 8, 9, 10, 11, 12, 13] [14, 15, 16] [3, 4, 5, 6, 7, 8, 9, 10, 11, 12, 13, 14, 15, 16, 0, 1, 2] rfl rfl rfl rfl (by decide) rfl rfl ⟨Nat.le_of_ble_eq_true rfl, Nat.le_of_ble_eq_true rfl⟩ rfl hl.1 rfl (Nat.le_of_ble_eq_true rfl) dX4_perform_147 ⟨Nat.le_of_ble_eq_true rfl, Nat.le_of_ble_eq_true rfl⟩ (fun H locs w => ?_)
                      obtain ⟨z0, z1⟩ := sm2 (sm h)
                      exact ei F w hr hlocks rfl z0 (by rw [← z1]) dX4_perform_150
                    · have h := ie c40 h
                      refine lv_tableOut (tgt := 151) F.x F.b dX4_perform_26 (sw_out (0) (9) (by intro j h1 h2; rcases (show j = 0 ∨ j = 1 ∨ j = 2 ∨ j = 3 ∨ j = 4 ∨ j = 5 ∨ j = 6 ∨ j = 7 ∨ j = 8 ∨ j = 9 by omega) with rfl | rfl | rfl | rfl | rfl | rfl | rfl | rfl | rfl | rfl <;> first | exact sw_ne c4 (by decide) | exact sw_ne c8 (by decide) | exact sw_ne c12 (by decide) | exact sw_ne c16 (by decide) | exact sw_ne c20 (by decide) | exact sw_ne c24 (by decide) | exact sw_ne c28 (by decide) | exact sw_ne c32 (by decide) | exact sw_ne c36 (by decide) | exact sw_ne c40 (by decide))) (by decide) ?_
                      refine lv_aload_n F.x F.b dX4_perform_151 rfl (lv_at hl 3 rfl) ?_
                      obtain ⟨S_44, hc45, h⟩ := bd h
                      try dsimp only at h
                      refine kVv F w (As := []) (rest := []) (ws' := wSh G.2.1 a S_44 ++ wTe G.2.1 ta C) (wr := wTe G.2.1 ta C) (t_X4_letOneDayPass F.1 hc45) m_X4_letOneDayPass v_X4_letOneDayPass q566 (ci := 8) (q0 := 0) rfl rfl rfl [0, 1, 2, 3, 4, 5, 6, 7, 8, 9, 10, 11, 12, 13] [14, 15, 16] [3, 4, 5, 6, 7, 8, 9, 10, 11, 12, 13, 14, 15, 16, 0, 1, 2] rfl rfl rfl rfl (by decide) rfl rfl ⟨Nat.le_of_ble_eq_true rfl, Nat.le_of_ble_eq_true rfl⟩ rfl hl.1 rfl (Nat.le_of_ble_eq_true rfl) dX4_perform_152 ⟨Nat.le_of_ble_eq_true rfl, Nat.le_of_ble_eq_true rfl⟩ (fun H locs w => ?_)
                      refine lv_iconst (v := 0) F.x F.b dX4_perform_155 (by decide) ?_
                      obtain ⟨z0, z1⟩ := sm2 (sm h)
                      exact ei F w hr hlocks rfl z0 (by rw [← z1]) dX4_perform_156

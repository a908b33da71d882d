/-! printed by wip/whole/tools/emit.py: the walks -/
set_option maxRecDepth 100000 in
set_option maxHeartbeats 4000000 in
theorem t_X7_lot {G : cG} (g : GOK G) {mo : Nat → Nat} {M : Mem} {x1 : Int32} {r : Int32} {M' : Mem} (h : f_X7_lot M x1 = some (r, M')) : CI G yX7_lot cX7_lot 2 .int 1 22 [.ref (mo 0), .int x1] (wMo G.2.1 mo M) (wMo G.2.1 mo M') r := by
  unfold f_X7_lot at h
  refine CI.of g (by decide) rfl (Nat.le_of_ble_eq_true rfl) ?_
  intro p l e s m below meth c A ls F hr hlocks w hl
  generalize ([.ref (mo 0), .int x1] : List Value).toArray = args
  have hl : lv_has ls 2 [(0, .ref (mo 0)), (1, .int x1)] := hl
  refine lv_aload_n F.x F.b dX7_lot_0 rfl (lv_at hl 0 rfl) ?_
  refine lv_iload_n F.x F.b dX7_lot_1 rfl (lv_at hl 1 rfl) ?_
  refine lv_iconst (v := 0) F.x F.b dX7_lot_2 (by decide) ?_
  refine lv_aload_n F.x F.b dX7_lot_3 rfl (lv_at hl 0 rfl) ?_
  refine rg F w cl7 0 (at_Mo_0 _ _ _) 1 (by decide) q1548 rfl (v := .ref (mo 1)) rfl dX7_lot_4 ?_
  refine lv_iconst (v := 1) F.x F.b dX7_lot_7 (by decide) ?_
  obtain ⟨g1, h⟩ := gd h
  refine ri F w 1 (n := 148) (f := M.2 0) (at_Mo_1 _ _ _) g1 dX7_lot_8 ?_
  refine lv_iconst (v := 1) F.x F.b dX7_lot_9 (by decide) ?_
  refine lv_isub F.x F.b dX7_lot_10 ?_
  obtain ⟨r2, hc3, h⟩ := bd h
  try dsimp only at h
  refine kSi F w (t_X7_in F.1 hc3) m_X7_in v_X7_in q1633 (As := [.int x1, .int 0, .int ((M.2 0 (Int32.toNatClampNeg 1)) - 1)]) (rest := [.ref (mo 0)]) ⟨Nat.le_of_ble_eq_true rfl, Nat.le_of_ble_eq_true rfl⟩ rfl hl.1 rfl (Nat.le_of_ble_eq_true rfl) dX7_lot_11 ⟨Nat.le_of_ble_eq_true rfl, Nat.le_of_ble_eq_true rfl⟩ (fun H locs w => ?_)
  refine lv_if_eq (tgt := 21) F.x F.b dX7_lot_14 (by decide) (fun c4 => ?_) (fun c4 => ?_)
  · have h := it c4 h
    refine lv_iconst (v := 1) F.x F.b dX7_lot_21 (by decide) ?_
    refine rp F w (ws' := wMo G.2.1 mo (wrI M 0 1)) cl7 0 (at_Mo_0 _ _ _) 0 (by decide) q1547 rfl rfl rfl rfl (Nat.le_of_ble_eq_true rfl) (pt_Mo_0_0 _ _ _ _) dX7_lot_22 (fun H locs w => ?_)
    refine lv_aload_n F.x F.b dX7_lot_25 rfl (lv_at hl 0 rfl) ?_
    refine rg F w cl7 0 (at_Mo_0 _ _ _) 0 (by decide) q1547 rfl (v := .int 1) rfl dX7_lot_26 ?_
    refine lv_if_le (tgt := 36) F.x F.b dX7_lot_29 (by decide) (fun c9 => absurd c9 (by decide)) (fun _ => ?_)
    refine lv_iconst (v := 0) F.x F.b dX7_lot_32 (by decide) ?_
    refine lv_goto (tgt := 42) F.x F.b dX7_lot_33 (by decide) ?_
    obtain ⟨z0, z1⟩ := sm2 (sm h)
    exact ei F w hr hlocks rfl z0 (by rw [← z1]) dX7_lot_42
  · have h := ie c4 h
    refine lv_iconst (v := 0) F.x F.b dX7_lot_17 (by decide) ?_
    refine lv_goto (tgt := 22) F.x F.b dX7_lot_18 (by decide) ?_
    refine rp F w (ws' := wMo G.2.1 mo (wrI M 0 0)) cl7 0 (at_Mo_0 _ _ _) 0 (by decide) q1547 rfl rfl rfl rfl (Nat.le_of_ble_eq_true rfl) (pt_Mo_0_0 _ _ _ _) dX7_lot_22 (fun H locs w => ?_)
    refine lv_aload_n F.x F.b dX7_lot_25 rfl (lv_at hl 0 rfl) ?_
    refine rg F w cl7 0 (at_Mo_0 _ _ _) 0 (by decide) q1547 rfl (v := .int 0) rfl dX7_lot_26 ?_
    refine lv_if_le (tgt := 36) F.x F.b dX7_lot_29 (by decide) (fun _ => ?_) (fun c9 => absurd (by decide) c9)
    refine lv_aload_n F.x F.b dX7_lot_36 rfl (lv_at hl 0 rfl) ?_
    refine lv_iload_n F.x F.b dX7_lot_37 rfl (lv_at hl 1 rfl) ?_
    refine lv_iconst (v := 0) F.x F.b dX7_lot_38 (by decide) ?_
    obtain ⟨r5, hc6, h⟩ := bd h
    try dsimp only at h
    refine kVi0 F w (As := [.int x1, .int 0]) (rest := []) (w1 := wMo G.2.1 mo (wrI M 0 0)) (t_X7_of F.1 hc6) m_X7_of v_X7_of q1643 (ci := 11) (q0 := 0) rfl rfl rfl ⟨Nat.le_of_ble_eq_true rfl, Nat.le_of_ble_eq_true rfl⟩ rfl hl.1 rfl (Nat.le_of_ble_eq_true rfl) dX7_lot_39 ⟨Nat.le_of_ble_eq_true rfl, Nat.le_of_ble_eq_true rfl⟩ (fun H locs w => ?_)
    obtain ⟨z0, z1⟩ := sm2 (sm h)
    exact ei F w hr hlocks rfl z0 (by rw [← z1]) dX7_lot_42
set_option maxRecDepth 100000 in
set_option maxHeartbeats 4000000 in
theorem t_X7_asked {G : cG} (g : GOK G) {mo : Nat → Nat} {M : Mem} {x1 x2 : Int32} {r : Int32} {M' : Mem} (h : f_X7_asked M x1 x2 = some (r, M')) : CI G yX7_asked cX7_asked 4 .int 2 44 [.ref (mo 0), .int x1, .int x2] (wMo G.2.1 mo M) (wMo G.2.1 mo M') r := by
  unfold f_X7_asked at h
  refine CI.of g (by decide) rfl (Nat.le_of_ble_eq_true rfl) ?_
  intro p l e s m below meth c A ls F hr hlocks w hl
  generalize ([.ref (mo 0), .int x1, .int x2] : List Value).toArray = args
  have hl : lv_has ls 4 [(0, .ref (mo 0)), (1, .int x1), (2, .int x2)] := hl
  refine lv_aload_n F.x F.b dX7_asked_0 rfl (lv_at hl 0 rfl) ?_
  refine lv_iload_n F.x F.b dX7_asked_1 rfl (lv_at hl 1 rfl) ?_
  obtain ⟨r1, hc2, h⟩ := bd h
  try dsimp only at h
  refine kVi0 F w (As := [.int x1]) (rest := []) (w1 := wMo G.2.1 mo M) (t_X7_placeOf F.1 hc2) m_X7_placeOf v_X7_placeOf q1675 (ci := 11) (q0 := 0) rfl rfl rfl ⟨Nat.le_of_ble_eq_true rfl, Nat.le_of_ble_eq_true rfl⟩ rfl hl.1 rfl (Nat.le_of_ble_eq_true rfl) dX7_asked_2 ⟨Nat.le_of_ble_eq_true rfl, Nat.le_of_ble_eq_true rfl⟩ (fun H locs w => ?_)
  refine lv_istore_n (lv' := [(3, .int r1), (0, .ref (mo 0)), (1, .int x1), (2, .int x2)]) F.x F.b dX7_asked_5 rfl hl (by decide) rfl (fun ls hl => ?_)
  refine lv_aload_n F.x F.b dX7_asked_6 rfl (lv_at hl 1 rfl) ?_
  refine lv_iload_n F.x F.b dX7_asked_7 rfl (lv_at hl 0 rfl) ?_
  refine lv_iconst (v := (-1)) F.x F.b dX7_asked_8 (by decide) ?_
  refine lv_icmp_ne (tgt := 16) F.x F.b dX7_asked_9 (by decide) (fun c3 => ?_) (fun c3 => ?_)
  · have h := ie c3 h
    refine lv_iconst (v := 0) F.x F.b dX7_asked_16 (by decide) ?_
    refine rp F w (ws' := wMo G.2.1 mo (wrI M 0 0)) cl7 0 (at_Mo_0 _ _ _) 0 (by decide) q1547 rfl rfl rfl rfl (Nat.le_of_ble_eq_true rfl) (pt_Mo_0_0 _ _ _ _) dX7_asked_17 (fun H locs w => ?_)
    refine lv_aload_n F.x F.b dX7_asked_20 rfl (lv_at hl 1 rfl) ?_
    refine rg F w cl7 0 (at_Mo_0 _ _ _) 0 (by decide) q1547 rfl (v := .int 0) rfl dX7_asked_21 ?_
    refine lv_if_le (tgt := 31) F.x F.b dX7_asked_24 (by decide) (fun _ => ?_) (fun c9 => absurd (by decide) c9)
    refine lv_aload_n F.x F.b dX7_asked_31 rfl (lv_at hl 1 rfl) ?_
    refine lv_iload_n F.x F.b dX7_asked_32 rfl (lv_at hl 0 rfl) ?_
    refine lv_iload_n F.x F.b dX7_asked_33 rfl (lv_at hl 3 rfl) ?_
    obtain ⟨r4, hc5, h⟩ := bd h
    try dsimp only at h
    refine kVi0 F w (As := [.int r1, .int x2]) (rest := []) (w1 := wMo G.2.1 mo (wrI M 0 0)) (t_X7_of F.1 hc5) m_X7_of v_X7_of q1643 (ci := 11) (q0 := 0) rfl rfl rfl ⟨Nat.le_of_ble_eq_true rfl, Nat.le_of_ble_eq_true rfl⟩ rfl hl.1 rfl (Nat.le_of_ble_eq_true rfl) dX7_asked_34 ⟨Nat.le_of_ble_eq_true rfl, Nat.le_of_ble_eq_true rfl⟩ (fun H locs w => ?_)
    obtain ⟨z0, z1⟩ := sm2 (sm h)
    exact ei F w hr hlocks rfl z0 (by rw [← z1]) dX7_asked_37
  · have h := it c3 h
    refine lv_iconst (v := 1) F.x F.b dX7_asked_12 (by decide) ?_
    refine lv_goto (tgt := 17) F.x F.b dX7_asked_13 (by decide) ?_
    refine rp F w (ws' := wMo G.2.1 mo (wrI M 0 1)) cl7 0 (at_Mo_0 _ _ _) 0 (by decide) q1547 rfl rfl rfl rfl (Nat.le_of_ble_eq_true rfl) (pt_Mo_0_0 _ _ _ _) dX7_asked_17 (fun H locs w => ?_)
    refine lv_aload_n F.x F.b dX7_asked_20 rfl (lv_at hl 1 rfl) ?_
    refine rg F w cl7 0 (at_Mo_0 _ _ _) 0 (by decide) q1547 rfl (v := .int 1) rfl dX7_asked_21 ?_
    refine lv_if_le (tgt := 31) F.x F.b dX7_asked_24 (by decide) (fun c9 => absurd c9 (by decide)) (fun _ => ?_)
    refine lv_iconst (v := 0) F.x F.b dX7_asked_27 (by decide) ?_
    refine lv_goto (tgt := 37) F.x F.b dX7_asked_28 (by decide) ?_
    obtain ⟨z0, z1⟩ := sm2 (sm h)
    exact ei F w hr hlocks rfl z0 (by rw [← z1]) dX7_asked_37
set_option maxRecDepth 100000 in
set_option maxHeartbeats 4000000 in
theorem t_X7_kind {G : cG} (g : GOK G) {mo : Nat → Nat} {M : Mem} {x1 : Int32} {r : Int32} {M' : Mem} (h : f_X7_kind M x1 = some (r, M')) : CI G yX7_kind cX7_kind 2 .char 3 67 [.ref (mo 0), .int x1] (wMo G.2.1 mo M) (wMo G.2.1 mo M') r := by
  unfold f_X7_kind at h
  refine CI.of g (by decide) rfl (Nat.le_of_ble_eq_true rfl) ?_
  intro p l e s m below meth c A ls F hr hlocks w hl
  generalize ([.ref (mo 0), .int x1] : List Value).toArray = args
  have hl : lv_has ls 2 [(0, .ref (mo 0)), (1, .int x1)] := hl
  refine lv_aload_n F.x F.b dX7_kind_0 rfl (lv_at hl 0 rfl) ?_
  refine lv_iload_n F.x F.b dX7_kind_1 rfl (lv_at hl 1 rfl) ?_
  refine lv_iconst (v := 1) F.x F.b dX7_kind_2 (by decide) ?_
  obtain ⟨⟨r1, M_2⟩, hc3, h⟩ := bd h
  try dsimp only at h
  refine kVi0 F w (As := [.int x1, .int 1]) (rest := []) (w1 := wMo G.2.1 mo M_2) (t_X7_asked F.1 hc3) m_X7_asked v_X7_asked q1719 (ci := 11) (q0 := 0) rfl rfl rfl ⟨Nat.le_of_ble_eq_true rfl, Nat.le_of_ble_eq_true rfl⟩ rfl hl.1 rfl (Nat.le_of_ble_eq_true rfl) dX7_kind_3 ⟨Nat.le_of_ble_eq_true rfl, Nat.le_of_ble_eq_true rfl⟩ (fun H locs w => ?_)
  refine lv_i2c F.x F.b dX7_kind_6 rfl ?_
  obtain ⟨z0, z1⟩ := sm2 (sm h)
  exact ei F w hr hlocks (pk_nc _) z0 (by rw [← z1]) dX7_kind_7
set_option maxRecDepth 100000 in
set_option maxHeartbeats 4000000 in
theorem t_X7_quantity {G : cG} (g : GOK G) {mo : Nat → Nat} {M : Mem} {x1 : Int32} {r : Int32} {M' : Mem} (h : f_X7_quantity M x1 = some (r, M')) : CI G yX7_quantity cX7_quantity 2 .int 3 67 [.ref (mo 0), .int x1] (wMo G.2.1 mo M) (wMo G.2.1 mo M') r := by
  unfold f_X7_quantity at h
  refine CI.of g (by decide) rfl (Nat.le_of_ble_eq_true rfl) ?_
  intro p l e s m below meth c A ls F hr hlocks w hl
  generalize ([.ref (mo 0), .int x1] : List Value).toArray = args
  have hl : lv_has ls 2 [(0, .ref (mo 0)), (1, .int x1)] := hl
  refine lv_aload_n F.x F.b dX7_quantity_0 rfl (lv_at hl 0 rfl) ?_
  refine lv_iload_n F.x F.b dX7_quantity_1 rfl (lv_at hl 1 rfl) ?_
  refine lv_iconst (v := 2) F.x F.b dX7_quantity_2 (by decide) ?_
  obtain ⟨⟨r1, M_2⟩, hc3, h⟩ := bd h
  try dsimp only at h
  refine kVi0 F w (As := [.int x1, .int 2]) (rest := []) (w1 := wMo G.2.1 mo M_2) (t_X7_asked F.1 hc3) m_X7_asked v_X7_asked q1719 (ci := 11) (q0 := 0) rfl rfl rfl ⟨Nat.le_of_ble_eq_true rfl, Nat.le_of_ble_eq_true rfl⟩ rfl hl.1 rfl (Nat.le_of_ble_eq_true rfl) dX7_quantity_3 ⟨Nat.le_of_ble_eq_true rfl, Nat.le_of_ble_eq_true rfl⟩ (fun H locs w => ?_)
  obtain ⟨z0, z1⟩ := sm2 (sm h)
  exact ei F w hr hlocks rfl z0 (by rw [← z1]) dX7_quantity_6
set_option maxRecDepth 100000 in
set_option maxHeartbeats 4000000 in
theorem t_X7_price {G : cG} (g : GOK G) {mo : Nat → Nat} {M : Mem} {x1 : Int32} {r : Int32} {M' : Mem} (h : f_X7_price M x1 = some (r, M')) : CI G yX7_price cX7_price 2 .int 3 67 [.ref (mo 0), .int x1] (wMo G.2.1 mo M) (wMo G.2.1 mo M') r := by
  unfold f_X7_price at h
  refine CI.of g (by decide) rfl (Nat.le_of_ble_eq_true rfl) ?_
  intro p l e s m below meth c A ls F hr hlocks w hl
  generalize ([.ref (mo 0), .int x1] : List Value).toArray = args
  have hl : lv_has ls 2 [(0, .ref (mo 0)), (1, .int x1)] := hl
  refine lv_aload_n F.x F.b dX7_price_0 rfl (lv_at hl 0 rfl) ?_
  refine lv_iload_n F.x F.b dX7_price_1 rfl (lv_at hl 1 rfl) ?_
  refine lv_iconst (v := 3) F.x F.b dX7_price_2 (by decide) ?_
  obtain ⟨⟨r1, M_2⟩, hc3, h⟩ := bd h
  try dsimp only at h
  refine kVi0 F w (As := [.int x1, .int 3]) (rest := []) (w1 := wMo G.2.1 mo M_2) (t_X7_asked F.1 hc3) m_X7_asked v_X7_asked q1719 (ci := 11) (q0 := 0) rfl rfl rfl ⟨Nat.le_of_ble_eq_true rfl, Nat.le_of_ble_eq_true rfl⟩ rfl hl.1 rfl (Nat.le_of_ble_eq_true rfl) dX7_price_3 ⟨Nat.le_of_ble_eq_true rfl, Nat.le_of_ble_eq_true rfl⟩ (fun H locs w => ?_)
  obtain ⟨z0, z1⟩ := sm2 (sm h)
  exact ei F w hr hlocks rfl z0 (by rw [← z1]) dX7_price_6
set_option maxRecDepth 100000 in
set_option maxHeartbeats 4000000 in
theorem t_X7_value {G : cG} (g : GOK G) {mo : Nat → Nat} {M : Mem} {x1 : Int32} {r : Int32} {M' : Mem} (h : f_X7_value M x1 = some (r, M')) : CI G yX7_value cX7_value 2 .int 3 67 [.ref (mo 0), .int x1] (wMo G.2.1 mo M) (wMo G.2.1 mo M') r := by
  unfold f_X7_value at h
  refine CI.of g (by decide) rfl (Nat.le_of_ble_eq_true rfl) ?_
  intro p l e s m below meth c A ls F hr hlocks w hl
  generalize ([.ref (mo 0), .int x1] : List Value).toArray = args
  have hl : lv_has ls 2 [(0, .ref (mo 0)), (1, .int x1)] := hl
  refine lv_aload_n F.x F.b dX7_value_0 rfl (lv_at hl 0 rfl) ?_
  refine lv_iload_n F.x F.b dX7_value_1 rfl (lv_at hl 1 rfl) ?_
  refine lv_iconst (v := 2) F.x F.b dX7_value_2 (by decide) ?_
  obtain ⟨⟨r1, M_2⟩, hc3, h⟩ := bd h
  try dsimp only at h
  refine kVi0 F w (As := [.int x1, .int 2]) (rest := []) (w1 := wMo G.2.1 mo M_2) (t_X7_asked F.1 hc3) m_X7_asked v_X7_asked q1719 (ci := 11) (q0 := 0) rfl rfl rfl ⟨Nat.le_of_ble_eq_true rfl, Nat.le_of_ble_eq_true rfl⟩ rfl hl.1 rfl (Nat.le_of_ble_eq_true rfl) dX7_value_3 ⟨Nat.le_of_ble_eq_true rfl, Nat.le_of_ble_eq_true rfl⟩ (fun H locs w => ?_)
  refine lv_aload_n F.x F.b dX7_value_6 rfl (lv_at hl 0 rfl) ?_
  refine lv_iload_n F.x F.b dX7_value_7 rfl (lv_at hl 1 rfl) ?_
  refine lv_iconst (v := 3) F.x F.b dX7_value_8 (by decide) ?_
  obtain ⟨⟨r4, M_5⟩, hc6, h⟩ := bd h
  try dsimp only at h
  refine kVi0 F w (As := [.int x1, .int 3]) (rest := [.int r1]) (w1 := wMo G.2.1 mo M_5) (t_X7_asked F.1 hc6) m_X7_asked v_X7_asked q1719 (ci := 11) (q0 := 0) rfl rfl rfl ⟨Nat.le_of_ble_eq_true rfl, Nat.le_of_ble_eq_true rfl⟩ rfl hl.1 rfl (Nat.le_of_ble_eq_true rfl) dX7_value_9 ⟨Nat.le_of_ble_eq_true rfl, Nat.le_of_ble_eq_true rfl⟩ (fun H locs w => ?_)
  refine lv_imul F.x F.b dX7_value_12 ?_
  obtain ⟨z0, z1⟩ := sm2 (sm h)
  exact ei F w hr hlocks rfl z0 (by rw [← z1]) dX7_value_13
set_option maxRecDepth 100000 in
set_option maxHeartbeats 4000000 in
theorem t_X7_bay {G : cG} (g : GOK G) {mo : Nat → Nat} {M : Mem} {x1 : Int32} {r : Int32} {M' : Mem} (h : f_X7_bay M x1 = some (r, M')) : CI G yX7_bay cX7_bay 2 .int 3 67 [.ref (mo 0), .int x1] (wMo G.2.1 mo M) (wMo G.2.1 mo M') r := by
  unfold f_X7_bay at h
  refine CI.of g (by decide) rfl (Nat.le_of_ble_eq_true rfl) ?_
  intro p l e s m below meth c A ls F hr hlocks w hl
  generalize ([.ref (mo 0), .int x1] : List Value).toArray = args
  have hl : lv_has ls 2 [(0, .ref (mo 0)), (1, .int x1)] := hl
  refine lv_aload_n F.x F.b dX7_bay_0 rfl (lv_at hl 0 rfl) ?_
  refine lv_iload_n F.x F.b dX7_bay_1 rfl (lv_at hl 1 rfl) ?_
  refine lv_iconst (v := 4) F.x F.b dX7_bay_2 (by decide) ?_
  obtain ⟨⟨r1, M_2⟩, hc3, h⟩ := bd h
  try dsimp only at h
  refine kVi0 F w (As := [.int x1, .int 4]) (rest := []) (w1 := wMo G.2.1 mo M_2) (t_X7_asked F.1 hc3) m_X7_asked v_X7_asked q1719 (ci := 11) (q0 := 0) rfl rfl rfl ⟨Nat.le_of_ble_eq_true rfl, Nat.le_of_ble_eq_true rfl⟩ rfl hl.1 rfl (Nat.le_of_ble_eq_true rfl) dX7_bay_3 ⟨Nat.le_of_ble_eq_true rfl, Nat.le_of_ble_eq_true rfl⟩ (fun H locs w => ?_)
  obtain ⟨z0, z1⟩ := sm2 (sm h)
  exact ei F w hr hlocks rfl z0 (by rw [← z1]) dX7_bay_6
set_option maxRecDepth 100000 in
set_option maxHeartbeats 4000000 in
theorem t_X7_isSealed {G : cG} (g : GOK G) {mo : Nat → Nat} {M : Mem} {x1 : Int32} {r : Int32} {M' : Mem} (h : f_X7_isSealed M x1 = some (r, M')) : CI G yX7_isSealed cX7_isSealed 2 .boolean 3 67 [.ref (mo 0), .int x1] (wMo G.2.1 mo M) (wMo G.2.1 mo M') r := by
  unfold f_X7_isSealed at h
  refine CI.of g (by decide) rfl (Nat.le_of_ble_eq_true rfl) ?_
  intro p l e s m below meth c A ls F hr hlocks w hl
  generalize ([.ref (mo 0), .int x1] : List Value).toArray = args
  have hl : lv_has ls 2 [(0, .ref (mo 0)), (1, .int x1)] := hl
  refine lv_aload_n F.x F.b dX7_isSealed_0 rfl (lv_at hl 0 rfl) ?_
  refine lv_iload_n F.x F.b dX7_isSealed_1 rfl (lv_at hl 1 rfl) ?_
  refine lv_iconst (v := 5) F.x F.b dX7_isSealed_2 (by decide) ?_
  obtain ⟨⟨r1, M_2⟩, hc3, h⟩ := bd h
  try dsimp only at h
  refine kVi0 F w (As := [.int x1, .int 5]) (rest := []) (w1 := wMo G.2.1 mo M_2) (t_X7_asked F.1 hc3) m_X7_asked v_X7_asked q1719 (ci := 11) (q0 := 0) rfl rfl rfl ⟨Nat.le_of_ble_eq_true rfl, Nat.le_of_ble_eq_true rfl⟩ rfl hl.1 rfl (Nat.le_of_ble_eq_true rfl) dX7_isSealed_3 ⟨Nat.le_of_ble_eq_true rfl, Nat.le_of_ble_eq_true rfl⟩ (fun H locs w => ?_)
  refine lv_iconst (v := 1) F.x F.b dX7_isSealed_6 (by decide) ?_
  refine lv_icmp_ne (tgt := 14) F.x F.b dX7_isSealed_7 (by decide) (fun c4 => ?_) (fun c4 => ?_)
  · have h := ie c4 h
    refine lv_iconst (v := 0) F.x F.b dX7_isSealed_14 (by decide) ?_
    obtain ⟨z0, z1⟩ := sm2 (sm h)
    exact ei F w hr hlocks rfl z0 (by rw [← z1]) dX7_isSealed_15
  · have h := it c4 h
    refine lv_iconst (v := 1) F.x F.b dX7_isSealed_10 (by decide) ?_
    refine lv_goto (tgt := 15) F.x F.b dX7_isSealed_11 (by decide) ?_
    obtain ⟨z0, z1⟩ := sm2 (sm h)
    exact ei F w hr hlocks rfl z0 (by rw [← z1]) dX7_isSealed_15
set_option maxRecDepth 100000 in
set_option maxHeartbeats 4000000 in
theorem t_X7_isDamp {G : cG} (g : GOK G) {mo : Nat → Nat} {M : Mem} {x1 : Int32} {r : Int32} {M' : Mem} (h : f_X7_isDamp M x1 = some (r, M')) : CI G yX7_isDamp cX7_isDamp 2 .boolean 3 67 [.ref (mo 0), .int x1] (wMo G.2.1 mo M) (wMo G.2.1 mo M') r := by
  unfold f_X7_isDamp at h
  refine CI.of g (by decide) rfl (Nat.le_of_ble_eq_true rfl) ?_
  intro p l e s m below meth c A ls F hr hlocks w hl
  generalize ([.ref (mo 0), .int x1] : List Value).toArray = args
  have hl : lv_has ls 2 [(0, .ref (mo 0)), (1, .int x1)] := hl
  refine lv_aload_n F.x F.b dX7_isDamp_0 rfl (lv_at hl 0 rfl) ?_
  refine lv_iload_n F.x F.b dX7_isDamp_1 rfl (lv_at hl 1 rfl) ?_
  refine lv_bipush (v := 6) F.x F.b dX7_isDamp_2 (by decide) ?_
  obtain ⟨⟨r1, M_2⟩, hc3, h⟩ := bd h
  try dsimp only at h
  refine kVi0 F w (As := [.int x1, .int 6]) (rest := []) (w1 := wMo G.2.1 mo M_2) (t_X7_asked F.1 hc3) m_X7_asked v_X7_asked q1719 (ci := 11) (q0 := 0) rfl rfl rfl ⟨Nat.le_of_ble_eq_true rfl, Nat.le_of_ble_eq_true rfl⟩ rfl hl.1 rfl (Nat.le_of_ble_eq_true rfl) dX7_isDamp_4 ⟨Nat.le_of_ble_eq_true rfl, Nat.le_of_ble_eq_true rfl⟩ (fun H locs w => ?_)
  refine lv_iconst (v := 1) F.x F.b dX7_isDamp_7 (by decide) ?_
  refine lv_icmp_ne (tgt := 15) F.x F.b dX7_isDamp_8 (by decide) (fun c4 => ?_) (fun c4 => ?_)
  · have h := ie c4 h
    refine lv_iconst (v := 0) F.x F.b dX7_isDamp_15 (by decide) ?_
    obtain ⟨z0, z1⟩ := sm2 (sm h)
    exact ei F w hr hlocks rfl z0 (by rw [← z1]) dX7_isDamp_16
  · have h := it c4 h
    refine lv_iconst (v := 1) F.x F.b dX7_isDamp_11 (by decide) ?_
    refine lv_goto (tgt := 16) F.x F.b dX7_isDamp_12 (by decide) ?_
    obtain ⟨z0, z1⟩ := sm2 (sm h)
    exact ei F w hr hlocks rfl z0 (by rw [← z1]) dX7_isDamp_16
set_option maxRecDepth 100000 in
set_option maxHeartbeats 4000000 in
theorem t_X7_lotAt {G : cG} (g : GOK G) {mo : Nat → Nat} {M : Mem} {x1 : Int32} {r : Int32} {M' : Mem} (h : f_X7_lotAt M x1 = some (r, M')) : CI G yX7_lotAt cX7_lotAt 2 .int 2 44 [.ref (mo 0), .int x1] (wMo G.2.1 mo M) (wMo G.2.1 mo M') r := by
  unfold f_X7_lotAt at h
  refine CI.of g (by decide) rfl (Nat.le_of_ble_eq_true rfl) ?_
  intro p l e s m below meth c A ls F hr hlocks w hl
  generalize ([.ref (mo 0), .int x1] : List Value).toArray = args
  have hl : lv_has ls 2 [(0, .ref (mo 0)), (1, .int x1)] := hl
  refine lv_aload_n F.x F.b dX7_lotAt_0 rfl (lv_at hl 0 rfl) ?_
  refine lv_iload_n F.x F.b dX7_lotAt_1 rfl (lv_at hl 1 rfl) ?_
  obtain ⟨r1, hc2, h⟩ := bd h
  try dsimp only at h
  refine kSi F w (t_X7_isBay F.1 hc2) m_X7_isBay v_X7_isBay q1630 (As := [.int x1]) (rest := [.ref (mo 0)]) ⟨Nat.le_of_ble_eq_true rfl, Nat.le_of_ble_eq_true rfl⟩ rfl hl.1 rfl (Nat.le_of_ble_eq_true rfl) dX7_lotAt_2 ⟨Nat.le_of_ble_eq_true rfl, Nat.le_of_ble_eq_true rfl⟩ (fun H locs w => ?_)
  refine lv_if_ne (tgt := 12) F.x F.b dX7_lotAt_5 (by decide) (fun c3 => ?_) (fun c3 => ?_)
  · have h := ie c3 h
    refine lv_aload_n F.x F.b dX7_lotAt_12 rfl (lv_at hl 0 rfl) ?_
    refine lv_iload_n F.x F.b dX7_lotAt_13 rfl (lv_at hl 1 rfl) ?_
    obtain ⟨r4, hc5, h⟩ := bd h
    try dsimp only at h
    refine kVi0 F w (As := [.int x1]) (rest := [.ref (mo 0)]) (w1 := wMo G.2.1 mo M) (t_X7_inside F.1 hc5) m_X7_inside v_X7_inside q1639 (ci := 11) (q0 := 0) rfl rfl rfl ⟨Nat.le_of_ble_eq_true rfl, Nat.le_of_ble_eq_true rfl⟩ rfl hl.1 rfl (Nat.le_of_ble_eq_true rfl) dX7_lotAt_14 ⟨Nat.le_of_ble_eq_true rfl, Nat.le_of_ble_eq_true rfl⟩ (fun H locs w => ?_)
    refine lv_iconst (v := (-1)) F.x F.b dX7_lotAt_17 (by decide) ?_
    refine lv_icmp_ne (tgt := 25) F.x F.b dX7_lotAt_18 (by decide) (fun c6 => ?_) (fun c6 => ?_)
    · have h := ie c6 h
      refine lv_iconst (v := 0) F.x F.b dX7_lotAt_25 (by decide) ?_
      refine rp F w (ws' := wMo G.2.1 mo (wrI M 0 0)) cl7 0 (at_Mo_0 _ _ _) 0 (by decide) q1547 rfl rfl rfl rfl (Nat.le_of_ble_eq_true rfl) (pt_Mo_0_0 _ _ _ _) dX7_lotAt_26 (fun H locs w => ?_)
      refine lv_aload_n F.x F.b dX7_lotAt_29 rfl (lv_at hl 0 rfl) ?_
      refine rg F w cl7 0 (at_Mo_0 _ _ _) 0 (by decide) q1547 rfl (v := .int 0) rfl dX7_lotAt_30 ?_
      refine lv_if_le (tgt := 40) F.x F.b dX7_lotAt_33 (by decide) (fun _ => ?_) (fun c9 => absurd (by decide) c9)
      refine lv_aload_n F.x F.b dX7_lotAt_40 rfl (lv_at hl 0 rfl) ?_
      refine lv_aload_n F.x F.b dX7_lotAt_41 rfl (lv_at hl 0 rfl) ?_
      refine lv_iload_n F.x F.b dX7_lotAt_42 rfl (lv_at hl 1 rfl) ?_
      obtain ⟨r7, hc8, h⟩ := bd h
      try dsimp only at h
      refine kVi0 F w (As := [.int x1]) (rest := [.ref (mo 0)]) (w1 := wMo G.2.1 mo (wrI M 0 0)) (t_X7_inside F.1 hc8) m_X7_inside v_X7_inside q1639 (ci := 11) (q0 := 0) rfl rfl rfl ⟨Nat.le_of_ble_eq_true rfl, Nat.le_of_ble_eq_true rfl⟩ rfl hl.1 rfl (Nat.le_of_ble_eq_true rfl) dX7_lotAt_43 ⟨Nat.le_of_ble_eq_true rfl, Nat.le_of_ble_eq_true rfl⟩ (fun H locs w => ?_)
      refine lv_iconst (v := 0) F.x F.b dX7_lotAt_46 (by decide) ?_
      obtain ⟨r9, hc10, h⟩ := bd h
      try dsimp only at h
      refine kVi0 F w (As := [.int r7, .int 0]) (rest := []) (w1 := wMo G.2.1 mo (wrI M 0 0)) (t_X7_of F.1 hc10) m_X7_of v_X7_of q1643 (ci := 11) (q0 := 0) rfl rfl rfl ⟨Nat.le_of_ble_eq_true rfl, Nat.le_of_ble_eq_true rfl⟩ rfl hl.1 rfl (Nat.le_of_ble_eq_true rfl) dX7_lotAt_47 ⟨Nat.le_of_ble_eq_true rfl, Nat.le_of_ble_eq_true rfl⟩ (fun H locs w => ?_)
      obtain ⟨z0, z1⟩ := sm2 (sm h)
      exact ei F w hr hlocks rfl z0 (by rw [← z1]) dX7_lotAt_50
    · have h := it c6 h
      refine lv_iconst (v := 2) F.x F.b dX7_lotAt_21 (by decide) ?_
      refine lv_goto (tgt := 26) F.x F.b dX7_lotAt_22 (by decide) ?_
      refine rp F w (ws' := wMo G.2.1 mo (wrI M 0 2)) cl7 0 (at_Mo_0 _ _ _) 0 (by decide) q1547 rfl rfl rfl rfl (Nat.le_of_ble_eq_true rfl) (pt_Mo_0_0 _ _ _ _) dX7_lotAt_26 (fun H locs w => ?_)
      refine lv_aload_n F.x F.b dX7_lotAt_29 rfl (lv_at hl 0 rfl) ?_
      refine rg F w cl7 0 (at_Mo_0 _ _ _) 0 (by decide) q1547 rfl (v := .int 2) rfl dX7_lotAt_30 ?_
      refine lv_if_le (tgt := 40) F.x F.b dX7_lotAt_33 (by decide) (fun c9 => absurd c9 (by decide)) (fun _ => ?_)
      refine lv_iconst (v := 0) F.x F.b dX7_lotAt_36 (by decide) ?_
      refine lv_goto (tgt := 50) F.x F.b dX7_lotAt_37 (by decide) ?_
      obtain ⟨z0, z1⟩ := sm2 (sm h)
      exact ei F w hr hlocks rfl z0 (by rw [← z1]) dX7_lotAt_50
  · have h := it c3 h
    refine lv_iconst (v := 1) F.x F.b dX7_lotAt_8 (by decide) ?_
    refine lv_goto (tgt := 26) F.x F.b dX7_lotAt_9 (by decide) ?_
    refine rp F w (ws' := wMo G.2.1 mo (wrI M 0 1)) cl7 0 (at_Mo_0 _ _ _) 0 (by decide) q1547 rfl rfl rfl rfl (Nat.le_of_ble_eq_true rfl) (pt_Mo_0_0 _ _ _ _) dX7_lotAt_26 (fun H locs w => ?_)
    refine lv_aload_n F.x F.b dX7_lotAt_29 rfl (lv_at hl 0 rfl) ?_
    refine rg F w cl7 0 (at_Mo_0 _ _ _) 0 (by decide) q1547 rfl (v := .int 1) rfl dX7_lotAt_30 ?_
    refine lv_if_le (tgt := 40) F.x F.b dX7_lotAt_33 (by decide) (fun c9 => absurd c9 (by decide)) (fun _ => ?_)
    refine lv_iconst (v := 0) F.x F.b dX7_lotAt_36 (by decide) ?_
    refine lv_goto (tgt := 50) F.x F.b dX7_lotAt_37 (by decide) ?_
    obtain ⟨z0, z1⟩ := sm2 (sm h)
    exact ei F w hr hlocks rfl z0 (by rw [← z1]) dX7_lotAt_50
set_option maxRecDepth 100000 in
set_option maxHeartbeats 4000000 in
theorem t_X7_nextEmptyBay {G : cG} (g : GOK G) {mo : Nat → Nat} {M : Mem} {x1 : Int32} {r : Int32} {M' : Mem} (h : f_X7_nextEmptyBay M x1 = some (r, M')) : CI G yX7_nextEmptyBay cX7_nextEmptyBay 3 .int 2 44 [.ref (mo 0), .int x1] (wMo G.2.1 mo M) (wMo G.2.1 mo M') r := by
  unfold f_X7_nextEmptyBay at h
  refine CI.of g (by decide) rfl (Nat.le_of_ble_eq_true rfl) ?_
  intro p l e s m below meth c A ls F hr hlocks w hl
  generalize ([.ref (mo 0), .int x1] : List Value).toArray = args
  have hl : lv_has ls 3 [(0, .ref (mo 0)), (1, .int x1)] := hl
  have L27 : ∀ (M : Mem) {k : Option (Int32 × Mem)} (n : Nat) (x2 : Int32) (H : Heap) (locs : List Loc) (ls : Array Slot), Wd G A s.heap (wMo G.2.1 mo M) H locs → lv_has ls 3 [(0, .ref (mo 0)), (2, .int x2)] → f_X7_nextEmptyBay_L27 M k n x2 = some (r, M') → (∀ (H : Heap) (locs : List Loc) (ls : Array Slot), Wd G A s.heap (wMo G.2.1 mo M) H locs → lv_has ls 3 [(0, .ref (mo 0))] → k = some (r, M') → W p l e { frames := 2, cells := 0, slots := 0, locals := 44 } s m args below meth c H locs 0 0 (QI G A (wMo G.2.1 mo M') r below args s) (F0 m 50 ls [])) → W p l e { frames := 2, cells := 0, slots := 0, locals := 44 } s m args below meth c H locs 0 0 (QI G A (wMo G.2.1 mo M') r below args s) (F0 m 27 ls []) := by
    clear h w hl
    intro M k n
    induction n with
    | zero =>
      intro x2 H locs ls w hl h hk
      exact nomatch (show (none : Option (Int32 × Mem)) = some (r, M') from h)
    | succ n ih =>
      intro x2 H locs ls w hl h hk
      rw [f_X7_nextEmptyBay_L27] at h
      refine lv_iload_n F.x F.b dX7_nextEmptyBay_27 rfl (lv_at hl 1 rfl) ?_
      refine lv_bipush (v := 24) F.x F.b dX7_nextEmptyBay_28 (by decide) ?_
      refine lv_icmp_ge (tgt := 50) F.x F.b dX7_nextEmptyBay_30 (by decide) (fun c4 => ?_) (fun c4 => ?_)
      · have h := it c4 h
        exact hk _ _ _ w (lv_sub hl [0] rfl) h
      · have h := ie c4 h
        refine lv_aload_n F.x F.b dX7_nextEmptyBay_33 rfl (lv_at hl 0 rfl) ?_
        refine lv_iload_n F.x F.b dX7_nextEmptyBay_34 rfl (lv_at hl 1 rfl) ?_
        obtain ⟨r5, hc6, h⟩ := bd h
        try dsimp only at h
        refine kVi0 F w (As := [.int x2]) (rest := []) (w1 := wMo G.2.1 mo M) (t_X7_inside F.1 hc6) m_X7_inside v_X7_inside q1639 (ci := 11) (q0 := 0) rfl rfl rfl ⟨Nat.le_of_ble_eq_true rfl, Nat.le_of_ble_eq_true rfl⟩ rfl hl.1 rfl (Nat.le_of_ble_eq_true rfl) dX7_nextEmptyBay_35 ⟨Nat.le_of_ble_eq_true rfl, Nat.le_of_ble_eq_true rfl⟩ (fun H locs w => ?_)
        refine lv_iconst (v := (-1)) F.x F.b dX7_nextEmptyBay_38 (by decide) ?_
        refine lv_icmp_ne (tgt := 44) F.x F.b dX7_nextEmptyBay_39 (by decide) (fun c7 => ?_) (fun c7 => ?_)
        · have h := ie c7 h
          refine lv_iinc (v := (x2 + 1)) (lv' := [(2, .int (x2 + 1)), (0, .ref (mo 0))]) F.x F.b dX7_nextEmptyBay_44 hl (k := 1) rfl rfl (by decide) rfl (fun ls hl => ?_)
          refine lv_goto (tgt := 27) F.x F.b dX7_nextEmptyBay_47 (by decide) ?_
          exact ih (x2 + 1) _ _ _ w (lv_sub hl [1, 0] rfl) h hk
        · have h := it c7 h
          refine lv_iload_n F.x F.b dX7_nextEmptyBay_42 rfl (lv_at hl 1 rfl) ?_
          obtain ⟨z0, z1⟩ := sm2 (sm h)
          exact ei F w hr hlocks rfl z0 (by rw [← z1]) dX7_nextEmptyBay_43
  refine lv_aload_n F.x F.b dX7_nextEmptyBay_0 rfl (lv_at hl 0 rfl) ?_
  refine lv_iload_n F.x F.b dX7_nextEmptyBay_1 rfl (lv_at hl 1 rfl) ?_
  obtain ⟨r1, hc2, h⟩ := bd h
  try dsimp only at h
  refine kSi F w (t_X7_isBay F.1 hc2) m_X7_isBay v_X7_isBay q1630 (As := [.int x1]) (rest := [.ref (mo 0)]) ⟨Nat.le_of_ble_eq_true rfl, Nat.le_of_ble_eq_true rfl⟩ rfl hl.1 rfl (Nat.le_of_ble_eq_true rfl) dX7_nextEmptyBay_2 ⟨Nat.le_of_ble_eq_true rfl, Nat.le_of_ble_eq_true rfl⟩ (fun H locs w => ?_)
  refine lv_if_eq (tgt := 12) F.x F.b dX7_nextEmptyBay_5 (by decide) (fun c3 => ?_) (fun c3 => ?_)
  · have h := it c3 h
    refine lv_iconst (v := 1) F.x F.b dX7_nextEmptyBay_12 (by decide) ?_
    refine rp F w (ws' := wMo G.2.1 mo (wrI M 0 1)) cl7 0 (at_Mo_0 _ _ _) 0 (by decide) q1547 rfl rfl rfl rfl (Nat.le_of_ble_eq_true rfl) (pt_Mo_0_0 _ _ _ _) dX7_nextEmptyBay_13 (fun H locs w => ?_)
    refine lv_aload_n F.x F.b dX7_nextEmptyBay_16 rfl (lv_at hl 0 rfl) ?_
    refine rg F w cl7 0 (at_Mo_0 _ _ _) 0 (by decide) q1547 rfl (v := .int 1) rfl dX7_nextEmptyBay_17 ?_
    refine lv_if_le (tgt := 25) F.x F.b dX7_nextEmptyBay_20 (by decide) (fun c9 => absurd c9 (by decide)) (fun _ => ?_)
    refine lv_iconst (v := 0) F.x F.b dX7_nextEmptyBay_23 (by decide) ?_
    obtain ⟨z0, z1⟩ := sm2 (sm h)
    exact ei F w hr hlocks rfl z0 (by rw [← z1]) dX7_nextEmptyBay_24
  · have h := ie c3 h
    refine lv_iconst (v := 0) F.x F.b dX7_nextEmptyBay_8 (by decide) ?_
    refine lv_goto (tgt := 13) F.x F.b dX7_nextEmptyBay_9 (by decide) ?_
    refine rp F w (ws' := wMo G.2.1 mo (wrI M 0 0)) cl7 0 (at_Mo_0 _ _ _) 0 (by decide) q1547 rfl rfl rfl rfl (Nat.le_of_ble_eq_true rfl) (pt_Mo_0_0 _ _ _ _) dX7_nextEmptyBay_13 (fun H locs w => ?_)
    refine lv_aload_n F.x F.b dX7_nextEmptyBay_16 rfl (lv_at hl 0 rfl) ?_
    refine rg F w cl7 0 (at_Mo_0 _ _ _) 0 (by decide) q1547 rfl (v := .int 0) rfl dX7_nextEmptyBay_17 ?_
    refine lv_if_le (tgt := 25) F.x F.b dX7_nextEmptyBay_20 (by decide) (fun _ => ?_) (fun c9 => absurd (by decide) c9)
    refine lv_iload_n F.x F.b dX7_nextEmptyBay_25 rfl (lv_at hl 1 rfl) ?_
    refine lv_istore_n (lv' := [(2, .int x1), (0, .ref (mo 0)), (1, .int x1)]) F.x F.b dX7_nextEmptyBay_26 rfl hl (by decide) rfl (fun ls hl => ?_)
    refine L27 (wrI M 0 0) _ x1 _ _ _ w (lv_sub hl [1, 0] rfl) h ?_
    intro  H locs ls w hl h
    try dsimp only at h
    refine lv_aload_n F.x F.b dX7_nextEmptyBay_50 rfl (lv_at hl 0 rfl) ?_
    refine lv_iconst (v := 2) F.x F.b dX7_nextEmptyBay_51 (by decide) ?_
    obtain ⟨⟨r9, M_10⟩, hc11, h⟩ := bd h
    try dsimp only at h
    refine kVi0 F w (As := [.int 2]) (rest := []) (w1 := wMo G.2.1 mo M_10) (t_X7_fails F.1 hc11) m_X7_fails v_X7_fails q1663 (ci := 11) (q0 := 0) rfl rfl rfl ⟨Nat.le_of_ble_eq_true rfl, Nat.le_of_ble_eq_true rfl⟩ rfl hl.1 rfl (Nat.le_of_ble_eq_true rfl) dX7_nextEmptyBay_52 ⟨Nat.le_of_ble_eq_true rfl, Nat.le_of_ble_eq_true rfl⟩ (fun H locs w => ?_)
    obtain ⟨z0, z1⟩ := sm2 (sm h)
    exact ei F w hr hlocks rfl z0 (by rw [← z1]) dX7_nextEmptyBay_55
set_option maxRecDepth 100000 in
set_option maxHeartbeats 4000000 in
theorem t_X7_quantityOfKind {G : cG} (g : GOK G) {mo : Nat → Nat} {M : Mem} {x1 : Int32} {r : Int32} {M' : Mem} (h : f_X7_quantityOfKind M x1 = some (r, M')) : CI G yX7_quantityOfKind cX7_quantityOfKind 4 .int 2 42 [.ref (mo 0), .int x1] (wMo G.2.1 mo M) (wMo G.2.1 mo M') r := by
  unfold f_X7_quantityOfKind at h
  refine CI.of g (by decide) rfl (Nat.le_of_ble_eq_true rfl) ?_
  intro p l e s m below meth c A ls F hr hlocks w hl
  generalize ([.ref (mo 0), .int x1] : List Value).toArray = args
  have hl : lv_has ls 4 [(0, .ref (mo 0)), (1, .int x1)] := hl
  have L20 : ∀ (x1 : Int32) (M : Mem) {k : Int32 → Option (Int32 × Mem)} (n : Nat) (x2 : Int32) (x3 : Int32) (H : Heap) (locs : List Loc) (ls : Array Slot), Wd G A s.heap (wMo G.2.1 mo M) H locs → lv_has ls 4 [(0, .ref (mo 0)), (1, .int x1), (2, .int x2), (3, .int x3)] → f_X7_quantityOfKind_L20 x1 M k n x2 x3 = some (r, M') → (∀ (x2 : Int32) (H : Heap) (locs : List Loc) (ls : Array Slot), Wd G A s.heap (wMo G.2.1 mo M) H locs → lv_has ls 4 [(2, .int x2)] → k x2 = some (r, M') → W p l e { frames := 2, cells := 0, slots := 0, locals := 42 } s m args below meth c H locs 0 0 (QI G A (wMo G.2.1 mo M') r below args s) (F0 m 66 ls [])) → W p l e { frames := 2, cells := 0, slots := 0, locals := 42 } s m args below meth c H locs 0 0 (QI G A (wMo G.2.1 mo M') r below args s) (F0 m 20 ls []) := by
    clear h w hl
    intro x1 M k n
    induction n with
    | zero =>
      intro x2 x3 H locs ls w hl h hk
      exact nomatch (show (none : Option (Int32 × Mem)) = some (r, M') from h)
    | succ n ih =>
      intro x2 x3 H locs ls w hl h hk
      rw [f_X7_quantityOfKind_L20] at h
      refine lv_iload_n F.x F.b dX7_quantityOfKind_20 rfl (lv_at hl 3 rfl) ?_
      refine lv_aload_n F.x F.b dX7_quantityOfKind_21 rfl (lv_at hl 0 rfl) ?_
      refine rg F w cl7 0 (at_Mo_0 _ _ _) 1 (by decide) q1548 rfl (v := .ref (mo 1)) rfl dX7_quantityOfKind_22 ?_
      refine lv_iconst (v := 1) F.x F.b dX7_quantityOfKind_25 (by decide) ?_
      obtain ⟨g4, h⟩ := gd h
      refine ri F w 1 (n := 148) (f := M.2 0) (at_Mo_1 _ _ _) g4 dX7_quantityOfKind_26 ?_
      refine lv_icmp_ge (tgt := 66) F.x F.b dX7_quantityOfKind_27 (by decide) (fun c5 => ?_) (fun c5 => ?_)
      · have h := it c5 h
        exact hk x2 _ _ _ w (lv_sub hl [2] rfl) h
      · have h := ie c5 h
        refine lv_aload_n F.x F.b dX7_quantityOfKind_30 rfl (lv_at hl 0 rfl) ?_
        refine rg F w cl7 0 (at_Mo_0 _ _ _) 0 (by decide) q1547 rfl (v := .int (M.1 0)) rfl dX7_quantityOfKind_31 ?_
        refine lv_if_ne (tgt := 66) F.x F.b dX7_quantityOfKind_34 (by decide) (fun c6 => ?_) (fun c6 => ?_)
        · have h := ie c6 h
          exact hk x2 _ _ _ w (lv_sub hl [2] rfl) h
        · have h := it c6 h
          refine lv_iload_n F.x F.b dX7_quantityOfKind_37 rfl (lv_at hl 2 rfl) ?_
          refine lv_aload_n F.x F.b dX7_quantityOfKind_38 rfl (lv_at hl 0 rfl) ?_
          refine lv_iload_n F.x F.b dX7_quantityOfKind_39 rfl (lv_at hl 3 rfl) ?_
          refine lv_iconst (v := 1) F.x F.b dX7_quantityOfKind_40 (by decide) ?_
          obtain ⟨r7, hc8, h⟩ := bd h
          try dsimp only at h
          refine kVi0 F w (As := [.int x3, .int 1]) (rest := [.int x2]) (w1 := wMo G.2.1 mo M) (t_X7_of F.1 hc8) m_X7_of v_X7_of q1643 (ci := 11) (q0 := 0) rfl rfl rfl ⟨Nat.le_of_ble_eq_true rfl, Nat.le_of_ble_eq_true rfl⟩ rfl hl.1 rfl (Nat.le_of_ble_eq_true rfl) dX7_quantityOfKind_41 ⟨Nat.le_of_ble_eq_true rfl, Nat.le_of_ble_eq_true rfl⟩ (fun H locs w => ?_)
          refine lv_iload_n F.x F.b dX7_quantityOfKind_44 rfl (lv_at hl 1 rfl) ?_
          refine lv_icmp_ne (tgt := 57) F.x F.b dX7_quantityOfKind_45 (by decide) (fun c9 => ?_) (fun c9 => ?_)
          · have h := ie c9 h
            refine lv_iconst (v := 0) F.x F.b dX7_quantityOfKind_57 (by decide) ?_
            refine lv_iadd F.x F.b dX7_quantityOfKind_58 ?_
            refine lv_istore_n (lv' := [(2, .int (x2 + 0)), (0, .ref (mo 0)), (1, .int x1), (3, .int x3)]) F.x F.b dX7_quantityOfKind_59 rfl hl (by decide) rfl (fun ls hl => ?_)
            refine lv_iinc (v := (x3 + 1)) (lv' := [(3, .int (x3 + 1)), (2, .int (x2 + 0)), (0, .ref (mo 0)), (1, .int x1)]) F.x F.b dX7_quantityOfKind_60 hl (k := 3) rfl rfl (by decide) rfl (fun ls hl => ?_)
            refine lv_goto (tgt := 20) F.x F.b dX7_quantityOfKind_63 (by decide) ?_
            exact ih (x2 + 0) (x3 + 1) _ _ _ w (lv_sub hl [2, 3, 1, 0] rfl) h hk
          · have h := it c9 h
            refine lv_aload_n F.x F.b dX7_quantityOfKind_48 rfl (lv_at hl 0 rfl) ?_
            refine lv_iload_n F.x F.b dX7_quantityOfKind_49 rfl (lv_at hl 3 rfl) ?_
            refine lv_iconst (v := 2) F.x F.b dX7_quantityOfKind_50 (by decide) ?_
            obtain ⟨r10, hc11, h⟩ := bd h
            try dsimp only at h
            refine kVi0 F w (As := [.int x3, .int 2]) (rest := [.int x2]) (w1 := wMo G.2.1 mo M) (t_X7_of F.1 hc11) m_X7_of v_X7_of q1643 (ci := 11) (q0 := 0) rfl rfl rfl ⟨Nat.le_of_ble_eq_true rfl, Nat.le_of_ble_eq_true rfl⟩ rfl hl.1 rfl (Nat.le_of_ble_eq_true rfl) dX7_quantityOfKind_51 ⟨Nat.le_of_ble_eq_true rfl, Nat.le_of_ble_eq_true rfl⟩ (fun H locs w => ?_)
            refine lv_goto (tgt := 58) F.x F.b dX7_quantityOfKind_54 (by decide) ?_
            refine lv_iadd F.x F.b dX7_quantityOfKind_58 ?_
            refine lv_istore_n (lv' := [(2, .int (x2 + r10)), (0, .ref (mo 0)), (1, .int x1), (3, .int x3)]) F.x F.b dX7_quantityOfKind_59 rfl hl (by decide) rfl (fun ls hl => ?_)
            refine lv_iinc (v := (x3 + 1)) (lv' := [(3, .int (x3 + 1)), (2, .int (x2 + r10)), (0, .ref (mo 0)), (1, .int x1)]) F.x F.b dX7_quantityOfKind_60 hl (k := 3) rfl rfl (by decide) rfl (fun ls hl => ?_)
            refine lv_goto (tgt := 20) F.x F.b dX7_quantityOfKind_63 (by decide) ?_
            exact ih (x2 + r10) (x3 + 1) _ _ _ w (lv_sub hl [2, 3, 1, 0] rfl) h hk
  refine lv_aload_n F.x F.b dX7_quantityOfKind_0 rfl (lv_at hl 0 rfl) ?_
  refine lv_iload_n F.x F.b dX7_quantityOfKind_1 rfl (lv_at hl 1 rfl) ?_
  obtain ⟨r1, hc2, h⟩ := bd h
  try dsimp only at h
  refine kSi F w (t_X7_isKind F.1 hc2) m_X7_isKind v_X7_isKind q1636 (As := [.int x1]) (rest := [.ref (mo 0)]) ⟨Nat.le_of_ble_eq_true rfl, Nat.le_of_ble_eq_true rfl⟩ rfl hl.1 rfl (Nat.le_of_ble_eq_true rfl) dX7_quantityOfKind_2 ⟨Nat.le_of_ble_eq_true rfl, Nat.le_of_ble_eq_true rfl⟩ (fun H locs w => ?_)
  refine lv_if_eq (tgt := 12) F.x F.b dX7_quantityOfKind_5 (by decide) (fun c3 => ?_) (fun c3 => ?_)
  · have h := it c3 h
    refine lv_iconst (v := 1) F.x F.b dX7_quantityOfKind_12 (by decide) ?_
    refine rp F w (ws' := wMo G.2.1 mo (wrI M 0 1)) cl7 0 (at_Mo_0 _ _ _) 0 (by decide) q1547 rfl rfl rfl rfl (Nat.le_of_ble_eq_true rfl) (pt_Mo_0_0 _ _ _ _) dX7_quantityOfKind_13 (fun H locs w => ?_)
    refine lv_iconst (v := 0) F.x F.b dX7_quantityOfKind_16 (by decide) ?_
    refine lv_istore_n (lv' := [(2, .int 0), (0, .ref (mo 0)), (1, .int x1)]) F.x F.b dX7_quantityOfKind_17 rfl hl (by decide) rfl (fun ls hl => ?_)
    refine lv_iconst (v := 0) F.x F.b dX7_quantityOfKind_18 (by decide) ?_
    refine lv_istore_n (lv' := [(3, .int 0), (2, .int 0), (0, .ref (mo 0)), (1, .int x1)]) F.x F.b dX7_quantityOfKind_19 rfl hl (by decide) rfl (fun ls hl => ?_)
    refine L20 x1 (wrI M 0 1) _ 0 0 _ _ _ w (lv_sub hl [2, 3, 1, 0] rfl) h ?_
    intro y12_2 H locs ls w hl h
    try dsimp only at h
    refine lv_iload_n F.x F.b dX7_quantityOfKind_66 rfl (lv_at hl 0 rfl) ?_
    obtain ⟨z0, z1⟩ := sm2 (sm h)
    exact ei F w hr hlocks rfl z0 (by rw [← z1]) dX7_quantityOfKind_67
  · have h := ie c3 h
    refine lv_iconst (v := 0) F.x F.b dX7_quantityOfKind_8 (by decide) ?_
    refine lv_goto (tgt := 13) F.x F.b dX7_quantityOfKind_9 (by decide) ?_
    refine rp F w (ws' := wMo G.2.1 mo (wrI M 0 0)) cl7 0 (at_Mo_0 _ _ _) 0 (by decide) q1547 rfl rfl rfl rfl (Nat.le_of_ble_eq_true rfl) (pt_Mo_0_0 _ _ _ _) dX7_quantityOfKind_13 (fun H locs w => ?_)
    refine lv_iconst (v := 0) F.x F.b dX7_quantityOfKind_16 (by decide) ?_
    refine lv_istore_n (lv' := [(2, .int 0), (0, .ref (mo 0)), (1, .int x1)]) F.x F.b dX7_quantityOfKind_17 rfl hl (by decide) rfl (fun ls hl => ?_)
    refine lv_iconst (v := 0) F.x F.b dX7_quantityOfKind_18 (by decide) ?_
    refine lv_istore_n (lv' := [(3, .int 0), (2, .int 0), (0, .ref (mo 0)), (1, .int x1)]) F.x F.b dX7_quantityOfKind_19 rfl hl (by decide) rfl (fun ls hl => ?_)
    refine L20 x1 (wrI M 0 0) _ 0 0 _ _ _ w (lv_sub hl [2, 3, 1, 0] rfl) h ?_
    intro y13_2 H locs ls w hl h
    try dsimp only at h
    refine lv_iload_n F.x F.b dX7_quantityOfKind_66 rfl (lv_at hl 0 rfl) ?_
    obtain ⟨z0, z1⟩ := sm2 (sm h)
    exact ei F w hr hlocks rfl z0 (by rw [← z1]) dX7_quantityOfKind_67
set_option maxRecDepth 100000 in
set_option maxHeartbeats 4000000 in
theorem t_X7_lotByValue {G : cG} (g : GOK G) {mo : Nat → Nat} {M : Mem} {x1 : Int32} {r : Int32} {M' : Mem} (h : f_X7_lotByValue M x1 = some (r, M')) : CI G yX7_lotByValue cX7_lotByValue 5 .int 2 43 [.ref (mo 0), .int x1] (wMo G.2.1 mo M) (wMo G.2.1 mo M') r := by
  unfold f_X7_lotByValue at h
  refine CI.of g (by decide) rfl (Nat.le_of_ble_eq_true rfl) ?_
  intro p l e s m below meth c A ls F hr hlocks w hl
  generalize ([.ref (mo 0), .int x1] : List Value).toArray = args
  have hl : lv_has ls 5 [(0, .ref (mo 0)), (1, .int x1)] := hl
  have L22 : ∀ (x1 : Int32) (x2 : Int32) (M : Mem) {k : Int32 → Option (Int32 × Mem)} (n : Nat) (x3 : Int32) (x4 : Int32) (H : Heap) (locs : List Loc) (ls : Array Slot), Wd G A s.heap (wMo G.2.1 mo M) H locs → lv_has ls 5 [(0, .ref (mo 0)), (1, .int x1), (2, .int x2), (3, .int x3), (4, .int x4)] → f_X7_lotByValue_L22 x1 x2 M k n x3 x4 = some (r, M') → (∀ (x3 : Int32) (H : Heap) (locs : List Loc) (ls : Array Slot), Wd G A s.heap (wMo G.2.1 mo M) H locs → lv_has ls 5 [(0, .ref (mo 0)), (1, .int x1), (2, .int x2), (3, .int x3)] → k x3 = some (r, M') → W p l e { frames := 2, cells := 0, slots := 0, locals := 43 } s m args below meth c H locs 0 0 (QI G A (wMo G.2.1 mo M') r below args s) (F0 m 81 ls [])) → W p l e { frames := 2, cells := 0, slots := 0, locals := 43 } s m args below meth c H locs 0 0 (QI G A (wMo G.2.1 mo M') r below args s) (F0 m 22 ls []) := by
    clear h w hl
    intro x1 x2 M k n
    induction n with
    | zero =>
      intro x3 x4 H locs ls w hl h hk
      exact nomatch (show (none : Option (Int32 × Mem)) = some (r, M') from h)
    | succ n ih =>
      intro x3 x4 H locs ls w hl h hk
      rw [f_X7_lotByValue_L22] at h
      refine lv_iload F.x F.b dX7_lotByValue_22 (lv_at hl 4 rfl) ?_
      refine lv_aload_n F.x F.b dX7_lotByValue_24 rfl (lv_at hl 0 rfl) ?_
      refine rg F w cl7 0 (at_Mo_0 _ _ _) 1 (by decide) q1548 rfl (v := .ref (mo 1)) rfl dX7_lotByValue_25 ?_
      refine lv_iconst (v := 1) F.x F.b dX7_lotByValue_28 (by decide) ?_
      obtain ⟨g3, h⟩ := gd h
      refine ri F w 1 (n := 148) (f := M.2 0) (at_Mo_1 _ _ _) g3 dX7_lotByValue_29 ?_
      refine lv_icmp_ge (tgt := 81) F.x F.b dX7_lotByValue_30 (by decide) (fun c4 => ?_) (fun c4 => ?_)
      · have h := it c4 h
        exact hk x3 _ _ _ w (lv_sub hl [0, 1, 2, 3] rfl) h
      · have h := ie c4 h
        refine lv_iload_n F.x F.b dX7_lotByValue_33 rfl (lv_at hl 3 rfl) ?_
        refine lv_aload_n F.x F.b dX7_lotByValue_34 rfl (lv_at hl 0 rfl) ?_
        refine lv_iload F.x F.b dX7_lotByValue_35 (lv_at hl 4 rfl) ?_
        obtain ⟨r5, hc6, h⟩ := bd h
        try dsimp only at h
        refine kVi0 F w (As := [.int x4]) (rest := [.int x3]) (w1 := wMo G.2.1 mo M) (t_X7_worth F.1 hc6) m_X7_worth v_X7_worth q1763 (ci := 11) (q0 := 0) rfl rfl rfl ⟨Nat.le_of_ble_eq_true rfl, Nat.le_of_ble_eq_true rfl⟩ rfl hl.1 rfl (Nat.le_of_ble_eq_true rfl) dX7_lotByValue_37 ⟨Nat.le_of_ble_eq_true rfl, Nat.le_of_ble_eq_true rfl⟩ (fun H locs w => ?_)
        refine lv_aload_n F.x F.b dX7_lotByValue_40 rfl (lv_at hl 0 rfl) ?_
        refine lv_iload_n F.x F.b dX7_lotByValue_41 rfl (lv_at hl 2 rfl) ?_
        obtain ⟨r7, hc8, h⟩ := bd h
        try dsimp only at h
        refine kVi0 F w (As := [.int x2]) (rest := [.int r5, .int x3]) (w1 := wMo G.2.1 mo M) (t_X7_worth F.1 hc8) m_X7_worth v_X7_worth q1763 (ci := 11) (q0 := 0) rfl rfl rfl ⟨Nat.le_of_ble_eq_true rfl, Nat.le_of_ble_eq_true rfl⟩ rfl hl.1 rfl (Nat.le_of_ble_eq_true rfl) dX7_lotByValue_42 ⟨Nat.le_of_ble_eq_true rfl, Nat.le_of_ble_eq_true rfl⟩ (fun H locs w => ?_)
        refine lv_icmp_gt (tgt := 68) F.x F.b dX7_lotByValue_45 (by decide) (fun c9 => ?_) (fun c9 => ?_)
        · have h := it c9 h
          refine lv_iconst (v := 1) F.x F.b dX7_lotByValue_68 (by decide) ?_
          refine lv_goto (tgt := 73) F.x F.b dX7_lotByValue_69 (by decide) ?_
          refine lv_iadd F.x F.b dX7_lotByValue_73 ?_
          refine lv_istore_n (lv' := [(3, .int (x3 + 1)), (0, .ref (mo 0)), (1, .int x1), (2, .int x2), (4, .int x4)]) F.x F.b dX7_lotByValue_74 rfl hl (by decide) rfl (fun ls hl => ?_)
          refine lv_iinc (v := (x4 + 1)) (lv' := [(4, .int (x4 + 1)), (3, .int (x3 + 1)), (0, .ref (mo 0)), (1, .int x1), (2, .int x2)]) F.x F.b dX7_lotByValue_75 hl (k := 4) rfl rfl (by decide) rfl (fun ls hl => ?_)
          refine lv_goto (tgt := 22) F.x F.b dX7_lotByValue_78 (by decide) ?_
          exact ih (x3 + 1) (x4 + 1) _ _ _ w (lv_sub hl [2, 3, 4, 1, 0] rfl) h hk
        · have h := ie c9 h
          refine lv_aload_n F.x F.b dX7_lotByValue_48 rfl (lv_at hl 0 rfl) ?_
          refine lv_iload F.x F.b dX7_lotByValue_49 (lv_at hl 4 rfl) ?_
          obtain ⟨r10, hc11, h⟩ := bd h
          try dsimp only at h
          refine kVi0 F w (As := [.int x4]) (rest := [.int x3]) (w1 := wMo G.2.1 mo M) (t_X7_worth F.1 hc11) m_X7_worth v_X7_worth q1763 (ci := 11) (q0 := 0) rfl rfl rfl ⟨Nat.le_of_ble_eq_true rfl, Nat.le_of_ble_eq_true rfl⟩ rfl hl.1 rfl (Nat.le_of_ble_eq_true rfl) dX7_lotByValue_51 ⟨Nat.le_of_ble_eq_true rfl, Nat.le_of_ble_eq_true rfl⟩ (fun H locs w => ?_)
          refine lv_aload_n F.x F.b dX7_lotByValue_54 rfl (lv_at hl 0 rfl) ?_
          refine lv_iload_n F.x F.b dX7_lotByValue_55 rfl (lv_at hl 2 rfl) ?_
          obtain ⟨r12, hc13, h⟩ := bd h
          try dsimp only at h
          refine kVi0 F w (As := [.int x2]) (rest := [.int r10, .int x3]) (w1 := wMo G.2.1 mo M) (t_X7_worth F.1 hc13) m_X7_worth v_X7_worth q1763 (ci := 11) (q0 := 0) rfl rfl rfl ⟨Nat.le_of_ble_eq_true rfl, Nat.le_of_ble_eq_true rfl⟩ rfl hl.1 rfl (Nat.le_of_ble_eq_true rfl) dX7_lotByValue_56 ⟨Nat.le_of_ble_eq_true rfl, Nat.le_of_ble_eq_true rfl⟩ (fun H locs w => ?_)
          refine lv_icmp_ne (tgt := 72) F.x F.b dX7_lotByValue_59 (by decide) (fun c14 => ?_) (fun c14 => ?_)
          · have h := ie c14 h
            refine lv_iconst (v := 0) F.x F.b dX7_lotByValue_72 (by decide) ?_
            refine lv_iadd F.x F.b dX7_lotByValue_73 ?_
            refine lv_istore_n (lv' := [(3, .int (x3 + 0)), (0, .ref (mo 0)), (1, .int x1), (2, .int x2), (4, .int x4)]) F.x F.b dX7_lotByValue_74 rfl hl (by decide) rfl (fun ls hl => ?_)
            refine lv_iinc (v := (x4 + 1)) (lv' := [(4, .int (x4 + 1)), (3, .int (x3 + 0)), (0, .ref (mo 0)), (1, .int x1), (2, .int x2)]) F.x F.b dX7_lotByValue_75 hl (k := 4) rfl rfl (by decide) rfl (fun ls hl => ?_)
            refine lv_goto (tgt := 22) F.x F.b dX7_lotByValue_78 (by decide) ?_
            exact ih (x3 + 0) (x4 + 1) _ _ _ w (lv_sub hl [2, 3, 4, 1, 0] rfl) h hk
          · have h := it c14 h
            refine lv_iload F.x F.b dX7_lotByValue_62 (lv_at hl 4 rfl) ?_
            refine lv_iload_n F.x F.b dX7_lotByValue_64 rfl (lv_at hl 2 rfl) ?_
            refine lv_icmp_ge (tgt := 72) F.x F.b dX7_lotByValue_65 (by decide) (fun c15 => ?_) (fun c15 => ?_)
            · have h := it c15 h
              refine lv_iconst (v := 0) F.x F.b dX7_lotByValue_72 (by decide) ?_
              refine lv_iadd F.x F.b dX7_lotByValue_73 ?_
              refine lv_istore_n (lv' := [(3, .int (x3 + 0)), (0, .ref (mo 0)), (1, .int x1), (2, .int x2), (4, .int x4)]) F.x F.b dX7_lotByValue_74 rfl hl (by decide) rfl (fun ls hl => ?_)
              refine lv_iinc (v := (x4 + 1)) (lv' := [(4, .int (x4 + 1)), (3, .int (x3 + 0)), (0, .ref (mo 0)), (1, .int x1), (2, .int x2)]) F.x F.b dX7_lotByValue_75 hl (k := 4) rfl rfl (by decide) rfl (fun ls hl => ?_)
              refine lv_goto (tgt := 22) F.x F.b dX7_lotByValue_78 (by decide) ?_
              exact ih (x3 + 0) (x4 + 1) _ _ _ w (lv_sub hl [2, 3, 4, 1, 0] rfl) h hk
            · have h := ie c15 h
              refine lv_iconst (v := 1) F.x F.b dX7_lotByValue_68 (by decide) ?_
              refine lv_goto (tgt := 73) F.x F.b dX7_lotByValue_69 (by decide) ?_
              refine lv_iadd F.x F.b dX7_lotByValue_73 ?_
              refine lv_istore_n (lv' := [(3, .int (x3 + 1)), (0, .ref (mo 0)), (1, .int x1), (2, .int x2), (4, .int x4)]) F.x F.b dX7_lotByValue_74 rfl hl (by decide) rfl (fun ls hl => ?_)
              refine lv_iinc (v := (x4 + 1)) (lv' := [(4, .int (x4 + 1)), (3, .int (x3 + 1)), (0, .ref (mo 0)), (1, .int x1), (2, .int x2)]) F.x F.b dX7_lotByValue_75 hl (k := 4) rfl rfl (by decide) rfl (fun ls hl => ?_)
              refine lv_goto (tgt := 22) F.x F.b dX7_lotByValue_78 (by decide) ?_
              exact ih (x3 + 1) (x4 + 1) _ _ _ w (lv_sub hl [2, 3, 4, 1, 0] rfl) h hk
  have L7 : ∀ (x1 : Int32) (M : Mem) {k : Option (Int32 × Mem)} (n : Nat) (x2 : Int32) (H : Heap) (locs : List Loc) (ls : Array Slot), Wd G A s.heap (wMo G.2.1 mo M) H locs → lv_has ls 5 [(0, .ref (mo 0)), (1, .int x1), (2, .int x2)] → f_X7_lotByValue_L7 x1 M k n x2 = some (r, M') → (∀ (H : Heap) (locs : List Loc) (ls : Array Slot), Wd G A s.heap (wMo G.2.1 mo M) H locs → lv_has ls 5 [(0, .ref (mo 0))] → k = some (r, M') → W p l e { frames := 2, cells := 0, slots := 0, locals := 43 } s m args below meth c H locs 0 0 (QI G A (wMo G.2.1 mo M') r below args s) (F0 m 99 ls [])) → W p l e { frames := 2, cells := 0, slots := 0, locals := 43 } s m args below meth c H locs 0 0 (QI G A (wMo G.2.1 mo M') r below args s) (F0 m 7 ls []) := by
    clear h w hl
    intro x1 M k n
    induction n with
    | zero =>
      intro x2 H locs ls w hl h hk
      exact nomatch (show (none : Option (Int32 × Mem)) = some (r, M') from h)
    | succ n ih =>
      intro x2 H locs ls w hl h hk
      rw [f_X7_lotByValue_L7] at h
      refine lv_iload_n F.x F.b dX7_lotByValue_7 rfl (lv_at hl 2 rfl) ?_
      refine lv_aload_n F.x F.b dX7_lotByValue_8 rfl (lv_at hl 0 rfl) ?_
      refine rg F w cl7 0 (at_Mo_0 _ _ _) 1 (by decide) q1548 rfl (v := .ref (mo 1)) rfl dX7_lotByValue_9 ?_
      refine lv_iconst (v := 1) F.x F.b dX7_lotByValue_12 (by decide) ?_
      obtain ⟨g1, h⟩ := gd h
      refine ri F w 1 (n := 148) (f := M.2 0) (at_Mo_1 _ _ _) g1 dX7_lotByValue_13 ?_
      refine lv_icmp_ge (tgt := 99) F.x F.b dX7_lotByValue_14 (by decide) (fun c2 => ?_) (fun c2 => ?_)
      · have h := it c2 h
        exact hk _ _ _ w (lv_sub hl [0] rfl) h
      · have h := ie c2 h
        refine lv_iconst (v := 0) F.x F.b dX7_lotByValue_17 (by decide) ?_
        refine lv_istore_n (lv' := [(3, .int 0), (0, .ref (mo 0)), (1, .int x1), (2, .int x2)]) F.x F.b dX7_lotByValue_18 rfl hl (by decide) rfl (fun ls hl => ?_)
        refine lv_iconst (v := 0) F.x F.b dX7_lotByValue_19 (by decide) ?_
        refine lv_istore (lv' := [(4, .int 0), (3, .int 0), (0, .ref (mo 0)), (1, .int x1), (2, .int x2)]) F.x F.b dX7_lotByValue_20 hl (by decide) rfl (fun ls hl => ?_)
        refine L22 x1 x2 M _ 0 0 _ _ _ w (lv_sub hl [2, 3, 4, 1, 0] rfl) h ?_
        intro y16_3 H locs ls w hl h
        try dsimp only at h
        refine lv_iload_n F.x F.b dX7_lotByValue_81 rfl (lv_at hl 3 rfl) ?_
        refine lv_iload_n F.x F.b dX7_lotByValue_82 rfl (lv_at hl 1 rfl) ?_
        refine lv_icmp_ne (tgt := 93) F.x F.b dX7_lotByValue_83 (by decide) (fun c17 => ?_) (fun c17 => ?_)
        · have h := ie c17 h
          refine lv_iinc (v := (x2 + 1)) (lv' := [(2, .int (x2 + 1)), (0, .ref (mo 0)), (1, .int x1), (3, .int y16_3)]) F.x F.b dX7_lotByValue_93 hl (k := 2) rfl rfl (by decide) rfl (fun ls hl => ?_)
          refine lv_goto (tgt := 7) F.x F.b dX7_lotByValue_96 (by decide) ?_
          exact ih (x2 + 1) _ _ _ w (lv_sub hl [1, 2, 0] rfl) h hk
        · have h := it c17 h
          refine lv_aload_n F.x F.b dX7_lotByValue_86 rfl (lv_at hl 0 rfl) ?_
          refine lv_iload_n F.x F.b dX7_lotByValue_87 rfl (lv_at hl 2 rfl) ?_
          refine lv_iconst (v := 0) F.x F.b dX7_lotByValue_88 (by decide) ?_
          obtain ⟨r18, hc19, h⟩ := bd h
          try dsimp only at h
          refine kVi0 F w (As := [.int x2, .int 0]) (rest := []) (w1 := wMo G.2.1 mo M) (t_X7_of F.1 hc19) m_X7_of v_X7_of q1643 (ci := 11) (q0 := 0) rfl rfl rfl ⟨Nat.le_of_ble_eq_true rfl, Nat.le_of_ble_eq_true rfl⟩ rfl hl.1 rfl (Nat.le_of_ble_eq_true rfl) dX7_lotByValue_89 ⟨Nat.le_of_ble_eq_true rfl, Nat.le_of_ble_eq_true rfl⟩ (fun H locs w => ?_)
          obtain ⟨z0, z1⟩ := sm2 (sm h)
          exact ei F w hr hlocks rfl z0 (by rw [← z1]) dX7_lotByValue_92
  refine lv_aload_n F.x F.b dX7_lotByValue_0 rfl (lv_at hl 0 rfl) ?_
  refine lv_iconst (v := 0) F.x F.b dX7_lotByValue_1 (by decide) ?_
  refine rp F w (ws' := wMo G.2.1 mo (wrI M 0 0)) cl7 0 (at_Mo_0 _ _ _) 0 (by decide) q1547 rfl rfl rfl rfl (Nat.le_of_ble_eq_true rfl) (pt_Mo_0_0 _ _ _ _) dX7_lotByValue_2 (fun H locs w => ?_)
  refine lv_iconst (v := 0) F.x F.b dX7_lotByValue_5 (by decide) ?_
  refine lv_istore_n (lv' := [(2, .int 0), (0, .ref (mo 0)), (1, .int x1)]) F.x F.b dX7_lotByValue_6 rfl hl (by decide) rfl (fun ls hl => ?_)
  refine L7 x1 (wrI M 0 0) _ 0 _ _ _ w (lv_sub hl [1, 2, 0] rfl) h ?_
  intro  H locs ls w hl h
  try dsimp only at h
  refine lv_aload_n F.x F.b dX7_lotByValue_99 rfl (lv_at hl 0 rfl) ?_
  refine lv_iconst (v := 1) F.x F.b dX7_lotByValue_100 (by decide) ?_
  obtain ⟨⟨r21, M_22⟩, hc23, h⟩ := bd h
  try dsimp only at h
  refine kVi0 F w (As := [.int 1]) (rest := []) (w1 := wMo G.2.1 mo M_22) (t_X7_fails F.1 hc23) m_X7_fails v_X7_fails q1663 (ci := 11) (q0 := 0) rfl rfl rfl ⟨Nat.le_of_ble_eq_true rfl, Nat.le_of_ble_eq_true rfl⟩ rfl hl.1 rfl (Nat.le_of_ble_eq_true rfl) dX7_lotByValue_101 ⟨Nat.le_of_ble_eq_true rfl, Nat.le_of_ble_eq_true rfl⟩ (fun H locs w => ?_)
  obtain ⟨z0, z1⟩ := sm2 (sm h)
  exact ei F w hr hlocks rfl z0 (by rw [← z1]) dX7_lotByValue_104
set_option maxRecDepth 100000 in
set_option maxHeartbeats 4000000 in
theorem t_X7_addStep {G : cG} (g : GOK G) {mo : Nat → Nat} {M : Mem} {x1 x2 : Int32} {r : Int32} {M' : Mem} (h : f_X7_addStep M x1 x2 = some (r, M')) : CI G yX7_addStep cX7_addStep 3 .int 2 46 [.ref (mo 0), .int x1, .int x2] (wMo G.2.1 mo M) (wMo G.2.1 mo M') r := by
  unfold f_X7_addStep at h
  refine CI.of g (by decide) rfl (Nat.le_of_ble_eq_true rfl) ?_
  intro p l e s m below meth c A ls F hr hlocks w hl
  generalize ([.ref (mo 0), .int x1, .int x2] : List Value).toArray = args
  have hl : lv_has ls 3 [(0, .ref (mo 0)), (1, .int x1), (2, .int x2)] := hl
  refine lv_aload_n F.x F.b dX7_addStep_0 rfl (lv_at hl 0 rfl) ?_
  obtain ⟨M_1, hc2, h⟩ := bd h
  try dsimp only at h
  refine kVv0 F w (As := []) (rest := []) (w1 := wMo G.2.1 mo M_1) (t_X7_remembers F.1 hc2) m_X7_remembers v_X7_remembers q1622 (ci := 11) (q0 := 0) rfl rfl rfl ⟨Nat.le_of_ble_eq_true rfl, Nat.le_of_ble_eq_true rfl⟩ rfl hl.1 rfl (Nat.le_of_ble_eq_true rfl) dX7_addStep_1 ⟨Nat.le_of_ble_eq_true rfl, Nat.le_of_ble_eq_true rfl⟩ (fun H locs w => ?_)
  refine lv_aload_n F.x F.b dX7_addStep_4 rfl (lv_at hl 0 rfl) ?_
  refine lv_aload_n F.x F.b dX7_addStep_5 rfl (lv_at hl 0 rfl) ?_
  refine lv_iload_n F.x F.b dX7_addStep_6 rfl (lv_at hl 1 rfl) ?_
  refine lv_iload_n F.x F.b dX7_addStep_7 rfl (lv_at hl 2 rfl) ?_
  obtain ⟨⟨r3, M_4⟩, hc5, h⟩ := bd h
  try dsimp only at h
  refine kVi0 F w (As := [.int x1, .int x2]) (rest := [.ref (mo 0)]) (w1 := wMo G.2.1 mo M_4) (t_X7_addsStep F.1 hc5) m_X7_addsStep v_X7_addsStep q1771 (ci := 11) (q0 := 0) rfl rfl rfl ⟨Nat.le_of_ble_eq_true rfl, Nat.le_of_ble_eq_true rfl⟩ rfl hl.1 rfl (Nat.le_of_ble_eq_true rfl) dX7_addStep_8 ⟨Nat.le_of_ble_eq_true rfl, Nat.le_of_ble_eq_true rfl⟩ (fun H locs w => ?_)
  obtain ⟨⟨r6, M_7⟩, hc8, h⟩ := bd h
  try dsimp only at h
  refine kVi0 F w (As := [.int r3]) (rest := []) (w1 := wMo G.2.1 mo M_7) (t_X7_ends F.1 hc8) m_X7_ends v_X7_ends q1655 (ci := 11) (q0 := 0) rfl rfl rfl ⟨Nat.le_of_ble_eq_true rfl, Nat.le_of_ble_eq_true rfl⟩ rfl hl.1 rfl (Nat.le_of_ble_eq_true rfl) dX7_addStep_11 ⟨Nat.le_of_ble_eq_true rfl, Nat.le_of_ble_eq_true rfl⟩ (fun H locs w => ?_)
  obtain ⟨z0, z1⟩ := sm2 (sm h)
  exact ei F w hr hlocks rfl z0 (by rw [← z1]) dX7_addStep_14
set_option maxRecDepth 100000 in
set_option maxHeartbeats 4000000 in
theorem t_X7_removeStep {G : cG} (g : GOK G) {mo : Nat → Nat} {M : Mem} {x1 : Int32} {r : Int32} {M' : Mem} (h : f_X7_removeStep M x1 = some (r, M')) : CI G yX7_removeStep cX7_removeStep 2 .int 2 45 [.ref (mo 0), .int x1] (wMo G.2.1 mo M) (wMo G.2.1 mo M') r := by
  unfold f_X7_removeStep at h
  refine CI.of g (by decide) rfl (Nat.le_of_ble_eq_true rfl) ?_
  intro p l e s m below meth c A ls F hr hlocks w hl
  generalize ([.ref (mo 0), .int x1] : List Value).toArray = args
  have hl : lv_has ls 2 [(0, .ref (mo 0)), (1, .int x1)] := hl
  refine lv_aload_n F.x F.b dX7_removeStep_0 rfl (lv_at hl 0 rfl) ?_
  obtain ⟨M_1, hc2, h⟩ := bd h
  try dsimp only at h
  refine kVv0 F w (As := []) (rest := []) (w1 := wMo G.2.1 mo M_1) (t_X7_remembers F.1 hc2) m_X7_remembers v_X7_remembers q1622 (ci := 11) (q0 := 0) rfl rfl rfl ⟨Nat.le_of_ble_eq_true rfl, Nat.le_of_ble_eq_true rfl⟩ rfl hl.1 rfl (Nat.le_of_ble_eq_true rfl) dX7_removeStep_1 ⟨Nat.le_of_ble_eq_true rfl, Nat.le_of_ble_eq_true rfl⟩ (fun H locs w => ?_)
  refine lv_aload_n F.x F.b dX7_removeStep_4 rfl (lv_at hl 0 rfl) ?_
  refine lv_aload_n F.x F.b dX7_removeStep_5 rfl (lv_at hl 0 rfl) ?_
  refine lv_iload_n F.x F.b dX7_removeStep_6 rfl (lv_at hl 1 rfl) ?_
  obtain ⟨⟨r3, M_4⟩, hc5, h⟩ := bd h
  try dsimp only at h
  refine kVi0 F w (As := [.int x1]) (rest := [.ref (mo 0)]) (w1 := wMo G.2.1 mo M_4) (t_X7_removesStep F.1 hc5) m_X7_removesStep v_X7_removesStep q1779 (ci := 11) (q0 := 0) rfl rfl rfl ⟨Nat.le_of_ble_eq_true rfl, Nat.le_of_ble_eq_true rfl⟩ rfl hl.1 rfl (Nat.le_of_ble_eq_true rfl) dX7_removeStep_7 ⟨Nat.le_of_ble_eq_true rfl, Nat.le_of_ble_eq_true rfl⟩ (fun H locs w => ?_)
  obtain ⟨⟨r6, M_7⟩, hc8, h⟩ := bd h
  try dsimp only at h
  refine kVi0 F w (As := [.int r3]) (rest := []) (w1 := wMo G.2.1 mo M_7) (t_X7_ends F.1 hc8) m_X7_ends v_X7_ends q1655 (ci := 11) (q0 := 0) rfl rfl rfl ⟨Nat.le_of_ble_eq_true rfl, Nat.le_of_ble_eq_true rfl⟩ rfl hl.1 rfl (Nat.le_of_ble_eq_true rfl) dX7_removeStep_10 ⟨Nat.le_of_ble_eq_true rfl, Nat.le_of_ble_eq_true rfl⟩ (fun H locs w => ?_)
  obtain ⟨z0, z1⟩ := sm2 (sm h)
  exact ei F w hr hlocks rfl z0 (by rw [← z1]) dX7_removeStep_13
set_option maxRecDepth 100000 in
set_option maxHeartbeats 4000000 in
theorem t_X7_stepCount {G : cG} (g : GOK G) {mo : Nat → Nat} {M : Mem} {r : Int32} {M' : Mem} (h : f_X7_stepCount M = some (r, M')) : CI G yX7_stepCount cX7_stepCount 1 .int 0 0 [.ref (mo 0)] (wMo G.2.1 mo M) (wMo G.2.1 mo M') r := by
  unfold f_X7_stepCount at h
  refine CI.of g (by decide) rfl (Nat.le_of_ble_eq_true rfl) ?_
  intro p l e s m below meth c A ls F hr hlocks w hl
  generalize ([.ref (mo 0)] : List Value).toArray = args
  have hl : lv_has ls 1 [(0, .ref (mo 0))] := hl
  refine lv_aload_n F.x F.b dX7_stepCount_0 rfl (lv_at hl 0 rfl) ?_
  refine lv_iconst (v := 0) F.x F.b dX7_stepCount_1 (by decide) ?_
  refine rp F w (ws' := wMo G.2.1 mo (wrI M 0 0)) cl7 0 (at_Mo_0 _ _ _) 0 (by decide) q1547 rfl rfl rfl rfl (Nat.le_of_ble_eq_true rfl) (pt_Mo_0_0 _ _ _ _) dX7_stepCount_2 (fun H locs w => ?_)
  refine lv_aload_n F.x F.b dX7_stepCount_5 rfl (lv_at hl 0 rfl) ?_
  refine rg F w cl7 0 (at_Mo_0 _ _ _) 1 (by decide) q1548 rfl (v := .ref (mo 1)) rfl dX7_stepCount_6 ?_
  refine lv_iconst (v := 2) F.x F.b dX7_stepCount_9 (by decide) ?_
  obtain ⟨g1, h⟩ := gd h
  refine ri F w 1 (n := 148) (f := (wrI M 0 0).2 0) (at_Mo_1 _ _ _) g1 dX7_stepCount_10 ?_
  obtain ⟨z0, z1⟩ := sm2 (sm h)
  exact ei F w hr hlocks rfl z0 (by rw [← z1]) dX7_stepCount_11
set_option maxRecDepth 100000 in
set_option maxHeartbeats 4000000 in
theorem t_X7_threshold {G : cG} (g : GOK G) {mo : Nat → Nat} {M : Mem} {x1 : Int32} {r : Int32} {M' : Mem} (h : f_X7_threshold M x1 = some (r, M')) : CI G yX7_threshold cX7_threshold 2 .int 1 22 [.ref (mo 0), .int x1] (wMo G.2.1 mo M) (wMo G.2.1 mo M') r := by
  unfold f_X7_threshold at h
  refine CI.of g (by decide) rfl (Nat.le_of_ble_eq_true rfl) ?_
  intro p l e s m below meth c A ls F hr hlocks w hl
  generalize ([.ref (mo 0), .int x1] : List Value).toArray = args
  have hl : lv_has ls 2 [(0, .ref (mo 0)), (1, .int x1)] := hl
  refine lv_aload_n F.x F.b dX7_threshold_0 rfl (lv_at hl 0 rfl) ?_
  refine lv_iload_n F.x F.b dX7_threshold_1 rfl (lv_at hl 1 rfl) ?_
  refine lv_iconst (v := 0) F.x F.b dX7_threshold_2 (by decide) ?_
  refine lv_aload_n F.x F.b dX7_threshold_3 rfl (lv_at hl 0 rfl) ?_
  refine rg F w cl7 0 (at_Mo_0 _ _ _) 1 (by decide) q1548 rfl (v := .ref (mo 1)) rfl dX7_threshold_4 ?_
  refine lv_iconst (v := 2) F.x F.b dX7_threshold_7 (by decide) ?_
  obtain ⟨g1, h⟩ := gd h
  refine ri F w 1 (n := 148) (f := M.2 0) (at_Mo_1 _ _ _) g1 dX7_threshold_8 ?_
  refine lv_iconst (v := 1) F.x F.b dX7_threshold_9 (by decide) ?_
  refine lv_isub F.x F.b dX7_threshold_10 ?_
  obtain ⟨r2, hc3, h⟩ := bd h
  try dsimp only at h
  refine kSi F w (t_X7_in F.1 hc3) m_X7_in v_X7_in q1633 (As := [.int x1, .int 0, .int ((M.2 0 (Int32.toNatClampNeg 2)) - 1)]) (rest := [.ref (mo 0)]) ⟨Nat.le_of_ble_eq_true rfl, Nat.le_of_ble_eq_true rfl⟩ rfl hl.1 rfl (Nat.le_of_ble_eq_true rfl) dX7_threshold_11 ⟨Nat.le_of_ble_eq_true rfl, Nat.le_of_ble_eq_true rfl⟩ (fun H locs w => ?_)
  refine lv_if_eq (tgt := 21) F.x F.b dX7_threshold_14 (by decide) (fun c4 => ?_) (fun c4 => ?_)
  · have h := it c4 h
    refine lv_iconst (v := 1) F.x F.b dX7_threshold_21 (by decide) ?_
    refine rp F w (ws' := wMo G.2.1 mo (wrI M 0 1)) cl7 0 (at_Mo_0 _ _ _) 0 (by decide) q1547 rfl rfl rfl rfl (Nat.le_of_ble_eq_true rfl) (pt_Mo_0_0 _ _ _ _) dX7_threshold_22 (fun H locs w => ?_)
    refine lv_aload_n F.x F.b dX7_threshold_25 rfl (lv_at hl 0 rfl) ?_
    refine rg F w cl7 0 (at_Mo_0 _ _ _) 0 (by decide) q1547 rfl (v := .int 1) rfl dX7_threshold_26 ?_
    refine lv_if_le (tgt := 36) F.x F.b dX7_threshold_29 (by decide) (fun c9 => absurd c9 (by decide)) (fun _ => ?_)
    refine lv_iconst (v := 0) F.x F.b dX7_threshold_32 (by decide) ?_
    refine lv_goto (tgt := 47) F.x F.b dX7_threshold_33 (by decide) ?_
    obtain ⟨z0, z1⟩ := sm2 (sm h)
    exact ei F w hr hlocks rfl z0 (by rw [← z1]) dX7_threshold_47
  · have h := ie c4 h
    refine lv_iconst (v := 0) F.x F.b dX7_threshold_17 (by decide) ?_
    refine lv_goto (tgt := 22) F.x F.b dX7_threshold_18 (by decide) ?_
    refine rp F w (ws' := wMo G.2.1 mo (wrI M 0 0)) cl7 0 (at_Mo_0 _ _ _) 0 (by decide) q1547 rfl rfl rfl rfl (Nat.le_of_ble_eq_true rfl) (pt_Mo_0_0 _ _ _ _) dX7_threshold_22 (fun H locs w => ?_)
    refine lv_aload_n F.x F.b dX7_threshold_25 rfl (lv_at hl 0 rfl) ?_
    refine rg F w cl7 0 (at_Mo_0 _ _ _) 0 (by decide) q1547 rfl (v := .int 0) rfl dX7_threshold_26 ?_
    refine lv_if_le (tgt := 36) F.x F.b dX7_threshold_29 (by decide) (fun _ => ?_) (fun c9 => absurd (by decide) c9)
    refine lv_aload_n F.x F.b dX7_threshold_36 rfl (lv_at hl 0 rfl) ?_
    refine rg F w cl7 0 (at_Mo_0 _ _ _) 1 (by decide) q1548 rfl (v := .ref (mo 1)) rfl dX7_threshold_37 ?_
    refine lv_bipush (v := 120) F.x F.b dX7_threshold_40 (by decide) ?_
    refine lv_iconst (v := 2) F.x F.b dX7_threshold_42 (by decide) ?_
    refine lv_iload_n F.x F.b dX7_threshold_43 rfl (lv_at hl 1 rfl) ?_
    refine lv_imul F.x F.b dX7_threshold_44 ?_
    refine lv_iadd F.x F.b dX7_threshold_45 ?_
    obtain ⟨g5, h⟩ := gd h
    refine ri F w 1 (n := 148) (f := (wrI M 0 0).2 0) (at_Mo_1 _ _ _) g5 dX7_threshold_46 ?_
    obtain ⟨z0, z1⟩ := sm2 (sm h)
    exact ei F w hr hlocks rfl z0 (by rw [← z1]) dX7_threshold_47
set_option maxRecDepth 100000 in
set_option maxHeartbeats 4000000 in
theorem t_X7_rate {G : cG} (g : GOK G) {mo : Nat → Nat} {M : Mem} {x1 : Int32} {r : Int32} {M' : Mem} (h : f_X7_rate M x1 = some (r, M')) : CI G yX7_rate cX7_rate 2 .int 1 22 [.ref (mo 0), .int x1] (wMo G.2.1 mo M) (wMo G.2.1 mo M') r := by
  unfold f_X7_rate at h
  refine CI.of g (by decide) rfl (Nat.le_of_ble_eq_true rfl) ?_
  intro p l e s m below meth c A ls F hr hlocks w hl
  generalize ([.ref (mo 0), .int x1] : List Value).toArray = args
  have hl : lv_has ls 2 [(0, .ref (mo 0)), (1, .int x1)] := hl
  refine lv_aload_n F.x F.b dX7_rate_0 rfl (lv_at hl 0 rfl) ?_
  refine lv_iload_n F.x F.b dX7_rate_1 rfl (lv_at hl 1 rfl) ?_
  refine lv_iconst (v := 0) F.x F.b dX7_rate_2 (by decide) ?_
  refine lv_aload_n F.x F.b dX7_rate_3 rfl (lv_at hl 0 rfl) ?_
  refine rg F w cl7 0 (at_Mo_0 _ _ _) 1 (by decide) q1548 rfl (v := .ref (mo 1)) rfl dX7_rate_4 ?_
  refine lv_iconst (v := 2) F.x F.b dX7_rate_7 (by decide) ?_
  obtain ⟨g1, h⟩ := gd h
  refine ri F w 1 (n := 148) (f := M.2 0) (at_Mo_1 _ _ _) g1 dX7_rate_8 ?_
  refine lv_iconst (v := 1) F.x F.b dX7_rate_9 (by decide) ?_
  refine lv_isub F.x F.b dX7_rate_10 ?_
  obtain ⟨r2, hc3, h⟩ := bd h
  try dsimp only at h
  refine kSi F w (t_X7_in F.1 hc3) m_X7_in v_X7_in q1633 (As := [.int x1, .int 0, .int ((M.2 0 (Int32.toNatClampNeg 2)) - 1)]) (rest := [.ref (mo 0)]) ⟨Nat.le_of_ble_eq_true rfl, Nat.le_of_ble_eq_true rfl⟩ rfl hl.1 rfl (Nat.le_of_ble_eq_true rfl) dX7_rate_11 ⟨Nat.le_of_ble_eq_true rfl, Nat.le_of_ble_eq_true rfl⟩ (fun H locs w => ?_)
  refine lv_if_eq (tgt := 21) F.x F.b dX7_rate_14 (by decide) (fun c4 => ?_) (fun c4 => ?_)
  · have h := it c4 h
    refine lv_iconst (v := 1) F.x F.b dX7_rate_21 (by decide) ?_
    refine rp F w (ws' := wMo G.2.1 mo (wrI M 0 1)) cl7 0 (at_Mo_0 _ _ _) 0 (by decide) q1547 rfl rfl rfl rfl (Nat.le_of_ble_eq_true rfl) (pt_Mo_0_0 _ _ _ _) dX7_rate_22 (fun H locs w => ?_)
    refine lv_aload_n F.x F.b dX7_rate_25 rfl (lv_at hl 0 rfl) ?_
    refine rg F w cl7 0 (at_Mo_0 _ _ _) 0 (by decide) q1547 rfl (v := .int 1) rfl dX7_rate_26 ?_
    refine lv_if_le (tgt := 36) F.x F.b dX7_rate_29 (by decide) (fun c9 => absurd c9 (by decide)) (fun _ => ?_)
    refine lv_iconst (v := 0) F.x F.b dX7_rate_32 (by decide) ?_
    refine lv_goto (tgt := 49) F.x F.b dX7_rate_33 (by decide) ?_
    obtain ⟨z0, z1⟩ := sm2 (sm h)
    exact ei F w hr hlocks rfl z0 (by rw [← z1]) dX7_rate_49
  · have h := ie c4 h
    refine lv_iconst (v := 0) F.x F.b dX7_rate_17 (by decide) ?_
    refine lv_goto (tgt := 22) F.x F.b dX7_rate_18 (by decide) ?_
    refine rp F w (ws' := wMo G.2.1 mo (wrI M 0 0)) cl7 0 (at_Mo_0 _ _ _) 0 (by decide) q1547 rfl rfl rfl rfl (Nat.le_of_ble_eq_true rfl) (pt_Mo_0_0 _ _ _ _) dX7_rate_22 (fun H locs w => ?_)
    refine lv_aload_n F.x F.b dX7_rate_25 rfl (lv_at hl 0 rfl) ?_
    refine rg F w cl7 0 (at_Mo_0 _ _ _) 0 (by decide) q1547 rfl (v := .int 0) rfl dX7_rate_26 ?_
    refine lv_if_le (tgt := 36) F.x F.b dX7_rate_29 (by decide) (fun _ => ?_) (fun c9 => absurd (by decide) c9)
    refine lv_aload_n F.x F.b dX7_rate_36 rfl (lv_at hl 0 rfl) ?_
    refine rg F w cl7 0 (at_Mo_0 _ _ _) 1 (by decide) q1548 rfl (v := .ref (mo 1)) rfl dX7_rate_37 ?_
    refine lv_bipush (v := 120) F.x F.b dX7_rate_40 (by decide) ?_
    refine lv_iconst (v := 2) F.x F.b dX7_rate_42 (by decide) ?_
    refine lv_iload_n F.x F.b dX7_rate_43 rfl (lv_at hl 1 rfl) ?_
    refine lv_imul F.x F.b dX7_rate_44 ?_
    refine lv_iadd F.x F.b dX7_rate_45 ?_
    refine lv_iconst (v := 1) F.x F.b dX7_rate_46 (by decide) ?_
    refine lv_iadd F.x F.b dX7_rate_47 ?_
    obtain ⟨g5, h⟩ := gd h
    refine ri F w 1 (n := 148) (f := (wrI M 0 0).2 0) (at_Mo_1 _ _ _) g5 dX7_rate_48 ?_
    obtain ⟨z0, z1⟩ := sm2 (sm h)
    exact ei F w hr hlocks rfl z0 (by rw [← z1]) dX7_rate_49
set_option maxRecDepth 100000 in
set_option maxHeartbeats 4000000 in
theorem t_X7_dutyOn {G : cG} (g : GOK G) {mo : Nat → Nat} {M : Mem} {x1 : Int32} {r : Int32} {M' : Mem} (h : f_X7_dutyOn M x1 = some (r, M')) : CI G yX7_dutyOn cX7_dutyOn 2 .int 1 25 [.ref (mo 0), .int x1] (wMo G.2.1 mo M) (wMo G.2.1 mo M') r := by
  unfold f_X7_dutyOn at h
  refine CI.of g (by decide) rfl (Nat.le_of_ble_eq_true rfl) ?_
  intro p l e s m below meth c A ls F hr hlocks w hl
  generalize ([.ref (mo 0), .int x1] : List Value).toArray = args
  have hl : lv_has ls 2 [(0, .ref (mo 0)), (1, .int x1)] := hl
  refine lv_aload_n F.x F.b dX7_dutyOn_0 rfl (lv_at hl 0 rfl) ?_
  refine lv_iload_n F.x F.b dX7_dutyOn_1 rfl (lv_at hl 1 rfl) ?_
  refine lv_iconst (v := 0) F.x F.b dX7_dutyOn_2 (by decide) ?_
  refine lv_sipush (v := 9999) F.x F.b dX7_dutyOn_3 (by decide) ?_
  obtain ⟨r1, hc2, h⟩ := bd h
  try dsimp only at h
  refine kSi F w (t_X7_in F.1 hc2) m_X7_in v_X7_in q1633 (As := [.int x1, .int 0, .int 9999]) (rest := [.ref (mo 0)]) ⟨Nat.le_of_ble_eq_true rfl, Nat.le_of_ble_eq_true rfl⟩ rfl hl.1 rfl (Nat.le_of_ble_eq_true rfl) dX7_dutyOn_6 ⟨Nat.le_of_ble_eq_true rfl, Nat.le_of_ble_eq_true rfl⟩ (fun H locs w => ?_)
  refine lv_if_eq (tgt := 16) F.x F.b dX7_dutyOn_9 (by decide) (fun c3 => ?_) (fun c3 => ?_)
  · have h := it c3 h
    refine lv_iconst (v := 1) F.x F.b dX7_dutyOn_16 (by decide) ?_
    refine rp F w (ws' := wMo G.2.1 mo (wrI M 0 1)) cl7 0 (at_Mo_0 _ _ _) 0 (by decide) q1547 rfl rfl rfl rfl (Nat.le_of_ble_eq_true rfl) (pt_Mo_0_0 _ _ _ _) dX7_dutyOn_17 (fun H locs w => ?_)
    refine lv_aload_n F.x F.b dX7_dutyOn_20 rfl (lv_at hl 0 rfl) ?_
    refine rg F w cl7 0 (at_Mo_0 _ _ _) 0 (by decide) q1547 rfl (v := .int 1) rfl dX7_dutyOn_21 ?_
    refine lv_if_le (tgt := 31) F.x F.b dX7_dutyOn_24 (by decide) (fun c9 => absurd c9 (by decide)) (fun _ => ?_)
    refine lv_iconst (v := 0) F.x F.b dX7_dutyOn_27 (by decide) ?_
    refine lv_goto (tgt := 36) F.x F.b dX7_dutyOn_28 (by decide) ?_
    obtain ⟨z0, z1⟩ := sm2 (sm h)
    exact ei F w hr hlocks rfl z0 (by rw [← z1]) dX7_dutyOn_36
  · have h := ie c3 h
    refine lv_iconst (v := 0) F.x F.b dX7_dutyOn_12 (by decide) ?_
    refine lv_goto (tgt := 17) F.x F.b dX7_dutyOn_13 (by decide) ?_
    refine rp F w (ws' := wMo G.2.1 mo (wrI M 0 0)) cl7 0 (at_Mo_0 _ _ _) 0 (by decide) q1547 rfl rfl rfl rfl (Nat.le_of_ble_eq_true rfl) (pt_Mo_0_0 _ _ _ _) dX7_dutyOn_17 (fun H locs w => ?_)
    refine lv_aload_n F.x F.b dX7_dutyOn_20 rfl (lv_at hl 0 rfl) ?_
    refine rg F w cl7 0 (at_Mo_0 _ _ _) 0 (by decide) q1547 rfl (v := .int 0) rfl dX7_dutyOn_21 ?_
    refine lv_if_le (tgt := 31) F.x F.b dX7_dutyOn_24 (by decide) (fun _ => ?_) (fun c9 => absurd (by decide) c9)
    refine lv_aload_n F.x F.b dX7_dutyOn_31 rfl (lv_at hl 0 rfl) ?_
    refine lv_iload_n F.x F.b dX7_dutyOn_32 rfl (lv_at hl 1 rfl) ?_
    obtain ⟨r4, hc5, h⟩ := bd h
    try dsimp only at h
    refine kVi0 F w (As := [.int x1]) (rest := []) (w1 := wMo G.2.1 mo (wrI M 0 0)) (t_X7_charged F.1 hc5) m_X7_charged v_X7_charged q1799 (ci := 11) (q0 := 0) rfl rfl rfl ⟨Nat.le_of_ble_eq_true rfl, Nat.le_of_ble_eq_true rfl⟩ rfl hl.1 rfl (Nat.le_of_ble_eq_true rfl) dX7_dutyOn_33 ⟨Nat.le_of_ble_eq_true rfl, Nat.le_of_ble_eq_true rfl⟩ (fun H locs w => ?_)
    obtain ⟨z0, z1⟩ := sm2 (sm h)
    exact ei F w hr hlocks rfl z0 (by rw [← z1]) dX7_dutyOn_36
set_option maxRecDepth 100000 in
set_option maxHeartbeats 4000000 in
theorem t_X7_dutyOnByCoins {G : cG} (g : GOK G) {mo : Nat → Nat} {M : Mem} {x1 : Int32} {r : Int32} {M' : Mem} (h : f_X7_dutyOnByCoins M x1 = some (r, M')) : CI G yX7_dutyOnByCoins cX7_dutyOnByCoins 2 .int 2 46 [.ref (mo 0), .int x1] (wMo G.2.1 mo M) (wMo G.2.1 mo M') r := by
  unfold f_X7_dutyOnByCoins at h
  refine CI.of g (by decide) rfl (Nat.le_of_ble_eq_true rfl) ?_
  intro p l e s m below meth c A ls F hr hlocks w hl
  generalize ([.ref (mo 0), .int x1] : List Value).toArray = args
  have hl : lv_has ls 2 [(0, .ref (mo 0)), (1, .int x1)] := hl
  refine lv_aload_n F.x F.b dX7_dutyOnByCoins_0 rfl (lv_at hl 0 rfl) ?_
  refine lv_iload_n F.x F.b dX7_dutyOnByCoins_1 rfl (lv_at hl 1 rfl) ?_
  obtain ⟨⟨r1, M_2⟩, hc3, h⟩ := bd h
  try dsimp only at h
  refine kVi0 F w (As := [.int x1]) (rest := []) (w1 := wMo G.2.1 mo M_2) (t_X7_dutyOn F.1 hc3) m_X7_dutyOn v_X7_dutyOn q1807 (ci := 11) (q0 := 0) rfl rfl rfl ⟨Nat.le_of_ble_eq_true rfl, Nat.le_of_ble_eq_true rfl⟩ rfl hl.1 rfl (Nat.le_of_ble_eq_true rfl) dX7_dutyOnByCoins_2 ⟨Nat.le_of_ble_eq_true rfl, Nat.le_of_ble_eq_true rfl⟩ (fun H locs w => ?_)
  obtain ⟨z0, z1⟩ := sm2 (sm h)
  exact ei F w hr hlocks rfl z0 (by rw [← z1]) dX7_dutyOnByCoins_5
set_option maxRecDepth 100000 in
set_option maxHeartbeats 4000000 in
theorem t_X7_duty {G : cG} (g : GOK G) {mo : Nat → Nat} {M : Mem} {x1 : Int32} {r : Int32} {M' : Mem} (h : f_X7_duty M x1 = some (r, M')) : CI G yX7_duty cX7_duty 3 .int 3 64 [.ref (mo 0), .int x1] (wMo G.2.1 mo M) (wMo G.2.1 mo M') r := by
  unfold f_X7_duty at h
  refine CI.of g (by decide) rfl (Nat.le_of_ble_eq_true rfl) ?_
  intro p l e s m below meth c A ls F hr hlocks w hl
  generalize ([.ref (mo 0), .int x1] : List Value).toArray = args
  have hl : lv_has ls 3 [(0, .ref (mo 0)), (1, .int x1)] := hl
  refine lv_aload_n F.x F.b dX7_duty_0 rfl (lv_at hl 0 rfl) ?_
  refine lv_iload_n F.x F.b dX7_duty_1 rfl (lv_at hl 1 rfl) ?_
  obtain ⟨r1, hc2, h⟩ := bd h
  try dsimp only at h
  refine kVi0 F w (As := [.int x1]) (rest := []) (w1 := wMo G.2.1 mo M) (t_X7_placeOf F.1 hc2) m_X7_placeOf v_X7_placeOf q1675 (ci := 11) (q0 := 0) rfl rfl rfl ⟨Nat.le_of_ble_eq_true rfl, Nat.le_of_ble_eq_true rfl⟩ rfl hl.1 rfl (Nat.le_of_ble_eq_true rfl) dX7_duty_2 ⟨Nat.le_of_ble_eq_true rfl, Nat.le_of_ble_eq_true rfl⟩ (fun H locs w => ?_)
  refine lv_istore_n (lv' := [(2, .int r1), (0, .ref (mo 0)), (1, .int x1)]) F.x F.b dX7_duty_5 rfl hl (by decide) rfl (fun ls hl => ?_)
  refine lv_aload_n F.x F.b dX7_duty_6 rfl (lv_at hl 1 rfl) ?_
  refine lv_iload_n F.x F.b dX7_duty_7 rfl (lv_at hl 0 rfl) ?_
  refine lv_iconst (v := (-1)) F.x F.b dX7_duty_8 (by decide) ?_
  refine lv_icmp_ne (tgt := 16) F.x F.b dX7_duty_9 (by decide) (fun c3 => ?_) (fun c3 => ?_)
  · have h := ie c3 h
    refine lv_iconst (v := 0) F.x F.b dX7_duty_16 (by decide) ?_
    refine rp F w (ws' := wMo G.2.1 mo (wrI M 0 0)) cl7 0 (at_Mo_0 _ _ _) 0 (by decide) q1547 rfl rfl rfl rfl (Nat.le_of_ble_eq_true rfl) (pt_Mo_0_0 _ _ _ _) dX7_duty_17 (fun H locs w => ?_)
    refine lv_aload_n F.x F.b dX7_duty_20 rfl (lv_at hl 1 rfl) ?_
    refine rg F w cl7 0 (at_Mo_0 _ _ _) 0 (by decide) q1547 rfl (v := .int 0) rfl dX7_duty_21 ?_
    refine lv_if_le (tgt := 31) F.x F.b dX7_duty_24 (by decide) (fun _ => ?_) (fun c9 => absurd (by decide) c9)
    refine lv_aload_n F.x F.b dX7_duty_31 rfl (lv_at hl 1 rfl) ?_
    refine lv_iload_n F.x F.b dX7_duty_32 rfl (lv_at hl 0 rfl) ?_
    obtain ⟨r4, hc5, h⟩ := bd h
    try dsimp only at h
    refine kVi0 F w (As := [.int r1]) (rest := []) (w1 := wMo G.2.1 mo (wrI M 0 0)) (t_X7_owed F.1 hc5) m_X7_owed v_X7_owed q1812 (ci := 11) (q0 := 0) rfl rfl rfl ⟨Nat.le_of_ble_eq_true rfl, Nat.le_of_ble_eq_true rfl⟩ rfl hl.1 rfl (Nat.le_of_ble_eq_true rfl) dX7_duty_33 ⟨Nat.le_of_ble_eq_true rfl, Nat.le_of_ble_eq_true rfl⟩ (fun H locs w => ?_)
    obtain ⟨z0, z1⟩ := sm2 (sm h)
    exact ei F w hr hlocks rfl z0 (by rw [← z1]) dX7_duty_36
  · have h := it c3 h
    refine lv_iconst (v := 1) F.x F.b dX7_duty_12 (by decide) ?_
    refine lv_goto (tgt := 17) F.x F.b dX7_duty_13 (by decide) ?_
    refine rp F w (ws' := wMo G.2.1 mo (wrI M 0 1)) cl7 0 (at_Mo_0 _ _ _) 0 (by decide) q1547 rfl rfl rfl rfl (Nat.le_of_ble_eq_true rfl) (pt_Mo_0_0 _ _ _ _) dX7_duty_17 (fun H locs w => ?_)
    refine lv_aload_n F.x F.b dX7_duty_20 rfl (lv_at hl 1 rfl) ?_
    refine rg F w cl7 0 (at_Mo_0 _ _ _) 0 (by decide) q1547 rfl (v := .int 1) rfl dX7_duty_21 ?_
    refine lv_if_le (tgt := 31) F.x F.b dX7_duty_24 (by decide) (fun c9 => absurd c9 (by decide)) (fun _ => ?_)
    refine lv_iconst (v := 0) F.x F.b dX7_duty_27 (by decide) ?_
    refine lv_goto (tgt := 36) F.x F.b dX7_duty_28 (by decide) ?_
    obtain ⟨z0, z1⟩ := sm2 (sm h)
    exact ei F w hr hlocks rfl z0 (by rw [← z1]) dX7_duty_36
set_option maxRecDepth 100000 in
set_option maxHeartbeats 4000000 in
theorem t_X7_totalDuty {G : cG} (g : GOK G) {mo : Nat → Nat} {M : Mem} {r : Int32} {M' : Mem} (h : f_X7_totalDuty M = some (r, M')) : CI G yX7_totalDuty cX7_totalDuty 3 .int 3 64 [.ref (mo 0)] (wMo G.2.1 mo M) (wMo G.2.1 mo M') r := by
  unfold f_X7_totalDuty at h
  refine CI.of g (by decide) rfl (Nat.le_of_ble_eq_true rfl) ?_
  intro p l e s m below meth c A ls F hr hlocks w hl
  generalize ([.ref (mo 0)] : List Value).toArray = args
  have hl : lv_has ls 3 [(0, .ref (mo 0))] := hl
  have L9 : ∀ (M : Mem) {k : Int32 → Option (Int32 × Mem)} (n : Nat) (x1 : Int32) (x2 : Int32) (H : Heap) (locs : List Loc) (ls : Array Slot), Wd G A s.heap (wMo G.2.1 mo M) H locs → lv_has ls 3 [(0, .ref (mo 0)), (1, .int x1), (2, .int x2)] → f_X7_totalDuty_L9 M k n x1 x2 = some (r, M') → (∀ (x1 : Int32) (H : Heap) (locs : List Loc) (ls : Array Slot), Wd G A s.heap (wMo G.2.1 mo M) H locs → lv_has ls 3 [(1, .int x1)] → k x1 = some (r, M') → W p l e { frames := 3, cells := 0, slots := 0, locals := 64 } s m args below meth c H locs 0 0 (QI G A (wMo G.2.1 mo M') r below args s) (F0 m 33 ls [])) → W p l e { frames := 3, cells := 0, slots := 0, locals := 64 } s m args below meth c H locs 0 0 (QI G A (wMo G.2.1 mo M') r below args s) (F0 m 9 ls []) := by
    clear h w hl
    intro M k n
    induction n with
    | zero =>
      intro x1 x2 H locs ls w hl h hk
      exact nomatch (show (none : Option (Int32 × Mem)) = some (r, M') from h)
    | succ n ih =>
      intro x1 x2 H locs ls w hl h hk
      rw [f_X7_totalDuty_L9] at h
      refine lv_iload_n F.x F.b dX7_totalDuty_9 rfl (lv_at hl 2 rfl) ?_
      refine lv_aload_n F.x F.b dX7_totalDuty_10 rfl (lv_at hl 0 rfl) ?_
      refine rg F w cl7 0 (at_Mo_0 _ _ _) 1 (by decide) q1548 rfl (v := .ref (mo 1)) rfl dX7_totalDuty_11 ?_
      refine lv_iconst (v := 1) F.x F.b dX7_totalDuty_14 (by decide) ?_
      obtain ⟨g1, h⟩ := gd h
      refine ri F w 1 (n := 148) (f := M.2 0) (at_Mo_1 _ _ _) g1 dX7_totalDuty_15 ?_
      refine lv_icmp_ge (tgt := 33) F.x F.b dX7_totalDuty_16 (by decide) (fun c2 => ?_) (fun c2 => ?_)
      · have h := it c2 h
        exact hk x1 _ _ _ w (lv_sub hl [1] rfl) h
      · have h := ie c2 h
        refine lv_iload_n F.x F.b dX7_totalDuty_19 rfl (lv_at hl 1 rfl) ?_
        refine lv_aload_n F.x F.b dX7_totalDuty_20 rfl (lv_at hl 0 rfl) ?_
        refine lv_iload_n F.x F.b dX7_totalDuty_21 rfl (lv_at hl 2 rfl) ?_
        obtain ⟨r3, hc4, h⟩ := bd h
        try dsimp only at h
        refine kVi0 F w (As := [.int x2]) (rest := [.int x1]) (w1 := wMo G.2.1 mo M) (t_X7_owed F.1 hc4) m_X7_owed v_X7_owed q1812 (ci := 11) (q0 := 0) rfl rfl rfl ⟨Nat.le_of_ble_eq_true rfl, Nat.le_of_ble_eq_true rfl⟩ rfl hl.1 rfl (Nat.le_of_ble_eq_true rfl) dX7_totalDuty_22 ⟨Nat.le_of_ble_eq_true rfl, Nat.le_of_ble_eq_true rfl⟩ (fun H locs w => ?_)
        refine lv_iadd F.x F.b dX7_totalDuty_25 ?_
        refine lv_istore_n (lv' := [(1, .int (x1 + r3)), (0, .ref (mo 0)), (2, .int x2)]) F.x F.b dX7_totalDuty_26 rfl hl (by decide) rfl (fun ls hl => ?_)
        refine lv_iinc (v := (x2 + 1)) (lv' := [(2, .int (x2 + 1)), (1, .int (x1 + r3)), (0, .ref (mo 0))]) F.x F.b dX7_totalDuty_27 hl (k := 2) rfl rfl (by decide) rfl (fun ls hl => ?_)
        refine lv_goto (tgt := 9) F.x F.b dX7_totalDuty_30 (by decide) ?_
        exact ih (x1 + r3) (x2 + 1) _ _ _ w (lv_sub hl [2, 1, 0] rfl) h hk
  refine lv_aload_n F.x F.b dX7_totalDuty_0 rfl (lv_at hl 0 rfl) ?_
  refine lv_iconst (v := 0) F.x F.b dX7_totalDuty_1 (by decide) ?_
  refine rp F w (ws' := wMo G.2.1 mo (wrI M 0 0)) cl7 0 (at_Mo_0 _ _ _) 0 (by decide) q1547 rfl rfl rfl rfl (Nat.le_of_ble_eq_true rfl) (pt_Mo_0_0 _ _ _ _) dX7_totalDuty_2 (fun H locs w => ?_)
  refine lv_iconst (v := 0) F.x F.b dX7_totalDuty_5 (by decide) ?_
  refine lv_istore_n (lv' := [(1, .int 0), (0, .ref (mo 0))]) F.x F.b dX7_totalDuty_6 rfl hl (by decide) rfl (fun ls hl => ?_)
  refine lv_iconst (v := 0) F.x F.b dX7_totalDuty_7 (by decide) ?_
  refine lv_istore_n (lv' := [(2, .int 0), (1, .int 0), (0, .ref (mo 0))]) F.x F.b dX7_totalDuty_8 rfl hl (by decide) rfl (fun ls hl => ?_)
  refine L9 (wrI M 0 0) _ 0 0 _ _ _ w (lv_sub hl [2, 1, 0] rfl) h ?_
  intro y5_1 H locs ls w hl h
  try dsimp only at h
  refine lv_iload_n F.x F.b dX7_totalDuty_33 rfl (lv_at hl 0 rfl) ?_
  obtain ⟨z0, z1⟩ := sm2 (sm h)
  exact ei F w hr hlocks rfl z0 (by rw [← z1]) dX7_totalDuty_34
set_option maxRecDepth 100000 in
set_option maxHeartbeats 4000000 in
theorem t_X7_totalDutyByBays {G : cG} (g : GOK G) {mo : Nat → Nat} {M : Mem} {r : Int32} {M' : Mem} (h : f_X7_totalDutyByBays M = some (r, M')) : CI G yX7_totalDutyByBays cX7_totalDutyByBays 1 .int 4 86 [.ref (mo 0)] (wMo G.2.1 mo M) (wMo G.2.1 mo M') r := by
  unfold f_X7_totalDutyByBays at h
  refine CI.of g (by decide) rfl (Nat.le_of_ble_eq_true rfl) ?_
  intro p l e s m below meth c A ls F hr hlocks w hl
  generalize ([.ref (mo 0)] : List Value).toArray = args
  have hl : lv_has ls 1 [(0, .ref (mo 0))] := hl
  refine lv_aload_n F.x F.b dX7_totalDutyByBays_0 rfl (lv_at hl 0 rfl) ?_
  obtain ⟨⟨r1, M_2⟩, hc3, h⟩ := bd h
  try dsimp only at h
  refine kVi0 F w (As := []) (rest := []) (w1 := wMo G.2.1 mo M_2) (t_X7_totalDuty F.1 hc3) m_X7_totalDuty v_X7_totalDuty q1824 (ci := 11) (q0 := 0) rfl rfl rfl ⟨Nat.le_of_ble_eq_true rfl, Nat.le_of_ble_eq_true rfl⟩ rfl hl.1 rfl (Nat.le_of_ble_eq_true rfl) dX7_totalDutyByBays_1 ⟨Nat.le_of_ble_eq_true rfl, Nat.le_of_ble_eq_true rfl⟩ (fun H locs w => ?_)
  obtain ⟨z0, z1⟩ := sm2 (sm h)
  exact ei F w hr hlocks rfl z0 (by rw [← z1]) dX7_totalDutyByBays_4
set_option maxRecDepth 100000 in
set_option maxHeartbeats 4000000 in
theorem t_X7_passDays {G : cG} (g : GOK G) {mo : Nat → Nat} {M : Mem} {x1 : Int32} {r : Int32} {M' : Mem} (h : f_X7_passDays M x1 = some (r, M')) : CI G yX7_passDays cX7_passDays 2 .int 4 92 [.ref (mo 0), .int x1] (wMo G.2.1 mo M) (wMo G.2.1 mo M') r := by
  unfold f_X7_passDays at h
  refine CI.of g (by decide) rfl (Nat.le_of_ble_eq_true rfl) ?_
  intro p l e s m below meth c A ls F hr hlocks w hl
  generalize ([.ref (mo 0), .int x1] : List Value).toArray = args
  have hl : lv_has ls 2 [(0, .ref (mo 0)), (1, .int x1)] := hl
  refine lv_aload_n F.x F.b dX7_passDays_0 rfl (lv_at hl 0 rfl) ?_
  obtain ⟨M_1, hc2, h⟩ := bd h
  try dsimp only at h
  refine kVv0 F w (As := []) (rest := []) (w1 := wMo G.2.1 mo M_1) (t_X7_remembers F.1 hc2) m_X7_remembers v_X7_remembers q1622 (ci := 11) (q0 := 0) rfl rfl rfl ⟨Nat.le_of_ble_eq_true rfl, Nat.le_of_ble_eq_true rfl⟩ rfl hl.1 rfl (Nat.le_of_ble_eq_true rfl) dX7_passDays_1 ⟨Nat.le_of_ble_eq_true rfl, Nat.le_of_ble_eq_true rfl⟩ (fun H locs w => ?_)
  refine lv_aload_n F.x F.b dX7_passDays_4 rfl (lv_at hl 0 rfl) ?_
  refine lv_aload_n F.x F.b dX7_passDays_5 rfl (lv_at hl 0 rfl) ?_
  refine lv_iload_n F.x F.b dX7_passDays_6 rfl (lv_at hl 1 rfl) ?_
  obtain ⟨⟨r3, M_4⟩, hc5, h⟩ := bd h
  try dsimp only at h
  refine kVi0 F w (As := [.int x1]) (rest := [.ref (mo 0)]) (w1 := wMo G.2.1 mo M_4) (t_X7_passes F.1 hc5) m_X7_passes v_X7_passes q1829 (ci := 11) (q0 := 0) rfl rfl rfl ⟨Nat.le_of_ble_eq_true rfl, Nat.le_of_ble_eq_true rfl⟩ rfl hl.1 rfl (Nat.le_of_ble_eq_true rfl) dX7_passDays_7 ⟨Nat.le_of_ble_eq_true rfl, Nat.le_of_ble_eq_true rfl⟩ (fun H locs w => ?_)
  obtain ⟨⟨r6, M_7⟩, hc8, h⟩ := bd h
  try dsimp only at h
  refine kVi0 F w (As := [.int r3]) (rest := []) (w1 := wMo G.2.1 mo M_7) (t_X7_ends F.1 hc8) m_X7_ends v_X7_ends q1655 (ci := 11) (q0 := 0) rfl rfl rfl ⟨Nat.le_of_ble_eq_true rfl, Nat.le_of_ble_eq_true rfl⟩ rfl hl.1 rfl (Nat.le_of_ble_eq_true rfl) dX7_passDays_10 ⟨Nat.le_of_ble_eq_true rfl, Nat.le_of_ble_eq_true rfl⟩ (fun H locs w => ?_)
  obtain ⟨z0, z1⟩ := sm2 (sm h)
  exact ei F w hr hlocks rfl z0 (by rw [← z1]) dX7_passDays_13
set_option maxRecDepth 100000 in
set_option maxHeartbeats 4000000 in
theorem t_X7_day {G : cG} (g : GOK G) {mo : Nat → Nat} {M : Mem} {r : Int32} {M' : Mem} (h : f_X7_day M = some (r, M')) : CI G yX7_day cX7_day 1 .int 0 0 [.ref (mo 0)] (wMo G.2.1 mo M) (wMo G.2.1 mo M') r := by
  unfold f_X7_day at h
  refine CI.of g (by decide) rfl (Nat.le_of_ble_eq_true rfl) ?_
  intro p l e s m below meth c A ls F hr hlocks w hl
  generalize ([.ref (mo 0)] : List Value).toArray = args
  have hl : lv_has ls 1 [(0, .ref (mo 0))] := hl
  refine lv_aload_n F.x F.b dX7_day_0 rfl (lv_at hl 0 rfl) ?_
  refine lv_iconst (v := 0) F.x F.b dX7_day_1 (by decide) ?_
  refine rp F w (ws' := wMo G.2.1 mo (wrI M 0 0)) cl7 0 (at_Mo_0 _ _ _) 0 (by decide) q1547 rfl rfl rfl rfl (Nat.le_of_ble_eq_true rfl) (pt_Mo_0_0 _ _ _ _) dX7_day_2 (fun H locs w => ?_)
  refine lv_aload_n F.x F.b dX7_day_5 rfl (lv_at hl 0 rfl) ?_
  refine rg F w cl7 0 (at_Mo_0 _ _ _) 1 (by decide) q1548 rfl (v := .ref (mo 1)) rfl dX7_day_6 ?_
  refine lv_iconst (v := 3) F.x F.b dX7_day_9 (by decide) ?_
  obtain ⟨g1, h⟩ := gd h
  refine ri F w 1 (n := 148) (f := (wrI M 0 0).2 0) (at_Mo_1 _ _ _) g1 dX7_day_10 ?_
  obtain ⟨z0, z1⟩ := sm2 (sm h)
  exact ei F w hr hlocks rfl z0 (by rw [← z1]) dX7_day_11
set_option maxRecDepth 100000 in
set_option maxHeartbeats 4000000 in
theorem t_X7_dampCount {G : cG} (g : GOK G) {mo : Nat → Nat} {M : Mem} {r : Int32} {M' : Mem} (h : f_X7_dampCount M = some (r, M')) : CI G yX7_dampCount cX7_dampCount 1 .int 2 45 [.ref (mo 0)] (wMo G.2.1 mo M) (wMo G.2.1 mo M') r := by
  unfold f_X7_dampCount at h
  refine CI.of g (by decide) rfl (Nat.le_of_ble_eq_true rfl) ?_
  intro p l e s m below meth c A ls F hr hlocks w hl
  generalize ([.ref (mo 0)] : List Value).toArray = args
  have hl : lv_has ls 1 [(0, .ref (mo 0))] := hl
  refine lv_aload_n F.x F.b dX7_dampCount_0 rfl (lv_at hl 0 rfl) ?_
  refine lv_iconst (v := 0) F.x F.b dX7_dampCount_1 (by decide) ?_
  refine rp F w (ws' := wMo G.2.1 mo (wrI M 0 0)) cl7 0 (at_Mo_0 _ _ _) 0 (by decide) q1547 rfl rfl rfl rfl (Nat.le_of_ble_eq_true rfl) (pt_Mo_0_0 _ _ _ _) dX7_dampCount_2 (fun H locs w => ?_)
  refine lv_aload_n F.x F.b dX7_dampCount_5 rfl (lv_at hl 0 rfl) ?_
  refine lv_bipush (v := 6) F.x F.b dX7_dampCount_6 (by decide) ?_
  obtain ⟨r1, hc2, h⟩ := bd h
  try dsimp only at h
  refine kVi0 F w (As := [.int 6]) (rest := []) (w1 := wMo G.2.1 mo (wrI M 0 0)) (t_X7_many F.1 hc2) m_X7_many v_X7_many q1679 (ci := 11) (q0 := 0) rfl rfl rfl ⟨Nat.le_of_ble_eq_true rfl, Nat.le_of_ble_eq_true rfl⟩ rfl hl.1 rfl (Nat.le_of_ble_eq_true rfl) dX7_dampCount_8 ⟨Nat.le_of_ble_eq_true rfl, Nat.le_of_ble_eq_true rfl⟩ (fun H locs w => ?_)
  obtain ⟨z0, z1⟩ := sm2 (sm h)
  exact ei F w hr hlocks rfl z0 (by rw [← z1]) dX7_dampCount_11
set_option maxRecDepth 100000 in
set_option maxHeartbeats 4000000 in
theorem t_X7_dampAfter {G : cG} (g : GOK G) {mo : Nat → Nat} {M : Mem} {x1 : Int32} {r : Int32} {M' : Mem} (h : f_X7_dampAfter M x1 = some (r, M')) : CI G yX7_dampAfter cX7_dampAfter 5 .int 3 69 [.ref (mo 0), .int x1] (wMo G.2.1 mo M) (wMo G.2.1 mo M') r := by
  unfold f_X7_dampAfter at h
  refine CI.of g (by decide) rfl (Nat.le_of_ble_eq_true rfl) ?_
  intro p l e s m below meth c A ls F hr hlocks w hl
  generalize ([.ref (mo 0), .int x1] : List Value).toArray = args
  have hl : lv_has ls 5 [(0, .ref (mo 0)), (1, .int x1)] := hl
  have L30 : ∀ (x1 : Int32) {k : Mem → Option (Int32 × Mem)} (n : Nat) (x2 : Int32) (M : Mem) (H : Heap) (locs : List Loc) (ls : Array Slot), Wd G A s.heap (wMo G.2.1 mo M) H locs → lv_has ls 5 [(0, .ref (mo 0)), (1, .int x1), (2, .int x2)] → f_X7_dampAfter_L30 x1 k n x2 M = some (r, M') → (∀ (M : Mem) (H : Heap) (locs : List Loc) (ls : Array Slot), Wd G A s.heap (wMo G.2.1 mo M) H locs → lv_has ls 5 [(0, .ref (mo 0)), (1, .int x1)] → k M = some (r, M') → W p l e { frames := 3, cells := 0, slots := 0, locals := 69 } s m args below meth c H locs 0 0 (QI G A (wMo G.2.1 mo M') r below args s) (F0 m 55 ls [])) → W p l e { frames := 3, cells := 0, slots := 0, locals := 69 } s m args below meth c H locs 0 0 (QI G A (wMo G.2.1 mo M') r below args s) (F0 m 30 ls []) := by
    clear h w hl
    intro x1 k n
    induction n with
    | zero =>
      intro x2 M H locs ls w hl h hk
      exact nomatch (show (none : Option (Int32 × Mem)) = some (r, M') from h)
    | succ n ih =>
      intro x2 M H locs ls w hl h hk
      rw [f_X7_dampAfter_L30] at h
      refine lv_iload_n F.x F.b dX7_dampAfter_30 rfl (lv_at hl 2 rfl) ?_
      refine lv_sipush (v := 148) F.x F.b dX7_dampAfter_31 (by decide) ?_
      refine lv_icmp_ge (tgt := 55) F.x F.b dX7_dampAfter_34 (by decide) (fun c4 => ?_) (fun c4 => ?_)
      · have h := it c4 h
        exact hk M _ _ _ w (lv_sub hl [0, 1] rfl) h
      · have h := ie c4 h
        refine lv_aload_n F.x F.b dX7_dampAfter_37 rfl (lv_at hl 0 rfl) ?_
        refine rg F w cl7 0 (at_Mo_0 _ _ _) 5 (by decide) q1552 rfl (v := .ref (mo 5)) rfl dX7_dampAfter_38 ?_
        refine lv_iload_n F.x F.b dX7_dampAfter_41 rfl (lv_at hl 2 rfl) ?_
        refine lv_aload_n F.x F.b dX7_dampAfter_42 rfl (lv_at hl 0 rfl) ?_
        refine rg F w cl7 0 (at_Mo_0 _ _ _) 1 (by decide) q1548 rfl (v := .ref (mo 1)) rfl dX7_dampAfter_43 ?_
        refine lv_iload_n F.x F.b dX7_dampAfter_46 rfl (lv_at hl 2 rfl) ?_
        obtain ⟨g5, h⟩ := gd h
        refine ri F w 1 (n := 148) (f := M.2 0) (at_Mo_1 _ _ _) g5 dX7_dampAfter_47 ?_
        obtain ⟨g6, h⟩ := gd h
        refine ris F w (ws' := wMo G.2.1 mo (wrA M 4 x2 (M.2 0 (Int32.toNatClampNeg x2)))) 5 (n := 148) (f := M.2 4) (at_Mo_5 _ _ _) g6 (st_Mo_5 _ _ _ _ _) dX7_dampAfter_48 (fun H locs w => ?_)
        refine lv_iinc (v := (x2 + 1)) (lv' := [(2, .int (x2 + 1)), (0, .ref (mo 0)), (1, .int x1)]) F.x F.b dX7_dampAfter_49 hl (k := 2) rfl rfl (by decide) rfl (fun ls hl => ?_)
        refine lv_goto (tgt := 30) F.x F.b dX7_dampAfter_52 (by decide) ?_
        exact ih (x2 + 1) (wrA M 4 x2 (M.2 0 (Int32.toNatClampNeg x2))) _ _ _ w (lv_sub hl [1, 2, 0] rfl) h hk
  have L59 : ∀ (x1 : Int32) {k : Mem → Option (Int32 × Mem)} (n : Nat) (x2 : Int32) (x3 : Int32) (M : Mem) (H : Heap) (locs : List Loc) (ls : Array Slot), Wd G A s.heap (wMo G.2.1 mo M) H locs → lv_has ls 5 [(0, .ref (mo 0)), (1, .int x1), (2, .int x2), (3, .int x3)] → f_X7_dampAfter_L59 x1 k n x2 x3 M = some (r, M') → (∀ (M : Mem) (H : Heap) (locs : List Loc) (ls : Array Slot), Wd G A s.heap (wMo G.2.1 mo M) H locs → lv_has ls 5 [(0, .ref (mo 0))] → k M = some (r, M') → W p l e { frames := 3, cells := 0, slots := 0, locals := 69 } s m args below meth c H locs 0 0 (QI G A (wMo G.2.1 mo M') r below args s) (F0 m 77 ls [])) → W p l e { frames := 3, cells := 0, slots := 0, locals := 69 } s m args below meth c H locs 0 0 (QI G A (wMo G.2.1 mo M') r below args s) (F0 m 59 ls []) := by
    clear h w hl
    intro x1 k n
    induction n with
    | zero =>
      intro x2 x3 M H locs ls w hl h hk
      exact nomatch (show (none : Option (Int32 × Mem)) = some (r, M') from h)
    | succ n ih =>
      intro x2 x3 M H locs ls w hl h hk
      rw [f_X7_dampAfter_L59] at h
      refine lv_iload_n F.x F.b dX7_dampAfter_59 rfl (lv_at hl 3 rfl) ?_
      refine lv_iload_n F.x F.b dX7_dampAfter_60 rfl (lv_at hl 1 rfl) ?_
      refine lv_icmp_ge (tgt := 77) F.x F.b dX7_dampAfter_61 (by decide) (fun c8 => ?_) (fun c8 => ?_)
      · have h := it c8 h
        exact hk M _ _ _ w (lv_sub hl [0] rfl) h
      · have h := ie c8 h
        refine lv_iload_n F.x F.b dX7_dampAfter_64 rfl (lv_at hl 2 rfl) ?_
        refine lv_aload_n F.x F.b dX7_dampAfter_65 rfl (lv_at hl 0 rfl) ?_
        obtain ⟨⟨r9, M_10⟩, hc11, h⟩ := bd h
        try dsimp only at h
        refine kVi0 F w (As := []) (rest := [.int x2]) (w1 := wMo G.2.1 mo M_10) (t_X7_oneDay F.1 hc11) m_X7_oneDay v_X7_oneDay q1833 (ci := 11) (q0 := 0) rfl rfl rfl ⟨Nat.le_of_ble_eq_true rfl, Nat.le_of_ble_eq_true rfl⟩ rfl hl.1 rfl (Nat.le_of_ble_eq_true rfl) dX7_dampAfter_66 ⟨Nat.le_of_ble_eq_true rfl, Nat.le_of_ble_eq_true rfl⟩ (fun H locs w => ?_)
        refine lv_iadd F.x F.b dX7_dampAfter_69 ?_
        refine lv_istore_n (lv' := [(2, .int (x2 + r9)), (0, .ref (mo 0)), (1, .int x1), (3, .int x3)]) F.x F.b dX7_dampAfter_70 rfl hl (by decide) rfl (fun ls hl => ?_)
        refine lv_iinc (v := (x3 + 1)) (lv' := [(3, .int (x3 + 1)), (2, .int (x2 + r9)), (0, .ref (mo 0)), (1, .int x1)]) F.x F.b dX7_dampAfter_71 hl (k := 3) rfl rfl (by decide) rfl (fun ls hl => ?_)
        refine lv_goto (tgt := 59) F.x F.b dX7_dampAfter_74 (by decide) ?_
        exact ih (x2 + r9) (x3 + 1) M_10 _ _ _ w (lv_sub hl [2, 3, 1, 0] rfl) h hk
  have L87 : ∀ (x3 : Int32) {k : Mem → Option (Int32 × Mem)} (n : Nat) (x4 : Int32) (M : Mem) (H : Heap) (locs : List Loc) (ls : Array Slot), Wd G A s.heap (wMo G.2.1 mo M) H locs → lv_has ls 5 [(0, .ref (mo 0)), (3, .int x3), (4, .int x4)] → f_X7_dampAfter_L87 x3 k n x4 M = some (r, M') → (∀ (M : Mem) (H : Heap) (locs : List Loc) (ls : Array Slot), Wd G A s.heap (wMo G.2.1 mo M) H locs → lv_has ls 5 [(3, .int x3)] → k M = some (r, M') → W p l e { frames := 3, cells := 0, slots := 0, locals := 69 } s m args below meth c H locs 0 0 (QI G A (wMo G.2.1 mo M') r below args s) (F0 m 115 ls [])) → W p l e { frames := 3, cells := 0, slots := 0, locals := 69 } s m args below meth c H locs 0 0 (QI G A (wMo G.2.1 mo M') r below args s) (F0 m 87 ls []) := by
    clear h w hl
    intro x3 k n
    induction n with
    | zero =>
      intro x4 M H locs ls w hl h hk
      exact nomatch (show (none : Option (Int32 × Mem)) = some (r, M') from h)
    | succ n ih =>
      intro x4 M H locs ls w hl h hk
      rw [f_X7_dampAfter_L87] at h
      refine lv_iload F.x F.b dX7_dampAfter_87 (lv_at hl 2 rfl) ?_
      refine lv_sipush (v := 148) F.x F.b dX7_dampAfter_89 (by decide) ?_
      refine lv_icmp_ge (tgt := 115) F.x F.b dX7_dampAfter_92 (by decide) (fun c15 => ?_) (fun c15 => ?_)
      · have h := it c15 h
        exact hk M _ _ _ w (lv_sub hl [1] rfl) h
      · have h := ie c15 h
        refine lv_aload_n F.x F.b dX7_dampAfter_95 rfl (lv_at hl 0 rfl) ?_
        refine rg F w cl7 0 (at_Mo_0 _ _ _) 1 (by decide) q1548 rfl (v := .ref (mo 1)) rfl dX7_dampAfter_96 ?_
        refine lv_iload F.x F.b dX7_dampAfter_99 (lv_at hl 2 rfl) ?_
        refine lv_aload_n F.x F.b dX7_dampAfter_101 rfl (lv_at hl 0 rfl) ?_
        refine rg F w cl7 0 (at_Mo_0 _ _ _) 5 (by decide) q1552 rfl (v := .ref (mo 5)) rfl dX7_dampAfter_102 ?_
        refine lv_iload F.x F.b dX7_dampAfter_105 (lv_at hl 2 rfl) ?_
        obtain ⟨g16, h⟩ := gd h
        refine ri F w 5 (n := 148) (f := M.2 4) (at_Mo_5 _ _ _) g16 dX7_dampAfter_107 ?_
        obtain ⟨g17, h⟩ := gd h
        refine ris F w (ws' := wMo G.2.1 mo (wrA M 0 x4 (M.2 4 (Int32.toNatClampNeg x4)))) 1 (n := 148) (f := M.2 0) (at_Mo_1 _ _ _) g17 (st_Mo_1 _ _ _ _ _) dX7_dampAfter_108 (fun H locs w => ?_)
        refine lv_iinc (v := (x4 + 1)) (lv' := [(4, .int (x4 + 1)), (0, .ref (mo 0)), (3, .int x3)]) F.x F.b dX7_dampAfter_109 hl (k := 2) rfl rfl (by decide) rfl (fun ls hl => ?_)
        refine lv_goto (tgt := 87) F.x F.b dX7_dampAfter_112 (by decide) ?_
        exact ih (x4 + 1) (wrA M 0 x4 (M.2 4 (Int32.toNatClampNeg x4))) _ _ _ w (lv_sub hl [1, 2, 0] rfl) h hk
  refine lv_aload_n F.x F.b dX7_dampAfter_0 rfl (lv_at hl 0 rfl) ?_
  refine lv_iload_n F.x F.b dX7_dampAfter_1 rfl (lv_at hl 1 rfl) ?_
  refine lv_iconst (v := 0) F.x F.b dX7_dampAfter_2 (by decide) ?_
  refine lv_bipush (v := 30) F.x F.b dX7_dampAfter_3 (by decide) ?_
  obtain ⟨r1, hc2, h⟩ := bd h
  try dsimp only at h
  refine kSi F w (t_X7_in F.1 hc2) m_X7_in v_X7_in q1633 (As := [.int x1, .int 0, .int 30]) (rest := [.ref (mo 0)]) ⟨Nat.le_of_ble_eq_true rfl, Nat.le_of_ble_eq_true rfl⟩ rfl hl.1 rfl (Nat.le_of_ble_eq_true rfl) dX7_dampAfter_5 ⟨Nat.le_of_ble_eq_true rfl, Nat.le_of_ble_eq_true rfl⟩ (fun H locs w => ?_)
  refine lv_if_eq (tgt := 15) F.x F.b dX7_dampAfter_8 (by decide) (fun c3 => ?_) (fun c3 => ?_)
  · have h := it c3 h
    refine lv_iconst (v := 1) F.x F.b dX7_dampAfter_15 (by decide) ?_
    refine rp F w (ws' := wMo G.2.1 mo (wrI M 0 1)) cl7 0 (at_Mo_0 _ _ _) 0 (by decide) q1547 rfl rfl rfl rfl (Nat.le_of_ble_eq_true rfl) (pt_Mo_0_0 _ _ _ _) dX7_dampAfter_16 (fun H locs w => ?_)
    refine lv_aload_n F.x F.b dX7_dampAfter_19 rfl (lv_at hl 0 rfl) ?_
    refine rg F w cl7 0 (at_Mo_0 _ _ _) 0 (by decide) q1547 rfl (v := .int 1) rfl dX7_dampAfter_20 ?_
    refine lv_if_le (tgt := 28) F.x F.b dX7_dampAfter_23 (by decide) (fun c9 => absurd c9 (by decide)) (fun _ => ?_)
    refine lv_iconst (v := 0) F.x F.b dX7_dampAfter_26 (by decide) ?_
    obtain ⟨z0, z1⟩ := sm2 (sm h)
    exact ei F w hr hlocks rfl z0 (by rw [← z1]) dX7_dampAfter_27
  · have h := ie c3 h
    refine lv_iconst (v := 0) F.x F.b dX7_dampAfter_11 (by decide) ?_
    refine lv_goto (tgt := 16) F.x F.b dX7_dampAfter_12 (by decide) ?_
    refine rp F w (ws' := wMo G.2.1 mo (wrI M 0 0)) cl7 0 (at_Mo_0 _ _ _) 0 (by decide) q1547 rfl rfl rfl rfl (Nat.le_of_ble_eq_true rfl) (pt_Mo_0_0 _ _ _ _) dX7_dampAfter_16 (fun H locs w => ?_)
    refine lv_aload_n F.x F.b dX7_dampAfter_19 rfl (lv_at hl 0 rfl) ?_
    refine rg F w cl7 0 (at_Mo_0 _ _ _) 0 (by decide) q1547 rfl (v := .int 0) rfl dX7_dampAfter_20 ?_
    refine lv_if_le (tgt := 28) F.x F.b dX7_dampAfter_23 (by decide) (fun _ => ?_) (fun c9 => absurd (by decide) c9)
    refine lv_iconst (v := 0) F.x F.b dX7_dampAfter_28 (by decide) ?_
    refine lv_istore_n (lv' := [(2, .int 0), (0, .ref (mo 0)), (1, .int x1)]) F.x F.b dX7_dampAfter_29 rfl hl (by decide) rfl (fun ls hl => ?_)
    refine L30 x1 _ 0 (wrI M 0 0) _ _ _ w (lv_sub hl [1, 2, 0] rfl) h ?_
    intro M_7 H locs ls w hl h
    try dsimp only at h
    refine lv_iconst (v := 0) F.x F.b dX7_dampAfter_55 (by decide) ?_
    refine lv_istore_n (lv' := [(2, .int 0), (0, .ref (mo 0)), (1, .int x1)]) F.x F.b dX7_dampAfter_56 rfl hl (by decide) rfl (fun ls hl => ?_)
    refine lv_iconst (v := 0) F.x F.b dX7_dampAfter_57 (by decide) ?_
    refine lv_istore_n (lv' := [(3, .int 0), (2, .int 0), (0, .ref (mo 0)), (1, .int x1)]) F.x F.b dX7_dampAfter_58 rfl hl (by decide) rfl (fun ls hl => ?_)
    refine L59 x1 _ 0 0 M_7 _ _ _ w (lv_sub hl [2, 3, 1, 0] rfl) h ?_
    intro M_12 H locs ls w hl h
    try dsimp only at h
    refine lv_aload_n F.x F.b dX7_dampAfter_77 rfl (lv_at hl 0 rfl) ?_
    refine lv_bipush (v := 6) F.x F.b dX7_dampAfter_78 (by decide) ?_
    obtain ⟨r13, hc14, h⟩ := bd h
    try dsimp only at h
    refine kVi0 F w (As := [.int 6]) (rest := []) (w1 := wMo G.2.1 mo M_12) (t_X7_many F.1 hc14) m_X7_many v_X7_many q1679 (ci := 11) (q0 := 0) rfl rfl rfl ⟨Nat.le_of_ble_eq_true rfl, Nat.le_of_ble_eq_true rfl⟩ rfl hl.1 rfl (Nat.le_of_ble_eq_true rfl) dX7_dampAfter_80 ⟨Nat.le_of_ble_eq_true rfl, Nat.le_of_ble_eq_true rfl⟩ (fun H locs w => ?_)
    refine lv_istore_n (lv' := [(3, .int r13), (0, .ref (mo 0))]) F.x F.b dX7_dampAfter_83 rfl hl (by decide) rfl (fun ls hl => ?_)
    refine lv_iconst (v := 0) F.x F.b dX7_dampAfter_84 (by decide) ?_
    refine lv_istore (lv' := [(4, .int 0), (3, .int r13), (0, .ref (mo 0))]) F.x F.b dX7_dampAfter_85 hl (by decide) rfl (fun ls hl => ?_)
    refine L87 r13 _ 0 M_12 _ _ _ w (lv_sub hl [2, 1, 0] rfl) h ?_
    intro M_18 H locs ls w hl h
    try dsimp only at h
    refine lv_iload_n F.x F.b dX7_dampAfter_115 rfl (lv_at hl 0 rfl) ?_
    obtain ⟨z0, z1⟩ := sm2 (sm h)
    exact ei F w hr hlocks rfl z0 (by rw [← z1]) dX7_dampAfter_116
set_option maxRecDepth 100000 in
set_option maxHeartbeats 4000000 in
theorem t_X7_dampReach {G : cG} (g : GOK G) {mo : Nat → Nat} {M : Mem} {r : Int32} {M' : Mem} (h : f_X7_dampReach M = some (r, M')) : CI G yX7_dampReach cX7_dampReach 4 .int 1 22 [.ref (mo 0)] (wMo G.2.1 mo M) (wMo G.2.1 mo M') r := by
  unfold f_X7_dampReach at h
  refine CI.of g (by decide) rfl (Nat.le_of_ble_eq_true rfl) ?_
  intro p l e s m below meth c A ls F hr hlocks w hl
  generalize ([.ref (mo 0)] : List Value).toArray = args
  have hl : lv_has ls 4 [(0, .ref (mo 0))] := hl
  have L7 : ∀ {k : Mem → Option (Int32 × Mem)} (n : Nat) (x1 : Int32) (M : Mem) (H : Heap) (locs : List Loc) (ls : Array Slot), Wd G A s.heap (wMo G.2.1 mo M) H locs → lv_has ls 4 [(0, .ref (mo 0)), (1, .int x1)] → f_X7_dampReach_L7 k n x1 M = some (r, M') → (∀ (M : Mem) (H : Heap) (locs : List Loc) (ls : Array Slot), Wd G A s.heap (wMo G.2.1 mo M) H locs → lv_has ls 4 [(0, .ref (mo 0))] → k M = some (r, M') → W p l e { frames := 1, cells := 0, slots := 0, locals := 22 } s m args below meth c H locs 0 0 (QI G A (wMo G.2.1 mo M') r below args s) (F0 m 26 ls [])) → W p l e { frames := 1, cells := 0, slots := 0, locals := 22 } s m args below meth c H locs 0 0 (QI G A (wMo G.2.1 mo M') r below args s) (F0 m 7 ls []) := by
    clear h w hl
    intro k n
    induction n with
    | zero =>
      intro x1 M H locs ls w hl h hk
      exact nomatch (show (none : Option (Int32 × Mem)) = some (r, M') from h)
    | succ n ih =>
      intro x1 M H locs ls w hl h hk
      rw [f_X7_dampReach_L7] at h
      refine lv_iload_n F.x F.b dX7_dampReach_7 rfl (lv_at hl 1 rfl) ?_
      refine lv_bipush (v := 24) F.x F.b dX7_dampReach_8 (by decide) ?_
      refine lv_icmp_ge (tgt := 26) F.x F.b dX7_dampReach_10 (by decide) (fun c1 => ?_) (fun c1 => ?_)
      · have h := it c1 h
        exact hk M _ _ _ w (lv_sub hl [0] rfl) h
      · have h := ie c1 h
        refine lv_aload_n F.x F.b dX7_dampReach_13 rfl (lv_at hl 0 rfl) ?_
        refine rg F w cl7 0 (at_Mo_0 _ _ _) 12 (by decide) q1559 rfl (v := .ref (mo 10)) rfl dX7_dampReach_14 ?_
        refine lv_iload_n F.x F.b dX7_dampReach_17 rfl (lv_at hl 1 rfl) ?_
        refine lv_iconst (v := 0) F.x F.b dX7_dampReach_18 (by decide) ?_
        obtain ⟨g2, h⟩ := gd h
        refine ris F w (ws' := wMo G.2.1 mo (wrA M 9 x1 0)) 10 (n := 24) (f := M.2 9) (at_Mo_10 _ _ _) g2 (st_Mo_10 _ _ _ _ _) dX7_dampReach_19 (fun H locs w => ?_)
        refine lv_iinc (v := (x1 + 1)) (lv' := [(1, .int (x1 + 1)), (0, .ref (mo 0))]) F.x F.b dX7_dampReach_20 hl (k := 1) rfl rfl (by decide) rfl (fun ls hl => ?_)
        refine lv_goto (tgt := 7) F.x F.b dX7_dampReach_23 (by decide) ?_
        exact ih (x1 + 1) (wrA M 9 x1 0) _ _ _ w (lv_sub hl [1, 0] rfl) h hk
  have L28 : ∀ {k : Mem → Option (Int32 × Mem)} (n : Nat) (x1 : Int32) (M : Mem) (H : Heap) (locs : List Loc) (ls : Array Slot), Wd G A s.heap (wMo G.2.1 mo M) H locs → lv_has ls 4 [(0, .ref (mo 0)), (1, .int x1)] → f_X7_dampReach_L28 k n x1 M = some (r, M') → (∀ (M : Mem) (H : Heap) (locs : List Loc) (ls : Array Slot), Wd G A s.heap (wMo G.2.1 mo M) H locs → lv_has ls 4 [(0, .ref (mo 0))] → k M = some (r, M') → W p l e { frames := 1, cells := 0, slots := 0, locals := 22 } s m args below meth c H locs 0 0 (QI G A (wMo G.2.1 mo M') r below args s) (F0 m 62 ls [])) → W p l e { frames := 1, cells := 0, slots := 0, locals := 22 } s m args below meth c H locs 0 0 (QI G A (wMo G.2.1 mo M') r below args s) (F0 m 28 ls []) := by
    clear h w hl
    intro k n
    induction n with
    | zero =>
      intro x1 M H locs ls w hl h hk
      exact nomatch (show (none : Option (Int32 × Mem)) = some (r, M') from h)
    | succ n ih =>
      intro x1 M H locs ls w hl h hk
      rw [f_X7_dampReach_L28] at h
      refine lv_iload_n F.x F.b dX7_dampReach_28 rfl (lv_at hl 1 rfl) ?_
      refine lv_aload_n F.x F.b dX7_dampReach_29 rfl (lv_at hl 0 rfl) ?_
      refine rg F w cl7 0 (at_Mo_0 _ _ _) 1 (by decide) q1548 rfl (v := .ref (mo 1)) rfl dX7_dampReach_30 ?_
      refine lv_iconst (v := 1) F.x F.b dX7_dampReach_33 (by decide) ?_
      obtain ⟨g4, h⟩ := gd h
      refine ri F w 1 (n := 148) (f := M.2 0) (at_Mo_1 _ _ _) g4 dX7_dampReach_34 ?_
      refine lv_icmp_ge (tgt := 62) F.x F.b dX7_dampReach_35 (by decide) (fun c5 => ?_) (fun c5 => ?_)
      · have h := it c5 h
        exact hk M _ _ _ w (lv_sub hl [0] rfl) h
      · have h := ie c5 h
        refine lv_aload_n F.x F.b dX7_dampReach_38 rfl (lv_at hl 0 rfl) ?_
        refine rg F w cl7 0 (at_Mo_0 _ _ _) 12 (by decide) q1559 rfl (v := .ref (mo 10)) rfl dX7_dampReach_39 ?_
        refine lv_aload_n F.x F.b dX7_dampReach_42 rfl (lv_at hl 0 rfl) ?_
        refine lv_iload_n F.x F.b dX7_dampReach_43 rfl (lv_at hl 1 rfl) ?_
        refine lv_iconst (v := 4) F.x F.b dX7_dampReach_44 (by decide) ?_
        obtain ⟨r6, hc7, h⟩ := bd h
        try dsimp only at h
        refine kVi0 F w (As := [.int x1, .int 4]) (rest := [.ref (mo 10)]) (w1 := wMo G.2.1 mo M) (t_X7_of F.1 hc7) m_X7_of v_X7_of q1643 (ci := 11) (q0 := 0) rfl rfl rfl ⟨Nat.le_of_ble_eq_true rfl, Nat.le_of_ble_eq_true rfl⟩ rfl hl.1 rfl (Nat.le_of_ble_eq_true rfl) dX7_dampReach_45 ⟨Nat.le_of_ble_eq_true rfl, Nat.le_of_ble_eq_true rfl⟩ (fun H locs w => ?_)
        refine lv_aload_n F.x F.b dX7_dampReach_48 rfl (lv_at hl 0 rfl) ?_
        refine lv_iload_n F.x F.b dX7_dampReach_49 rfl (lv_at hl 1 rfl) ?_
        refine lv_bipush (v := 6) F.x F.b dX7_dampReach_50 (by decide) ?_
        obtain ⟨r8, hc9, h⟩ := bd h
        try dsimp only at h
        refine kVi0 F w (As := [.int x1, .int 6]) (rest := [.int r6, .ref (mo 10)]) (w1 := wMo G.2.1 mo M) (t_X7_of F.1 hc9) m_X7_of v_X7_of q1643 (ci := 11) (q0 := 0) rfl rfl rfl ⟨Nat.le_of_ble_eq_true rfl, Nat.le_of_ble_eq_true rfl⟩ rfl hl.1 rfl (Nat.le_of_ble_eq_true rfl) dX7_dampReach_52 ⟨Nat.le_of_ble_eq_true rfl, Nat.le_of_ble_eq_true rfl⟩ (fun H locs w => ?_)
        obtain ⟨g10, h⟩ := gd h
        refine ris F w (ws' := wMo G.2.1 mo (wrA M 9 r6 r8)) 10 (n := 24) (f := M.2 9) (at_Mo_10 _ _ _) g10 (st_Mo_10 _ _ _ _ _) dX7_dampReach_55 (fun H locs w => ?_)
        refine lv_iinc (v := (x1 + 1)) (lv' := [(1, .int (x1 + 1)), (0, .ref (mo 0))]) F.x F.b dX7_dampReach_56 hl (k := 1) rfl rfl (by decide) rfl (fun ls hl => ?_)
        refine lv_goto (tgt := 28) F.x F.b dX7_dampReach_59 (by decide) ?_
        exact ih (x1 + 1) (wrA M 9 r6 r8) _ _ _ w (lv_sub hl [1, 0] rfl) h hk
  have L72 : ∀ (x1 : Int32) {k : Mem → Option (Int32 × Mem)} (n : Nat) (x2 : Int32) (M : Mem) (H : Heap) (locs : List Loc) (ls : Array Slot), Wd G A s.heap (wMo G.2.1 mo M) H locs → lv_has ls 4 [(0, .ref (mo 0)), (1, .int x1), (2, .int x2)] → f_X7_dampReach_L72 x1 k n x2 M = some (r, M') → (∀ (M : Mem) (H : Heap) (locs : List Loc) (ls : Array Slot), Wd G A s.heap (wMo G.2.1 mo M) H locs → lv_has ls 4 [(0, .ref (mo 0)), (1, .int x1)] → k M = some (r, M') → W p l e { frames := 1, cells := 0, slots := 0, locals := 22 } s m args below meth c H locs 0 0 (QI G A (wMo G.2.1 mo M') r below args s) (F0 m 147 ls [])) → W p l e { frames := 1, cells := 0, slots := 0, locals := 22 } s m args below meth c H locs 0 0 (QI G A (wMo G.2.1 mo M') r below args s) (F0 m 72 ls []) := by
    clear h w hl
    intro x1 k n
    induction n with
    | zero =>
      intro x2 M H locs ls w hl h hk
      exact nomatch (show (none : Option (Int32 × Mem)) = some (r, M') from h)
    | succ n ih =>
      intro x2 M H locs ls w hl h hk
      rw [f_X7_dampReach_L72] at h
      refine lv_iload_n F.x F.b dX7_dampReach_72 rfl (lv_at hl 2 rfl) ?_
      refine lv_aload_n F.x F.b dX7_dampReach_73 rfl (lv_at hl 0 rfl) ?_
      refine rg F w cl7 0 (at_Mo_0 _ _ _) 1 (by decide) q1548 rfl (v := .ref (mo 1)) rfl dX7_dampReach_74 ?_
      refine lv_iconst (v := 1) F.x F.b dX7_dampReach_77 (by decide) ?_
      obtain ⟨g13, h⟩ := gd h
      refine ri F w 1 (n := 148) (f := M.2 0) (at_Mo_1 _ _ _) g13 dX7_dampReach_78 ?_
      refine lv_icmp_ge (tgt := 147) F.x F.b dX7_dampReach_79 (by decide) (fun c14 => ?_) (fun c14 => ?_)
      · have h := it c14 h
        exact hk M _ _ _ w (lv_sub hl [0, 1] rfl) h
      · have h := ie c14 h
        refine lv_aload_n F.x F.b dX7_dampReach_82 rfl (lv_at hl 0 rfl) ?_
        refine lv_iload_n F.x F.b dX7_dampReach_83 rfl (lv_at hl 2 rfl) ?_
        refine lv_iconst (v := 4) F.x F.b dX7_dampReach_84 (by decide) ?_
        obtain ⟨r15, hc16, h⟩ := bd h
        try dsimp only at h
        refine kVi0 F w (As := [.int x2, .int 4]) (rest := []) (w1 := wMo G.2.1 mo M) (t_X7_of F.1 hc16) m_X7_of v_X7_of q1643 (ci := 11) (q0 := 0) rfl rfl rfl ⟨Nat.le_of_ble_eq_true rfl, Nat.le_of_ble_eq_true rfl⟩ rfl hl.1 rfl (Nat.le_of_ble_eq_true rfl) dX7_dampReach_85 ⟨Nat.le_of_ble_eq_true rfl, Nat.le_of_ble_eq_true rfl⟩ (fun H locs w => ?_)
        refine lv_istore_n (lv' := [(3, .int r15), (0, .ref (mo 0)), (1, .int x1), (2, .int x2)]) F.x F.b dX7_dampReach_88 rfl hl (by decide) rfl (fun ls hl => ?_)
        refine lv_aload_n F.x F.b dX7_dampReach_89 rfl (lv_at hl 1 rfl) ?_
        refine lv_iload_n F.x F.b dX7_dampReach_90 rfl (lv_at hl 3 rfl) ?_
        refine lv_iconst (v := 5) F.x F.b dX7_dampReach_91 (by decide) ?_
        obtain ⟨r17, hc18, h⟩ := bd h
        try dsimp only at h
        refine kVi0 F w (As := [.int x2, .int 5]) (rest := []) (w1 := wMo G.2.1 mo M) (t_X7_of F.1 hc18) m_X7_of v_X7_of q1643 (ci := 11) (q0 := 0) rfl rfl rfl ⟨Nat.le_of_ble_eq_true rfl, Nat.le_of_ble_eq_true rfl⟩ rfl hl.1 rfl (Nat.le_of_ble_eq_true rfl) dX7_dampReach_92 ⟨Nat.le_of_ble_eq_true rfl, Nat.le_of_ble_eq_true rfl⟩ (fun H locs w => ?_)
        refine lv_if_ne (tgt := 141) F.x F.b dX7_dampReach_95 (by decide) (fun c19 => ?_) (fun c19 => ?_)
        · have h := ie c19 h
          refine lv_iinc (v := (x2 + 1)) (lv' := [(2, .int (x2 + 1)), (3, .int r15), (0, .ref (mo 0)), (1, .int x1)]) F.x F.b dX7_dampReach_141 hl (k := 3) rfl rfl (by decide) rfl (fun ls hl => ?_)
          refine lv_goto (tgt := 72) F.x F.b dX7_dampReach_144 (by decide) ?_
          exact ih (x2 + 1) M _ _ _ w (lv_sub hl [2, 3, 0] rfl) h hk
        · have h := it c19 h
          refine lv_iload_n F.x F.b dX7_dampReach_98 rfl (lv_at hl 0 rfl) ?_
          refine lv_if_le (tgt := 114) F.x F.b dX7_dampReach_99 (by decide) (fun c20 => ?_) (fun c20 => ?_)
          · have h := it c20 h
            refine lv_iload_n F.x F.b dX7_dampReach_114 rfl (lv_at hl 0 rfl) ?_
            refine lv_iconst (v := 1) F.x F.b dX7_dampReach_115 (by decide) ?_
            refine lv_iadd F.x F.b dX7_dampReach_116 ?_
            refine lv_bipush (v := 24) F.x F.b dX7_dampReach_117 (by decide) ?_
            refine lv_icmp_ge (tgt := 141) F.x F.b dX7_dampReach_119 (by decide) (fun c21 => ?_) (fun c21 => ?_)
            · have h := it c21 h
              refine lv_iinc (v := (x2 + 1)) (lv' := [(2, .int (x2 + 1)), (3, .int r15), (0, .ref (mo 0)), (1, .int x1)]) F.x F.b dX7_dampReach_141 hl (k := 3) rfl rfl (by decide) rfl (fun ls hl => ?_)
              refine lv_goto (tgt := 72) F.x F.b dX7_dampReach_144 (by decide) ?_
              exact ih (x2 + 1) M _ _ _ w (lv_sub hl [2, 3, 0] rfl) h hk
            · have h := ie c21 h
              refine lv_aload_n F.x F.b dX7_dampReach_122 rfl (lv_at hl 1 rfl) ?_
              refine rg F w cl7 0 (at_Mo_0 _ _ _) 12 (by decide) q1559 rfl (v := .ref (mo 10)) rfl dX7_dampReach_123 ?_
              refine lv_iload_n F.x F.b dX7_dampReach_126 rfl (lv_at hl 0 rfl) ?_
              refine lv_iconst (v := 1) F.x F.b dX7_dampReach_127 (by decide) ?_
              refine lv_iadd F.x F.b dX7_dampReach_128 ?_
              obtain ⟨g22, h⟩ := gd h
              refine ri F w 10 (n := 24) (f := M.2 9) (at_Mo_10 _ _ _) g22 dX7_dampReach_129 ?_
              refine lv_iconst (v := 1) F.x F.b dX7_dampReach_130 (by decide) ?_
              refine lv_icmp_ne (tgt := 141) F.x F.b dX7_dampReach_131 (by decide) (fun c23 => ?_) (fun c23 => ?_)
              · have h := ie c23 h
                refine lv_iinc (v := (x2 + 1)) (lv' := [(2, .int (x2 + 1)), (3, .int r15), (0, .ref (mo 0)), (1, .int x1)]) F.x F.b dX7_dampReach_141 hl (k := 3) rfl rfl (by decide) rfl (fun ls hl => ?_)
                refine lv_goto (tgt := 72) F.x F.b dX7_dampReach_144 (by decide) ?_
                exact ih (x2 + 1) M _ _ _ w (lv_sub hl [2, 3, 0] rfl) h hk
              · have h := it c23 h
                refine lv_aload_n F.x F.b dX7_dampReach_134 rfl (lv_at hl 1 rfl) ?_
                refine rg F w cl7 0 (at_Mo_0 _ _ _) 12 (by decide) q1559 rfl (v := .ref (mo 10)) rfl dX7_dampReach_135 ?_
                refine lv_iload_n F.x F.b dX7_dampReach_138 rfl (lv_at hl 0 rfl) ?_
                refine lv_iconst (v := 1) F.x F.b dX7_dampReach_139 (by decide) ?_
                obtain ⟨g24, h⟩ := gd h
                refine ris F w (ws' := wMo G.2.1 mo (wrA M 9 r15 1)) 10 (n := 24) (f := M.2 9) (at_Mo_10 _ _ _) g24 (st_Mo_10 _ _ _ _ _) dX7_dampReach_140 (fun H locs w => ?_)
                refine lv_iinc (v := (x2 + 1)) (lv' := [(2, .int (x2 + 1)), (3, .int r15), (0, .ref (mo 0)), (1, .int x1)]) F.x F.b dX7_dampReach_141 hl (k := 3) rfl rfl (by decide) rfl (fun ls hl => ?_)
                refine lv_goto (tgt := 72) F.x F.b dX7_dampReach_144 (by decide) ?_
                exact ih (x2 + 1) (wrA M 9 r15 1) _ _ _ w (lv_sub hl [2, 3, 0] rfl) h hk
          · have h := ie c20 h
            refine lv_aload_n F.x F.b dX7_dampReach_102 rfl (lv_at hl 1 rfl) ?_
            refine rg F w cl7 0 (at_Mo_0 _ _ _) 12 (by decide) q1559 rfl (v := .ref (mo 10)) rfl dX7_dampReach_103 ?_
            refine lv_iload_n F.x F.b dX7_dampReach_106 rfl (lv_at hl 0 rfl) ?_
            refine lv_iconst (v := 1) F.x F.b dX7_dampReach_107 (by decide) ?_
            refine lv_isub F.x F.b dX7_dampReach_108 ?_
            obtain ⟨g25, h⟩ := gd h
            refine ri F w 10 (n := 24) (f := M.2 9) (at_Mo_10 _ _ _) g25 dX7_dampReach_109 ?_
            refine lv_iconst (v := 1) F.x F.b dX7_dampReach_110 (by decide) ?_
            refine lv_icmp_eq (tgt := 134) F.x F.b dX7_dampReach_111 (by decide) (fun c26 => ?_) (fun c26 => ?_)
            · have h := it c26 h
              refine lv_aload_n F.x F.b dX7_dampReach_134 rfl (lv_at hl 1 rfl) ?_
              refine rg F w cl7 0 (at_Mo_0 _ _ _) 12 (by decide) q1559 rfl (v := .ref (mo 10)) rfl dX7_dampReach_135 ?_
              refine lv_iload_n F.x F.b dX7_dampReach_138 rfl (lv_at hl 0 rfl) ?_
              refine lv_iconst (v := 1) F.x F.b dX7_dampReach_139 (by decide) ?_
              obtain ⟨g27, h⟩ := gd h
              refine ris F w (ws' := wMo G.2.1 mo (wrA M 9 r15 1)) 10 (n := 24) (f := M.2 9) (at_Mo_10 _ _ _) g27 (st_Mo_10 _ _ _ _ _) dX7_dampReach_140 (fun H locs w => ?_)
              refine lv_iinc (v := (x2 + 1)) (lv' := [(2, .int (x2 + 1)), (3, .int r15), (0, .ref (mo 0)), (1, .int x1)]) F.x F.b dX7_dampReach_141 hl (k := 3) rfl rfl (by decide) rfl (fun ls hl => ?_)
              refine lv_goto (tgt := 72) F.x F.b dX7_dampReach_144 (by decide) ?_
              exact ih (x2 + 1) (wrA M 9 r15 1) _ _ _ w (lv_sub hl [2, 3, 0] rfl) h hk
            · have h := ie c26 h
              refine lv_iload_n F.x F.b dX7_dampReach_114 rfl (lv_at hl 0 rfl) ?_
              refine lv_iconst (v := 1) F.x F.b dX7_dampReach_115 (by decide) ?_
              refine lv_iadd F.x F.b dX7_dampReach_116 ?_
              refine lv_bipush (v := 24) F.x F.b dX7_dampReach_117 (by decide) ?_
              refine lv_icmp_ge (tgt := 141) F.x F.b dX7_dampReach_119 (by decide) (fun c28 => ?_) (fun c28 => ?_)
              · have h := it c28 h
                refine lv_iinc (v := (x2 + 1)) (lv' := [(2, .int (x2 + 1)), (3, .int r15), (0, .ref (mo 0)), (1, .int x1)]) F.x F.b dX7_dampReach_141 hl (k := 3) rfl rfl (by decide) rfl (fun ls hl => ?_)
                refine lv_goto (tgt := 72) F.x F.b dX7_dampReach_144 (by decide) ?_
                exact ih (x2 + 1) M _ _ _ w (lv_sub hl [2, 3, 0] rfl) h hk
              · have h := ie c28 h
                refine lv_aload_n F.x F.b dX7_dampReach_122 rfl (lv_at hl 1 rfl) ?_
                refine rg F w cl7 0 (at_Mo_0 _ _ _) 12 (by decide) q1559 rfl (v := .ref (mo 10)) rfl dX7_dampReach_123 ?_
                refine lv_iload_n F.x F.b dX7_dampReach_126 rfl (lv_at hl 0 rfl) ?_
                refine lv_iconst (v := 1) F.x F.b dX7_dampReach_127 (by decide) ?_
                refine lv_iadd F.x F.b dX7_dampReach_128 ?_
                obtain ⟨g29, h⟩ := gd h
                refine ri F w 10 (n := 24) (f := M.2 9) (at_Mo_10 _ _ _) g29 dX7_dampReach_129 ?_
                refine lv_iconst (v := 1) F.x F.b dX7_dampReach_130 (by decide) ?_
                refine lv_icmp_ne (tgt := 141) F.x F.b dX7_dampReach_131 (by decide) (fun c30 => ?_) (fun c30 => ?_)
                · have h := ie c30 h
                  refine lv_iinc (v := (x2 + 1)) (lv' := [(2, .int (x2 + 1)), (3, .int r15), (0, .ref (mo 0)), (1, .int x1)]) F.x F.b dX7_dampReach_141 hl (k := 3) rfl rfl (by decide) rfl (fun ls hl => ?_)
                  refine lv_goto (tgt := 72) F.x F.b dX7_dampReach_144 (by decide) ?_
                  exact ih (x2 + 1) M _ _ _ w (lv_sub hl [2, 3, 0] rfl) h hk
                · have h := it c30 h
                  refine lv_aload_n F.x F.b dX7_dampReach_134 rfl (lv_at hl 1 rfl) ?_
                  refine rg F w cl7 0 (at_Mo_0 _ _ _) 12 (by decide) q1559 rfl (v := .ref (mo 10)) rfl dX7_dampReach_135 ?_
                  refine lv_iload_n F.x F.b dX7_dampReach_138 rfl (lv_at hl 0 rfl) ?_
                  refine lv_iconst (v := 1) F.x F.b dX7_dampReach_139 (by decide) ?_
                  obtain ⟨g31, h⟩ := gd h
                  refine ris F w (ws' := wMo G.2.1 mo (wrA M 9 r15 1)) 10 (n := 24) (f := M.2 9) (at_Mo_10 _ _ _) g31 (st_Mo_10 _ _ _ _ _) dX7_dampReach_140 (fun H locs w => ?_)
                  refine lv_iinc (v := (x2 + 1)) (lv' := [(2, .int (x2 + 1)), (3, .int r15), (0, .ref (mo 0)), (1, .int x1)]) F.x F.b dX7_dampReach_141 hl (k := 3) rfl rfl (by decide) rfl (fun ls hl => ?_)
                  refine lv_goto (tgt := 72) F.x F.b dX7_dampReach_144 (by decide) ?_
                  exact ih (x2 + 1) (wrA M 9 r15 1) _ _ _ w (lv_sub hl [2, 3, 0] rfl) h hk
  have L64 : ∀ {k : Mem → Option (Int32 × Mem)} (n : Nat) (x1 : Int32) (M : Mem) (H : Heap) (locs : List Loc) (ls : Array Slot), Wd G A s.heap (wMo G.2.1 mo M) H locs → lv_has ls 4 [(0, .ref (mo 0)), (1, .int x1)] → f_X7_dampReach_L64 k n x1 M = some (r, M') → (∀ (M : Mem) (H : Heap) (locs : List Loc) (ls : Array Slot), Wd G A s.heap (wMo G.2.1 mo M) H locs → lv_has ls 4 [(0, .ref (mo 0))] → k M = some (r, M') → W p l e { frames := 1, cells := 0, slots := 0, locals := 22 } s m args below meth c H locs 0 0 (QI G A (wMo G.2.1 mo M') r below args s) (F0 m 153 ls [])) → W p l e { frames := 1, cells := 0, slots := 0, locals := 22 } s m args below meth c H locs 0 0 (QI G A (wMo G.2.1 mo M') r below args s) (F0 m 64 ls []) := by
    clear h w hl
    intro k n
    induction n with
    | zero =>
      intro x1 M H locs ls w hl h hk
      exact nomatch (show (none : Option (Int32 × Mem)) = some (r, M') from h)
    | succ n ih =>
      intro x1 M H locs ls w hl h hk
      rw [f_X7_dampReach_L64] at h
      refine lv_iload_n F.x F.b dX7_dampReach_64 rfl (lv_at hl 1 rfl) ?_
      refine lv_bipush (v := 24) F.x F.b dX7_dampReach_65 (by decide) ?_
      refine lv_icmp_ge (tgt := 153) F.x F.b dX7_dampReach_67 (by decide) (fun c12 => ?_) (fun c12 => ?_)
      · have h := it c12 h
        exact hk M _ _ _ w (lv_sub hl [0] rfl) h
      · have h := ie c12 h
        refine lv_iconst (v := 0) F.x F.b dX7_dampReach_70 (by decide) ?_
        refine lv_istore_n (lv' := [(2, .int 0), (0, .ref (mo 0)), (1, .int x1)]) F.x F.b dX7_dampReach_71 rfl hl (by decide) rfl (fun ls hl => ?_)
        refine L72 x1 _ 0 M _ _ _ w (lv_sub hl [1, 2, 0] rfl) h ?_
        intro M_32 H locs ls w hl h
        try dsimp only at h
        refine lv_iinc (v := (x1 + 1)) (lv' := [(1, .int (x1 + 1)), (0, .ref (mo 0))]) F.x F.b dX7_dampReach_147 hl (k := 1) rfl rfl (by decide) rfl (fun ls hl => ?_)
        refine lv_goto (tgt := 64) F.x F.b dX7_dampReach_150 (by decide) ?_
        exact ih (x1 + 1) M_32 _ _ _ w (lv_sub hl [1, 0] rfl) h hk
  have L157 : ∀ (M : Mem) {k : Int32 → Option (Int32 × Mem)} (n : Nat) (x1 : Int32) (x2 : Int32) (H : Heap) (locs : List Loc) (ls : Array Slot), Wd G A s.heap (wMo G.2.1 mo M) H locs → lv_has ls 4 [(0, .ref (mo 0)), (1, .int x1), (2, .int x2)] → f_X7_dampReach_L157 M k n x1 x2 = some (r, M') → (∀ (x1 : Int32) (H : Heap) (locs : List Loc) (ls : Array Slot), Wd G A s.heap (wMo G.2.1 mo M) H locs → lv_has ls 4 [(1, .int x1)] → k x1 = some (r, M') → W p l e { frames := 1, cells := 0, slots := 0, locals := 22 } s m args below meth c H locs 0 0 (QI G A (wMo G.2.1 mo M') r below args s) (F0 m 178 ls [])) → W p l e { frames := 1, cells := 0, slots := 0, locals := 22 } s m args below meth c H locs 0 0 (QI G A (wMo G.2.1 mo M') r below args s) (F0 m 157 ls []) := by
    clear h w hl
    intro M k n
    induction n with
    | zero =>
      intro x1 x2 H locs ls w hl h hk
      exact nomatch (show (none : Option (Int32 × Mem)) = some (r, M') from h)
    | succ n ih =>
      intro x1 x2 H locs ls w hl h hk
      rw [f_X7_dampReach_L157] at h
      refine lv_iload_n F.x F.b dX7_dampReach_157 rfl (lv_at hl 2 rfl) ?_
      refine lv_bipush (v := 24) F.x F.b dX7_dampReach_158 (by decide) ?_
      refine lv_icmp_ge (tgt := 178) F.x F.b dX7_dampReach_160 (by decide) (fun c34 => ?_) (fun c34 => ?_)
      · have h := it c34 h
        exact hk x1 _ _ _ w (lv_sub hl [1] rfl) h
      · have h := ie c34 h
        refine lv_iload_n F.x F.b dX7_dampReach_163 rfl (lv_at hl 1 rfl) ?_
        refine lv_aload_n F.x F.b dX7_dampReach_164 rfl (lv_at hl 0 rfl) ?_
        refine rg F w cl7 0 (at_Mo_0 _ _ _) 12 (by decide) q1559 rfl (v := .ref (mo 10)) rfl dX7_dampReach_165 ?_
        refine lv_iload_n F.x F.b dX7_dampReach_168 rfl (lv_at hl 2 rfl) ?_
        obtain ⟨g35, h⟩ := gd h
        refine ri F w 10 (n := 24) (f := M.2 9) (at_Mo_10 _ _ _) g35 dX7_dampReach_169 ?_
        refine lv_iadd F.x F.b dX7_dampReach_170 ?_
        refine lv_istore_n (lv' := [(1, .int (x1 + (M.2 9 (Int32.toNatClampNeg x2)))), (0, .ref (mo 0)), (2, .int x2)]) F.x F.b dX7_dampReach_171 rfl hl (by decide) rfl (fun ls hl => ?_)
        refine lv_iinc (v := (x2 + 1)) (lv' := [(2, .int (x2 + 1)), (1, .int (x1 + (M.2 9 (Int32.toNatClampNeg x2)))), (0, .ref (mo 0))]) F.x F.b dX7_dampReach_172 hl (k := 2) rfl rfl (by decide) rfl (fun ls hl => ?_)
        refine lv_goto (tgt := 157) F.x F.b dX7_dampReach_175 (by decide) ?_
        exact ih (x1 + (M.2 9 (Int32.toNatClampNeg x2))) (x2 + 1) _ _ _ w (lv_sub hl [2, 1, 0] rfl) h hk
  refine lv_aload_n F.x F.b dX7_dampReach_0 rfl (lv_at hl 0 rfl) ?_
  refine lv_iconst (v := 0) F.x F.b dX7_dampReach_1 (by decide) ?_
  refine rp F w (ws' := wMo G.2.1 mo (wrI M 0 0)) cl7 0 (at_Mo_0 _ _ _) 0 (by decide) q1547 rfl rfl rfl rfl (Nat.le_of_ble_eq_true rfl) (pt_Mo_0_0 _ _ _ _) dX7_dampReach_2 (fun H locs w => ?_)
  refine lv_iconst (v := 0) F.x F.b dX7_dampReach_5 (by decide) ?_
  refine lv_istore_n (lv' := [(1, .int 0), (0, .ref (mo 0))]) F.x F.b dX7_dampReach_6 rfl hl (by decide) rfl (fun ls hl => ?_)
  refine L7 _ 0 (wrI M 0 0) _ _ _ w (lv_sub hl [1, 0] rfl) h ?_
  intro M_3 H locs ls w hl h
  try dsimp only at h
  refine lv_iconst (v := 0) F.x F.b dX7_dampReach_26 (by decide) ?_
  refine lv_istore_n (lv' := [(1, .int 0), (0, .ref (mo 0))]) F.x F.b dX7_dampReach_27 rfl hl (by decide) rfl (fun ls hl => ?_)
  refine L28 _ 0 M_3 _ _ _ w (lv_sub hl [1, 0] rfl) h ?_
  intro M_11 H locs ls w hl h
  try dsimp only at h
  refine lv_iconst (v := 0) F.x F.b dX7_dampReach_62 (by decide) ?_
  refine lv_istore_n (lv' := [(1, .int 0), (0, .ref (mo 0))]) F.x F.b dX7_dampReach_63 rfl hl (by decide) rfl (fun ls hl => ?_)
  refine L64 _ 0 M_11 _ _ _ w (lv_sub hl [1, 0] rfl) h ?_
  intro M_33 H locs ls w hl h
  try dsimp only at h
  refine lv_iconst (v := 0) F.x F.b dX7_dampReach_153 (by decide) ?_
  refine lv_istore_n (lv' := [(1, .int 0), (0, .ref (mo 0))]) F.x F.b dX7_dampReach_154 rfl hl (by decide) rfl (fun ls hl => ?_)
  refine lv_iconst (v := 0) F.x F.b dX7_dampReach_155 (by decide) ?_
  refine lv_istore_n (lv' := [(2, .int 0), (1, .int 0), (0, .ref (mo 0))]) F.x F.b dX7_dampReach_156 rfl hl (by decide) rfl (fun ls hl => ?_)
  refine L157 M_33 _ 0 0 _ _ _ w (lv_sub hl [2, 1, 0] rfl) h ?_
  intro y36_1 H locs ls w hl h
  try dsimp only at h
  refine lv_iload_n F.x F.b dX7_dampReach_178 rfl (lv_at hl 0 rfl) ?_
  obtain ⟨z0, z1⟩ := sm2 (sm h)
  exact ei F w hr hlocks rfl z0 (by rw [← z1]) dX7_dampReach_179
set_option maxRecDepth 100000 in
set_option maxHeartbeats 4000000 in
theorem t_X7_dampReachByStretches {G : cG} (g : GOK G) {mo : Nat → Nat} {M : Mem} {r : Int32} {M' : Mem} (h : f_X7_dampReachByStretches M = some (r, M')) : CI G yX7_dampReachByStretches cX7_dampReachByStretches 1 .int 2 45 [.ref (mo 0)] (wMo G.2.1 mo M) (wMo G.2.1 mo M') r := by
  unfold f_X7_dampReachByStretches at h
  refine CI.of g (by decide) rfl (Nat.le_of_ble_eq_true rfl) ?_
  intro p l e s m below meth c A ls F hr hlocks w hl
  generalize ([.ref (mo 0)] : List Value).toArray = args
  have hl : lv_has ls 1 [(0, .ref (mo 0))] := hl
  refine lv_aload_n F.x F.b dX7_dampReachByStretches_0 rfl (lv_at hl 0 rfl) ?_
  obtain ⟨⟨r1, M_2⟩, hc3, h⟩ := bd h
  try dsimp only at h
  refine kVi0 F w (As := []) (rest := []) (w1 := wMo G.2.1 mo M_2) (t_X7_dampReach F.1 hc3) m_X7_dampReach v_X7_dampReach q1869 (ci := 11) (q0 := 0) rfl rfl rfl ⟨Nat.le_of_ble_eq_true rfl, Nat.le_of_ble_eq_true rfl⟩ rfl hl.1 rfl (Nat.le_of_ble_eq_true rfl) dX7_dampReachByStretches_1 ⟨Nat.le_of_ble_eq_true rfl, Nat.le_of_ble_eq_true rfl⟩ (fun H locs w => ?_)
  obtain ⟨z0, z1⟩ := sm2 (sm h)
  exact ei F w hr hlocks rfl z0 (by rw [← z1]) dX7_dampReachByStretches_4
set_option maxRecDepth 100000 in
set_option maxHeartbeats 4000000 in
theorem t_X7_destroyedCount {G : cG} (g : GOK G) {mo : Nat → Nat} {M : Mem} {r : Int32} {M' : Mem} (h : f_X7_destroyedCount M = some (r, M')) : CI G yX7_destroyedCount cX7_destroyedCount 1 .int 0 0 [.ref (mo 0)] (wMo G.2.1 mo M) (wMo G.2.1 mo M') r := by
  unfold f_X7_destroyedCount at h
  refine CI.of g (by decide) rfl (Nat.le_of_ble_eq_true rfl) ?_
  intro p l e s m below meth c A ls F hr hlocks w hl
  generalize ([.ref (mo 0)] : List Value).toArray = args
  have hl : lv_has ls 1 [(0, .ref (mo 0))] := hl
  refine lv_aload_n F.x F.b dX7_destroyedCount_0 rfl (lv_at hl 0 rfl) ?_
  refine lv_iconst (v := 0) F.x F.b dX7_destroyedCount_1 (by decide) ?_
  refine rp F w (ws' := wMo G.2.1 mo (wrI M 0 0)) cl7 0 (at_Mo_0 _ _ _) 0 (by decide) q1547 rfl rfl rfl rfl (Nat.le_of_ble_eq_true rfl) (pt_Mo_0_0 _ _ _ _) dX7_destroyedCount_2 (fun H locs w => ?_)
  refine lv_aload_n F.x F.b dX7_destroyedCount_5 rfl (lv_at hl 0 rfl) ?_
  refine rg F w cl7 0 (at_Mo_0 _ _ _) 1 (by decide) q1548 rfl (v := .ref (mo 1)) rfl dX7_destroyedCount_6 ?_
  refine lv_bipush (v := 6) F.x F.b dX7_destroyedCount_9 (by decide) ?_
  obtain ⟨g1, h⟩ := gd h
  refine ri F w 1 (n := 148) (f := (wrI M 0 0).2 0) (at_Mo_1 _ _ _) g1 dX7_destroyedCount_11 ?_
  obtain ⟨z0, z1⟩ := sm2 (sm h)
  exact ei F w hr hlocks rfl z0 (by rw [← z1]) dX7_destroyedCount_12
set_option maxRecDepth 100000 in
set_option maxHeartbeats 4000000 in
theorem t_X7_enqueue {G : cG} (g : GOK G) {mo : Nat → Nat} {M : Mem} {x1 : Int32} {r : Int32} {M' : Mem} (h : f_X7_enqueue M x1 = some (r, M')) : CI G yX7_enqueue cX7_enqueue 2 .int 3 65 [.ref (mo 0), .int x1] (wMo G.2.1 mo M) (wMo G.2.1 mo M') r := by
  unfold f_X7_enqueue at h
  refine CI.of g (by decide) rfl (Nat.le_of_ble_eq_true rfl) ?_
  intro p l e s m below meth c A ls F hr hlocks w hl
  generalize ([.ref (mo 0), .int x1] : List Value).toArray = args
  have hl : lv_has ls 2 [(0, .ref (mo 0)), (1, .int x1)] := hl
  refine lv_aload_n F.x F.b dX7_enqueue_0 rfl (lv_at hl 0 rfl) ?_
  obtain ⟨M_1, hc2, h⟩ := bd h
  try dsimp only at h
  refine kVv0 F w (As := []) (rest := []) (w1 := wMo G.2.1 mo M_1) (t_X7_remembers F.1 hc2) m_X7_remembers v_X7_remembers q1622 (ci := 11) (q0 := 0) rfl rfl rfl ⟨Nat.le_of_ble_eq_true rfl, Nat.le_of_ble_eq_true rfl⟩ rfl hl.1 rfl (Nat.le_of_ble_eq_true rfl) dX7_enqueue_1 ⟨Nat.le_of_ble_eq_true rfl, Nat.le_of_ble_eq_true rfl⟩ (fun H locs w => ?_)
  refine lv_aload_n F.x F.b dX7_enqueue_4 rfl (lv_at hl 0 rfl) ?_
  refine lv_aload_n F.x F.b dX7_enqueue_5 rfl (lv_at hl 0 rfl) ?_
  refine lv_iload_n F.x F.b dX7_enqueue_6 rfl (lv_at hl 1 rfl) ?_
  obtain ⟨⟨r3, M_4⟩, hc5, h⟩ := bd h
  try dsimp only at h
  refine kVi0 F w (As := [.int x1]) (rest := [.ref (mo 0)]) (w1 := wMo G.2.1 mo M_4) (t_X7_joins F.1 hc5) m_X7_joins v_X7_joins q1878 (ci := 11) (q0 := 0) rfl rfl rfl ⟨Nat.le_of_ble_eq_true rfl, Nat.le_of_ble_eq_true rfl⟩ rfl hl.1 rfl (Nat.le_of_ble_eq_true rfl) dX7_enqueue_7 ⟨Nat.le_of_ble_eq_true rfl, Nat.le_of_ble_eq_true rfl⟩ (fun H locs w => ?_)
  obtain ⟨⟨r6, M_7⟩, hc8, h⟩ := bd h
  try dsimp only at h
  refine kVi0 F w (As := [.int r3]) (rest := []) (w1 := wMo G.2.1 mo M_7) (t_X7_ends F.1 hc8) m_X7_ends v_X7_ends q1655 (ci := 11) (q0 := 0) rfl rfl rfl ⟨Nat.le_of_ble_eq_true rfl, Nat.le_of_ble_eq_true rfl⟩ rfl hl.1 rfl (Nat.le_of_ble_eq_true rfl) dX7_enqueue_10 ⟨Nat.le_of_ble_eq_true rfl, Nat.le_of_ble_eq_true rfl⟩ (fun H locs w => ?_)
  obtain ⟨z0, z1⟩ := sm2 (sm h)
  exact ei F w hr hlocks rfl z0 (by rw [← z1]) dX7_enqueue_13
set_option maxRecDepth 100000 in
set_option maxHeartbeats 4000000 in
theorem t_X7_audit {G : cG} (g : GOK G) {mo : Nat → Nat} {M : Mem} {r : Int32} {M' : Mem} (h : f_X7_audit M = some (r, M')) : CI G yX7_audit cX7_audit 1 .int 3 65 [.ref (mo 0)] (wMo G.2.1 mo M) (wMo G.2.1 mo M') r := by
  unfold f_X7_audit at h
  refine CI.of g (by decide) rfl (Nat.le_of_ble_eq_true rfl) ?_
  intro p l e s m below meth c A ls F hr hlocks w hl
  generalize ([.ref (mo 0)] : List Value).toArray = args
  have hl : lv_has ls 1 [(0, .ref (mo 0))] := hl
  refine lv_aload_n F.x F.b dX7_audit_0 rfl (lv_at hl 0 rfl) ?_
  obtain ⟨M_1, hc2, h⟩ := bd h
  try dsimp only at h
  refine kVv0 F w (As := []) (rest := []) (w1 := wMo G.2.1 mo M_1) (t_X7_remembers F.1 hc2) m_X7_remembers v_X7_remembers q1622 (ci := 11) (q0 := 0) rfl rfl rfl ⟨Nat.le_of_ble_eq_true rfl, Nat.le_of_ble_eq_true rfl⟩ rfl hl.1 rfl (Nat.le_of_ble_eq_true rfl) dX7_audit_1 ⟨Nat.le_of_ble_eq_true rfl, Nat.le_of_ble_eq_true rfl⟩ (fun H locs w => ?_)
  refine lv_aload_n F.x F.b dX7_audit_4 rfl (lv_at hl 0 rfl) ?_
  refine lv_aload_n F.x F.b dX7_audit_5 rfl (lv_at hl 0 rfl) ?_
  obtain ⟨⟨r3, M_4⟩, hc5, h⟩ := bd h
  try dsimp only at h
  refine kVi0 F w (As := []) (rest := [.ref (mo 0)]) (w1 := wMo G.2.1 mo M_4) (t_X7_audits F.1 hc5) m_X7_audits v_X7_audits q1886 (ci := 11) (q0 := 0) rfl rfl rfl ⟨Nat.le_of_ble_eq_true rfl, Nat.le_of_ble_eq_true rfl⟩ rfl hl.1 rfl (Nat.le_of_ble_eq_true rfl) dX7_audit_6 ⟨Nat.le_of_ble_eq_true rfl, Nat.le_of_ble_eq_true rfl⟩ (fun H locs w => ?_)
  obtain ⟨⟨r6, M_7⟩, hc8, h⟩ := bd h
  try dsimp only at h
  refine kVi0 F w (As := [.int r3]) (rest := []) (w1 := wMo G.2.1 mo M_7) (t_X7_ends F.1 hc8) m_X7_ends v_X7_ends q1655 (ci := 11) (q0 := 0) rfl rfl rfl ⟨Nat.le_of_ble_eq_true rfl, Nat.le_of_ble_eq_true rfl⟩ rfl hl.1 rfl (Nat.le_of_ble_eq_true rfl) dX7_audit_9 ⟨Nat.le_of_ble_eq_true rfl, Nat.le_of_ble_eq_true rfl⟩ (fun H locs w => ?_)
  obtain ⟨z0, z1⟩ := sm2 (sm h)
  exact ei F w hr hlocks rfl z0 (by rw [← z1]) dX7_audit_12
set_option maxRecDepth 100000 in
set_option maxHeartbeats 4000000 in
theorem t_X7_queueLength {G : cG} (g : GOK G) {mo : Nat → Nat} {M : Mem} {r : Int32} {M' : Mem} (h : f_X7_queueLength M = some (r, M')) : CI G yX7_queueLength cX7_queueLength 1 .int 0 0 [.ref (mo 0)] (wMo G.2.1 mo M) (wMo G.2.1 mo M') r := by
  unfold f_X7_queueLength at h
  refine CI.of g (by decide) rfl (Nat.le_of_ble_eq_true rfl) ?_
  intro p l e s m below meth c A ls F hr hlocks w hl
  generalize ([.ref (mo 0)] : List Value).toArray = args
  have hl : lv_has ls 1 [(0, .ref (mo 0))] := hl
  refine lv_aload_n F.x F.b dX7_queueLength_0 rfl (lv_at hl 0 rfl) ?_
  refine lv_iconst (v := 0) F.x F.b dX7_queueLength_1 (by decide) ?_
  refine rp F w (ws' := wMo G.2.1 mo (wrI M 0 0)) cl7 0 (at_Mo_0 _ _ _) 0 (by decide) q1547 rfl rfl rfl rfl (Nat.le_of_ble_eq_true rfl) (pt_Mo_0_0 _ _ _ _) dX7_queueLength_2 (fun H locs w => ?_)
  refine lv_aload_n F.x F.b dX7_queueLength_5 rfl (lv_at hl 0 rfl) ?_
  refine rg F w cl7 0 (at_Mo_0 _ _ _) 1 (by decide) q1548 rfl (v := .ref (mo 1)) rfl dX7_queueLength_6 ?_
  refine lv_bipush (v := 7) F.x F.b dX7_queueLength_9 (by decide) ?_
  obtain ⟨g1, h⟩ := gd h
  refine ri F w 1 (n := 148) (f := (wrI M 0 0).2 0) (at_Mo_1 _ _ _) g1 dX7_queueLength_11 ?_
  obtain ⟨z0, z1⟩ := sm2 (sm h)
  exact ei F w hr hlocks rfl z0 (by rw [← z1]) dX7_queueLength_12
set_option maxRecDepth 100000 in
set_option maxHeartbeats 4000000 in
theorem t_X7_queued {G : cG} (g : GOK G) {mo : Nat → Nat} {M : Mem} {x1 : Int32} {r : Int32} {M' : Mem} (h : f_X7_queued M x1 = some (r, M')) : CI G yX7_queued cX7_queued 2 .int 1 22 [.ref (mo 0), .int x1] (wMo G.2.1 mo M) (wMo G.2.1 mo M') r := by
  unfold f_X7_queued at h
  refine CI.of g (by decide) rfl (Nat.le_of_ble_eq_true rfl) ?_
  intro p l e s m below meth c A ls F hr hlocks w hl
  generalize ([.ref (mo 0), .int x1] : List Value).toArray = args
  have hl : lv_has ls 2 [(0, .ref (mo 0)), (1, .int x1)] := hl
  refine lv_aload_n F.x F.b dX7_queued_0 rfl (lv_at hl 0 rfl) ?_
  refine lv_iload_n F.x F.b dX7_queued_1 rfl (lv_at hl 1 rfl) ?_
  refine lv_iconst (v := 0) F.x F.b dX7_queued_2 (by decide) ?_
  refine lv_aload_n F.x F.b dX7_queued_3 rfl (lv_at hl 0 rfl) ?_
  refine rg F w cl7 0 (at_Mo_0 _ _ _) 1 (by decide) q1548 rfl (v := .ref (mo 1)) rfl dX7_queued_4 ?_
  refine lv_bipush (v := 7) F.x F.b dX7_queued_7 (by decide) ?_
  obtain ⟨g1, h⟩ := gd h
  refine ri F w 1 (n := 148) (f := M.2 0) (at_Mo_1 _ _ _) g1 dX7_queued_9 ?_
  refine lv_iconst (v := 1) F.x F.b dX7_queued_10 (by decide) ?_
  refine lv_isub F.x F.b dX7_queued_11 ?_
  obtain ⟨r2, hc3, h⟩ := bd h
  try dsimp only at h
  refine kSi F w (t_X7_in F.1 hc3) m_X7_in v_X7_in q1633 (As := [.int x1, .int 0, .int ((M.2 0 (Int32.toNatClampNeg 7)) - 1)]) (rest := [.ref (mo 0)]) ⟨Nat.le_of_ble_eq_true rfl, Nat.le_of_ble_eq_true rfl⟩ rfl hl.1 rfl (Nat.le_of_ble_eq_true rfl) dX7_queued_12 ⟨Nat.le_of_ble_eq_true rfl, Nat.le_of_ble_eq_true rfl⟩ (fun H locs w => ?_)
  refine lv_if_eq (tgt := 22) F.x F.b dX7_queued_15 (by decide) (fun c4 => ?_) (fun c4 => ?_)
  · have h := it c4 h
    refine lv_iconst (v := 1) F.x F.b dX7_queued_22 (by decide) ?_
    refine rp F w (ws' := wMo G.2.1 mo (wrI M 0 1)) cl7 0 (at_Mo_0 _ _ _) 0 (by decide) q1547 rfl rfl rfl rfl (Nat.le_of_ble_eq_true rfl) (pt_Mo_0_0 _ _ _ _) dX7_queued_23 (fun H locs w => ?_)
    refine lv_aload_n F.x F.b dX7_queued_26 rfl (lv_at hl 0 rfl) ?_
    refine rg F w cl7 0 (at_Mo_0 _ _ _) 0 (by decide) q1547 rfl (v := .int 1) rfl dX7_queued_27 ?_
    refine lv_if_le (tgt := 37) F.x F.b dX7_queued_30 (by decide) (fun c9 => absurd c9 (by decide)) (fun _ => ?_)
    refine lv_iconst (v := 0) F.x F.b dX7_queued_33 (by decide) ?_
    refine lv_goto (tgt := 47) F.x F.b dX7_queued_34 (by decide) ?_
    obtain ⟨z0, z1⟩ := sm2 (sm h)
    exact ei F w hr hlocks rfl z0 (by rw [← z1]) dX7_queued_47
  · have h := ie c4 h
    refine lv_iconst (v := 0) F.x F.b dX7_queued_18 (by decide) ?_
    refine lv_goto (tgt := 23) F.x F.b dX7_queued_19 (by decide) ?_
    refine rp F w (ws' := wMo G.2.1 mo (wrI M 0 0)) cl7 0 (at_Mo_0 _ _ _) 0 (by decide) q1547 rfl rfl rfl rfl (Nat.le_of_ble_eq_true rfl) (pt_Mo_0_0 _ _ _ _) dX7_queued_23 (fun H locs w => ?_)
    refine lv_aload_n F.x F.b dX7_queued_26 rfl (lv_at hl 0 rfl) ?_
    refine rg F w cl7 0 (at_Mo_0 _ _ _) 0 (by decide) q1547 rfl (v := .int 0) rfl dX7_queued_27 ?_
    refine lv_if_le (tgt := 37) F.x F.b dX7_queued_30 (by decide) (fun _ => ?_) (fun c9 => absurd (by decide) c9)
    refine lv_aload_n F.x F.b dX7_queued_37 rfl (lv_at hl 0 rfl) ?_
    refine rg F w cl7 0 (at_Mo_0 _ _ _) 1 (by decide) q1548 rfl (v := .ref (mo 1)) rfl dX7_queued_38 ?_
    refine lv_sipush (v := 132) F.x F.b dX7_queued_41 (by decide) ?_
    refine lv_iload_n F.x F.b dX7_queued_44 rfl (lv_at hl 1 rfl) ?_
    refine lv_iadd F.x F.b dX7_queued_45 ?_
    obtain ⟨g5, h⟩ := gd h
    refine ri F w 1 (n := 148) (f := (wrI M 0 0).2 0) (at_Mo_1 _ _ _) g5 dX7_queued_46 ?_
    obtain ⟨z0, z1⟩ := sm2 (sm h)
    exact ei F w hr hlocks rfl z0 (by rw [← z1]) dX7_queued_47
set_option maxRecDepth 100000 in
set_option maxHeartbeats 4000000 in
theorem t_X7_deposit {G : cG} (g : GOK G) {mo : Nat → Nat} {M : Mem} {x1 : Int32} {r : Int32} {M' : Mem} (h : f_X7_deposit M x1 = some (r, M')) : CI G yX7_deposit cX7_deposit 2 .int 2 43 [.ref (mo 0), .int x1] (wMo G.2.1 mo M) (wMo G.2.1 mo M') r := by
  unfold f_X7_deposit at h
  refine CI.of g (by decide) rfl (Nat.le_of_ble_eq_true rfl) ?_
  intro p l e s m below meth c A ls F hr hlocks w hl
  generalize ([.ref (mo 0), .int x1] : List Value).toArray = args
  have hl : lv_has ls 2 [(0, .ref (mo 0)), (1, .int x1)] := hl
  refine lv_aload_n F.x F.b dX7_deposit_0 rfl (lv_at hl 0 rfl) ?_
  obtain ⟨M_1, hc2, h⟩ := bd h
  try dsimp only at h
  refine kVv0 F w (As := []) (rest := []) (w1 := wMo G.2.1 mo M_1) (t_X7_remembers F.1 hc2) m_X7_remembers v_X7_remembers q1622 (ci := 11) (q0 := 0) rfl rfl rfl ⟨Nat.le_of_ble_eq_true rfl, Nat.le_of_ble_eq_true rfl⟩ rfl hl.1 rfl (Nat.le_of_ble_eq_true rfl) dX7_deposit_1 ⟨Nat.le_of_ble_eq_true rfl, Nat.le_of_ble_eq_true rfl⟩ (fun H locs w => ?_)
  refine lv_aload_n F.x F.b dX7_deposit_4 rfl (lv_at hl 0 rfl) ?_
  refine lv_aload_n F.x F.b dX7_deposit_5 rfl (lv_at hl 0 rfl) ?_
  refine lv_iload_n F.x F.b dX7_deposit_6 rfl (lv_at hl 1 rfl) ?_
  obtain ⟨⟨r3, M_4⟩, hc5, h⟩ := bd h
  try dsimp only at h
  refine kVi0 F w (As := [.int x1]) (rest := [.ref (mo 0)]) (w1 := wMo G.2.1 mo M_4) (t_X7_deposits F.1 hc5) m_X7_deposits v_X7_deposits q1902 (ci := 11) (q0 := 0) rfl rfl rfl ⟨Nat.le_of_ble_eq_true rfl, Nat.le_of_ble_eq_true rfl⟩ rfl hl.1 rfl (Nat.le_of_ble_eq_true rfl) dX7_deposit_7 ⟨Nat.le_of_ble_eq_true rfl, Nat.le_of_ble_eq_true rfl⟩ (fun H locs w => ?_)
  obtain ⟨⟨r6, M_7⟩, hc8, h⟩ := bd h
  try dsimp only at h
  refine kVi0 F w (As := [.int r3]) (rest := []) (w1 := wMo G.2.1 mo M_7) (t_X7_ends F.1 hc8) m_X7_ends v_X7_ends q1655 (ci := 11) (q0 := 0) rfl rfl rfl ⟨Nat.le_of_ble_eq_true rfl, Nat.le_of_ble_eq_true rfl⟩ rfl hl.1 rfl (Nat.le_of_ble_eq_true rfl) dX7_deposit_10 ⟨Nat.le_of_ble_eq_true rfl, Nat.le_of_ble_eq_true rfl⟩ (fun H locs w => ?_)
  obtain ⟨z0, z1⟩ := sm2 (sm h)
  exact ei F w hr hlocks rfl z0 (by rw [← z1]) dX7_deposit_13
set_option maxRecDepth 100000 in
set_option maxHeartbeats 4000000 in
theorem t_X7_release {G : cG} (g : GOK G) {mo : Nat → Nat} {M : Mem} {x1 : Int32} {r : Int32} {M' : Mem} (h : f_X7_release M x1 = some (r, M')) : CI G yX7_release cX7_release 2 .int 4 87 [.ref (mo 0), .int x1] (wMo G.2.1 mo M) (wMo G.2.1 mo M') r := by
  unfold f_X7_release at h
  refine CI.of g (by decide) rfl (Nat.le_of_ble_eq_true rfl) ?_
  intro p l e s m below meth c A ls F hr hlocks w hl
  generalize ([.ref (mo 0), .int x1] : List Value).toArray = args
  have hl : lv_has ls 2 [(0, .ref (mo 0)), (1, .int x1)] := hl
  refine lv_aload_n F.x F.b dX7_release_0 rfl (lv_at hl 0 rfl) ?_
  obtain ⟨M_1, hc2, h⟩ := bd h
  try dsimp only at h
  refine kVv0 F w (As := []) (rest := []) (w1 := wMo G.2.1 mo M_1) (t_X7_remembers F.1 hc2) m_X7_remembers v_X7_remembers q1622 (ci := 11) (q0 := 0) rfl rfl rfl ⟨Nat.le_of_ble_eq_true rfl, Nat.le_of_ble_eq_true rfl⟩ rfl hl.1 rfl (Nat.le_of_ble_eq_true rfl) dX7_release_1 ⟨Nat.le_of_ble_eq_true rfl, Nat.le_of_ble_eq_true rfl⟩ (fun H locs w => ?_)
  refine lv_aload_n F.x F.b dX7_release_4 rfl (lv_at hl 0 rfl) ?_
  refine lv_aload_n F.x F.b dX7_release_5 rfl (lv_at hl 0 rfl) ?_
  refine lv_iload_n F.x F.b dX7_release_6 rfl (lv_at hl 1 rfl) ?_
  obtain ⟨⟨r3, M_4⟩, hc5, h⟩ := bd h
  try dsimp only at h
  refine kVi0 F w (As := [.int x1]) (rest := [.ref (mo 0)]) (w1 := wMo G.2.1 mo M_4) (t_X7_releases F.1 hc5) m_X7_releases v_X7_releases q1910 (ci := 11) (q0 := 0) rfl rfl rfl ⟨Nat.le_of_ble_eq_true rfl, Nat.le_of_ble_eq_true rfl⟩ rfl hl.1 rfl (Nat.le_of_ble_eq_true rfl) dX7_release_7 ⟨Nat.le_of_ble_eq_true rfl, Nat.le_of_ble_eq_true rfl⟩ (fun H locs w => ?_)
  obtain ⟨⟨r6, M_7⟩, hc8, h⟩ := bd h
  try dsimp only at h
  refine kVi0 F w (As := [.int r3]) (rest := []) (w1 := wMo G.2.1 mo M_7) (t_X7_ends F.1 hc8) m_X7_ends v_X7_ends q1655 (ci := 11) (q0 := 0) rfl rfl rfl ⟨Nat.le_of_ble_eq_true rfl, Nat.le_of_ble_eq_true rfl⟩ rfl hl.1 rfl (Nat.le_of_ble_eq_true rfl) dX7_release_10 ⟨Nat.le_of_ble_eq_true rfl, Nat.le_of_ble_eq_true rfl⟩ (fun H locs w => ?_)
  obtain ⟨z0, z1⟩ := sm2 (sm h)
  exact ei F w hr hlocks rfl z0 (by rw [← z1]) dX7_release_13

/-! printed by wip/p61/tools/genx.py: the walks -/
set_option maxRecDepth 100000 in
set_option maxHeartbeats 4000000 in
theorem t_X6_lotCount {G : cG} (g : GOK G) {x : Nat → Nat} {K : Mem} {a : Nat → Nat} {S : Mem} {rf : Nat → Nat} {sv : Value} (hr0 : rf 0 = a 0) {r : Int32} (h : f_X6_lotCount K S = some r) : CI G yX6_lotCount cX6_lotCount 1 .int 0 0 [.ref (x 0)] (wXo G.2.1 x rf sv K ++ wSh G.2.1 a S) (wXo G.2.1 x rf sv K ++ wSh G.2.1 a S) r := by
  unfold f_X6_lotCount at h
  refine CI.of g (by decide) rfl (Nat.le_of_ble_eq_true rfl) ?_
  intro p l e s m below meth c A ls F hr hlocks w hl
  generalize ([.ref (x 0)] : List Value).toArray = args
  have hl : lv_has ls 1 [(0, .ref (x 0))] := hl
  refine lv_aload_n F.x F.b dX6_lotCount_0 rfl (lv_at hl 0 rfl) ?_
  refine rg F w cl6 0 rfl 0 (by decide) q260 rfl (v := .ref (a 0)) (xr hr0 rfl) dX6_lotCount_1 ?_
  refine rgN F w cl4 1 rfl 0 (by decide) q147 rfl (v := .ref (a 1)) rfl dX6_lotCount_4 ?_
  refine rgN F w cl3 2 rfl 7 (by decide) q86 rfl (v := .int (S.1 0)) rfl dX6_lotCount_7 ?_
  have z0 := sm h
  exact ei F w hr hlocks rfl z0 rfl dX6_lotCount_10
set_option maxRecDepth 100000 in
set_option maxHeartbeats 4000000 in
theorem t_X6_stepCount {G : cG} (g : GOK G) {x : Nat → Nat} {K : Mem} {a : Nat → Nat} {S : Mem} {rf : Nat → Nat} {sv : Value} (hr0 : rf 0 = a 0) {r : Int32} (h : f_X6_stepCount K S = some r) : CI G yX6_stepCount cX6_stepCount 1 .int 0 0 [.ref (x 0)] (wXo G.2.1 x rf sv K ++ wSh G.2.1 a S) (wXo G.2.1 x rf sv K ++ wSh G.2.1 a S) r := by
  unfold f_X6_stepCount at h
  refine CI.of g (by decide) rfl (Nat.le_of_ble_eq_true rfl) ?_
  intro p l e s m below meth c A ls F hr hlocks w hl
  generalize ([.ref (x 0)] : List Value).toArray = args
  have hl : lv_has ls 1 [(0, .ref (x 0))] := hl
  refine lv_aload_n F.x F.b dX6_stepCount_0 rfl (lv_at hl 0 rfl) ?_
  refine rg F w cl6 0 rfl 0 (by decide) q260 rfl (v := .ref (a 0)) (xr hr0 rfl) dX6_stepCount_1 ?_
  refine rgN F w cl4 1 rfl 1 (by decide) q149 rfl (v := .ref (a 9)) rfl dX6_stepCount_4 ?_
  refine rgN F w cl5 10 rfl 2 (by decide) q121 rfl (v := .int (S.1 2)) rfl dX6_stepCount_7 ?_
  have z0 := sm h
  exact ei F w hr hlocks rfl z0 rfl dX6_stepCount_10
set_option maxRecDepth 100000 in
set_option maxHeartbeats 4000000 in
theorem t_X6_totalDuty {G : cG} (g : GOK G) {x : Nat → Nat} {K : Mem} {a : Nat → Nat} {S : Mem} {rf : Nat → Nat} {sv : Value} (hr0 : rf 0 = a 0) {r : Int32} (h : f_X6_totalDuty K S = some r) : CI G yX6_totalDuty cX6_totalDuty 1 .int 4 89 [.ref (x 0)] (wXo G.2.1 x rf sv K ++ wSh G.2.1 a S) (wXo G.2.1 x rf sv K ++ wSh G.2.1 a S) r := by
  unfold f_X6_totalDuty at h
  refine CI.of g (by decide) rfl (Nat.le_of_ble_eq_true rfl) ?_
  intro p l e s m below meth c A ls F hr hlocks w hl
  generalize ([.ref (x 0)] : List Value).toArray = args
  have hl : lv_has ls 1 [(0, .ref (x 0))] := hl
  refine lv_aload_n F.x F.b dX6_totalDuty_0 rfl (lv_at hl 0 rfl) ?_
  refine rg F w cl6 0 rfl 0 (by decide) q260 rfl (v := .ref (a 0)) (xr hr0 rfl) dX6_totalDuty_1 ?_
  obtain ⟨r1, hc2, h⟩ := bd h
  try dsimp only at h
  refine kVi F w (As := []) (rest := []) (ws' := wXo G.2.1 x rf sv K ++ wSh G.2.1 a S) (wr := wXo G.2.1 x rf sv K) (t_X4_dutyInOrderOfIds F.1 hc2) m_X4_dutyInOrderOfIds v_X4_dutyInOrderOfIds q1328 (ci := 8) (q0 := 1) rfl rfl rfl [1, 2, 3, 4, 5, 6, 7, 8, 9, 10, 11, 12, 13, 14] [0] [0, 1, 2, 3, 4, 5, 6, 7, 8, 9, 10, 11, 12, 13, 14] rfl rfl rfl rfl (by decide) rfl rfl ⟨Nat.le_of_ble_eq_true rfl, Nat.le_of_ble_eq_true rfl⟩ rfl hl.1 rfl (Nat.le_of_ble_eq_true rfl) dX6_totalDuty_4 ⟨Nat.le_of_ble_eq_true rfl, Nat.le_of_ble_eq_true rfl⟩ (fun H locs w => ?_)
  have z0 := sm h
  exact ei F w hr hlocks rfl z0 rfl dX6_totalDuty_7
set_option maxRecDepth 100000 in
set_option maxHeartbeats 4000000 in
theorem t_X6_totalDutyByBays {G : cG} (g : GOK G) {x : Nat → Nat} {K : Mem} {a : Nat → Nat} {S : Mem} {rf : Nat → Nat} {sv : Value} (hr0 : rf 0 = a 0) {r : Int32} (h : f_X6_totalDutyByBays K S = some r) : CI G yX6_totalDutyByBays cX6_totalDutyByBays 1 .int 4 90 [.ref (x 0)] (wXo G.2.1 x rf sv K ++ wSh G.2.1 a S) (wXo G.2.1 x rf sv K ++ wSh G.2.1 a S) r := by
  unfold f_X6_totalDutyByBays at h
  refine CI.of g (by decide) rfl (Nat.le_of_ble_eq_true rfl) ?_
  intro p l e s m below meth c A ls F hr hlocks w hl
  generalize ([.ref (x 0)] : List Value).toArray = args
  have hl : lv_has ls 1 [(0, .ref (x 0))] := hl
  refine lv_aload_n F.x F.b dX6_totalDutyByBays_0 rfl (lv_at hl 0 rfl) ?_
  refine rg F w cl6 0 rfl 0 (by decide) q260 rfl (v := .ref (a 0)) (xr hr0 rfl) dX6_totalDutyByBays_1 ?_
  obtain ⟨r1, hc2, h⟩ := bd h
  try dsimp only at h
  refine kVi F w (As := []) (rest := []) (ws' := wXo G.2.1 x rf sv K ++ wSh G.2.1 a S) (wr := wXo G.2.1 x rf sv K) (t_X4_dutyBayByBay F.1 hc2) m_X4_dutyBayByBay v_X4_dutyBayByBay q1465 (ci := 8) (q0 := 1) rfl rfl rfl [1, 2, 3, 4, 5, 6, 7, 8, 9, 10, 11, 12, 13, 14] [0] [0, 1, 2, 3, 4, 5, 6, 7, 8, 9, 10, 11, 12, 13, 14] rfl rfl rfl rfl (by decide) rfl rfl ⟨Nat.le_of_ble_eq_true rfl, Nat.le_of_ble_eq_true rfl⟩ rfl hl.1 rfl (Nat.le_of_ble_eq_true rfl) dX6_totalDutyByBays_4 ⟨Nat.le_of_ble_eq_true rfl, Nat.le_of_ble_eq_true rfl⟩ (fun H locs w => ?_)
  have z0 := sm h
  exact ei F w hr hlocks rfl z0 rfl dX6_totalDutyByBays_7
set_option maxRecDepth 100000 in
set_option maxHeartbeats 4000000 in
theorem t_X6_day {G : cG} (g : GOK G) {x : Nat → Nat} {K : Mem} {a : Nat → Nat} {S : Mem} {rf : Nat → Nat} {sv : Value} (hr0 : rf 0 = a 0) {r : Int32} (h : f_X6_day K S = some r) : CI G yX6_day cX6_day 1 .int 0 0 [.ref (x 0)] (wXo G.2.1 x rf sv K ++ wSh G.2.1 a S) (wXo G.2.1 x rf sv K ++ wSh G.2.1 a S) r := by
  unfold f_X6_day at h
  refine CI.of g (by decide) rfl (Nat.le_of_ble_eq_true rfl) ?_
  intro p l e s m below meth c A ls F hr hlocks w hl
  generalize ([.ref (x 0)] : List Value).toArray = args
  have hl : lv_has ls 1 [(0, .ref (x 0))] := hl
  refine lv_aload_n F.x F.b dX6_day_0 rfl (lv_at hl 0 rfl) ?_
  refine rg F w cl6 0 rfl 0 (by decide) q260 rfl (v := .ref (a 0)) (xr hr0 rfl) dX6_day_1 ?_
  refine rgN F w cl4 1 rfl 5 (by decide) q157 rfl (v := .int (S.1 5)) rfl dX6_day_4 ?_
  have z0 := sm h
  exact ei F w hr hlocks rfl z0 rfl dX6_day_7
set_option maxRecDepth 100000 in
set_option maxHeartbeats 4000000 in
theorem t_X6_dampCount {G : cG} (g : GOK G) {x : Nat → Nat} {K : Mem} {a : Nat → Nat} {S : Mem} {rf : Nat → Nat} {sv : Value} (hr0 : rf 0 = a 0) {r : Int32} (h : f_X6_dampCount K S = some r) : CI G yX6_dampCount cX6_dampCount 1 .int 1 22 [.ref (x 0)] (wXo G.2.1 x rf sv K ++ wSh G.2.1 a S) (wXo G.2.1 x rf sv K ++ wSh G.2.1 a S) r := by
  unfold f_X6_dampCount at h
  refine CI.of g (by decide) rfl (Nat.le_of_ble_eq_true rfl) ?_
  intro p l e s m below meth c A ls F hr hlocks w hl
  generalize ([.ref (x 0)] : List Value).toArray = args
  have hl : lv_has ls 1 [(0, .ref (x 0))] := hl
  refine lv_aload_n F.x F.b dX6_dampCount_0 rfl (lv_at hl 0 rfl) ?_
  refine rg F w cl6 0 rfl 0 (by decide) q260 rfl (v := .ref (a 0)) (xr hr0 rfl) dX6_dampCount_1 ?_
  refine rgN F w cl4 1 rfl 0 (by decide) q147 rfl (v := .ref (a 1)) rfl dX6_dampCount_4 ?_
  obtain ⟨r1, hc2, h⟩ := bd h
  try dsimp only at h
  refine kVi F w (As := []) (rest := []) (ws' := wXo G.2.1 x rf sv K ++ wSh G.2.1 a S) (wr := wXo G.2.1 x rf sv K) (t_X3_countDamp F.1 hc2) m_X3_countDamp v_X3_countDamp q299 (ci := 7) (q0 := 2) rfl rfl rfl [1, 2, 3, 4, 5, 6, 7, 8, 9, 10, 11, 12, 13, 14] [0] [0, 1, 2, 3, 4, 5, 6, 7, 8, 9, 10, 11, 12, 13, 14] rfl rfl rfl rfl (by decide) rfl rfl ⟨Nat.le_of_ble_eq_true rfl, Nat.le_of_ble_eq_true rfl⟩ rfl hl.1 rfl (Nat.le_of_ble_eq_true rfl) dX6_dampCount_7 ⟨Nat.le_of_ble_eq_true rfl, Nat.le_of_ble_eq_true rfl⟩ (fun H locs w => ?_)
  have z0 := sm h
  exact ei F w hr hlocks rfl z0 rfl dX6_dampCount_10
set_option maxRecDepth 100000 in
set_option maxHeartbeats 4000000 in
theorem t_X6_destroyedCount {G : cG} (g : GOK G) {x : Nat → Nat} {K : Mem} {a : Nat → Nat} {S : Mem} {rf : Nat → Nat} {sv : Value} (hr0 : rf 0 = a 0) {r : Int32} (h : f_X6_destroyedCount K S = some r) : CI G yX6_destroyedCount cX6_destroyedCount 1 .int 0 0 [.ref (x 0)] (wXo G.2.1 x rf sv K ++ wSh G.2.1 a S) (wXo G.2.1 x rf sv K ++ wSh G.2.1 a S) r := by
  unfold f_X6_destroyedCount at h
  refine CI.of g (by decide) rfl (Nat.le_of_ble_eq_true rfl) ?_
  intro p l e s m below meth c A ls F hr hlocks w hl
  generalize ([.ref (x 0)] : List Value).toArray = args
  have hl : lv_has ls 1 [(0, .ref (x 0))] := hl
  refine lv_aload_n F.x F.b dX6_destroyedCount_0 rfl (lv_at hl 0 rfl) ?_
  refine rg F w cl6 0 rfl 0 (by decide) q260 rfl (v := .ref (a 0)) (xr hr0 rfl) dX6_destroyedCount_1 ?_
  refine rgN F w cl4 1 rfl 6 (by decide) q159 rfl (v := .int (S.1 6)) rfl dX6_destroyedCount_4 ?_
  have z0 := sm h
  exact ei F w hr hlocks rfl z0 rfl dX6_destroyedCount_7
set_option maxRecDepth 100000 in
set_option maxHeartbeats 4000000 in
theorem t_X6_queueLength {G : cG} (g : GOK G) {x : Nat → Nat} {K : Mem} {a : Nat → Nat} {S : Mem} {rf : Nat → Nat} {sv : Value} (hr0 : rf 0 = a 0) {r : Int32} (h : f_X6_queueLength K S = some r) : CI G yX6_queueLength cX6_queueLength 1 .int 0 0 [.ref (x 0)] (wXo G.2.1 x rf sv K ++ wSh G.2.1 a S) (wXo G.2.1 x rf sv K ++ wSh G.2.1 a S) r := by
  unfold f_X6_queueLength at h
  refine CI.of g (by decide) rfl (Nat.le_of_ble_eq_true rfl) ?_
  intro p l e s m below meth c A ls F hr hlocks w hl
  generalize ([.ref (x 0)] : List Value).toArray = args
  have hl : lv_has ls 1 [(0, .ref (x 0))] := hl
  refine lv_aload_n F.x F.b dX6_queueLength_0 rfl (lv_at hl 0 rfl) ?_
  refine rg F w cl6 0 rfl 0 (by decide) q260 rfl (v := .ref (a 0)) (xr hr0 rfl) dX6_queueLength_1 ?_
  refine rgN F w cl4 1 rfl 2 (by decide) q151 rfl (v := .ref (a 12)) rfl dX6_queueLength_4 ?_
  refine rgN F w cl0 13 rfl 1 (by decide) q140 rfl (v := .int (S.1 7)) rfl dX6_queueLength_7 ?_
  have z0 := sm h
  exact ei F w hr hlocks rfl z0 rfl dX6_queueLength_10
set_option maxRecDepth 100000 in
set_option maxHeartbeats 4000000 in
theorem t_X6_bond {G : cG} (g : GOK G) {x : Nat → Nat} {K : Mem} {a : Nat → Nat} {S : Mem} {rf : Nat → Nat} {sv : Value} (hr0 : rf 0 = a 0) {r : Int32} (h : f_X6_bond K S = some r) : CI G yX6_bond cX6_bond 1 .int 0 0 [.ref (x 0)] (wXo G.2.1 x rf sv K ++ wSh G.2.1 a S) (wXo G.2.1 x rf sv K ++ wSh G.2.1 a S) r := by
  unfold f_X6_bond at h
  refine CI.of g (by decide) rfl (Nat.le_of_ble_eq_true rfl) ?_
  intro p l e s m below meth c A ls F hr hlocks w hl
  generalize ([.ref (x 0)] : List Value).toArray = args
  have hl : lv_has ls 1 [(0, .ref (x 0))] := hl
  refine lv_aload_n F.x F.b dX6_bond_0 rfl (lv_at hl 0 rfl) ?_
  refine rg F w cl6 0 rfl 0 (by decide) q260 rfl (v := .ref (a 0)) (xr hr0 rfl) dX6_bond_1 ?_
  refine rgN F w cl4 1 rfl 3 (by decide) q153 rfl (v := .int (S.1 3)) rfl dX6_bond_4 ?_
  have z0 := sm h
  exact ei F w hr hlocks rfl z0 rfl dX6_bond_7
set_option maxRecDepth 100000 in
set_option maxHeartbeats 4000000 in
theorem t_X6_collected {G : cG} (g : GOK G) {x : Nat → Nat} {K : Mem} {a : Nat → Nat} {S : Mem} {rf : Nat → Nat} {sv : Value} (hr0 : rf 0 = a 0) {r : Int32} (h : f_X6_collected K S = some r) : CI G yX6_collected cX6_collected 1 .int 0 0 [.ref (x 0)] (wXo G.2.1 x rf sv K ++ wSh G.2.1 a S) (wXo G.2.1 x rf sv K ++ wSh G.2.1 a S) r := by
  unfold f_X6_collected at h
  refine CI.of g (by decide) rfl (Nat.le_of_ble_eq_true rfl) ?_
  intro p l e s m below meth c A ls F hr hlocks w hl
  generalize ([.ref (x 0)] : List Value).toArray = args
  have hl : lv_has ls 1 [(0, .ref (x 0))] := hl
  refine lv_aload_n F.x F.b dX6_collected_0 rfl (lv_at hl 0 rfl) ?_
  refine rg F w cl6 0 rfl 0 (by decide) q260 rfl (v := .ref (a 0)) (xr hr0 rfl) dX6_collected_1 ?_
  refine rgN F w cl4 1 rfl 4 (by decide) q155 rfl (v := .int (S.1 4)) rfl dX6_collected_4 ?_
  have z0 := sm h
  exact ei F w hr hlocks rfl z0 rfl dX6_collected_7
set_option maxRecDepth 100000 in
set_option maxHeartbeats 4000000 in
theorem t_X6_dampReachByStretches {G : cG} (g : GOK G) {x : Nat → Nat} {K : Mem} {a : Nat → Nat} {S : Mem} {rf : Nat → Nat} {sv : Value} (hr0 : rf 0 = a 0) {r : Int32} (h : f_X6_dampReachByStretches K S = some r) : CI G yX6_dampReachByStretches cX6_dampReachByStretches 1 .int 2 47 [.ref (x 0)] (wXo G.2.1 x rf sv K ++ wSh G.2.1 a S) (wXo G.2.1 x rf sv K ++ wSh G.2.1 a S) r := by
  unfold f_X6_dampReachByStretches at h
  refine CI.of g (by decide) rfl (Nat.le_of_ble_eq_true rfl) ?_
  intro p l e s m below meth c A ls F hr hlocks w hl
  generalize ([.ref (x 0)] : List Value).toArray = args
  have hl : lv_has ls 1 [(0, .ref (x 0))] := hl
  refine lv_aload_n F.x F.b dX6_dampReachByStretches_0 rfl (lv_at hl 0 rfl) ?_
  refine rg F w cl6 0 rfl 0 (by decide) q260 rfl (v := .ref (a 0)) (xr hr0 rfl) dX6_dampReachByStretches_1 ?_
  refine rgN F w cl4 1 rfl 0 (by decide) q147 rfl (v := .ref (a 1)) rfl dX6_dampReachByStretches_4 ?_
  obtain ⟨r1, hc2, h⟩ := bd h
  try dsimp only at h
  refine kVi F w (As := []) (rest := []) (ws' := wXo G.2.1 x rf sv K ++ wSh G.2.1 a S) (wr := wXo G.2.1 x rf sv K) (t_X3_reachByStretches F.1 hc2) m_X3_reachByStretches v_X3_reachByStretches q1306 (ci := 7) (q0 := 2) rfl rfl rfl [1, 2, 3, 4, 5, 6, 7, 8, 9, 10, 11, 12, 13, 14] [0] [0, 1, 2, 3, 4, 5, 6, 7, 8, 9, 10, 11, 12, 13, 14] rfl rfl rfl rfl (by decide) rfl rfl ⟨Nat.le_of_ble_eq_true rfl, Nat.le_of_ble_eq_true rfl⟩ rfl hl.1 rfl (Nat.le_of_ble_eq_true rfl) dX6_dampReachByStretches_7 ⟨Nat.le_of_ble_eq_true rfl, Nat.le_of_ble_eq_true rfl⟩ (fun H locs w => ?_)
  have z0 := sm h
  exact ei F w hr hlocks rfl z0 rfl dX6_dampReachByStretches_10
set_option maxRecDepth 100000 in
set_option maxHeartbeats 4000000 in
theorem t_X6_dampReach {G : cG} (g : GOK G) {x : Nat → Nat} {K : Mem} {a : Nat → Nat} {S : Mem} {ba : Nat → Nat} {B : Mem} {rf : Nat → Nat} {sv : Value} (hr0 : rf 0 = a 0) (hr6 : rf 6 = ba 0) {r : Int32} {B' : Mem} (h : f_X6_dampReach K S B = some (r, B')) : CI G yX6_dampReach cX6_dampReach 1 .int 3 67 [.ref (x 0)] (wXo G.2.1 x rf sv K ++ wSh G.2.1 a S ++ wAb G.2.1 ba B) (wXo G.2.1 x rf sv K ++ wSh G.2.1 a S ++ wAb G.2.1 ba B') r := by
  unfold f_X6_dampReach at h
  refine CI.of g (by decide) rfl (Nat.le_of_ble_eq_true rfl) ?_
  intro p l e s m below meth c A ls F hr hlocks w hl
  generalize ([.ref (x 0)] : List Value).toArray = args
  have hl : lv_has ls 1 [(0, .ref (x 0))] := hl
  refine lv_aload_n F.x F.b dX6_dampReach_0 rfl (lv_at hl 0 rfl) ?_
  refine rg F w cl6 0 rfl 0 (by decide) q260 rfl (v := .ref (a 0)) (xr hr0 rfl) dX6_dampReach_1 ?_
  refine rgN F w cl4 1 rfl 0 (by decide) q147 rfl (v := .ref (a 1)) rfl dX6_dampReach_4 ?_
  refine lv_aload_n F.x F.b dX6_dampReach_7 rfl (lv_at hl 0 rfl) ?_
  refine rg F w cl6 0 rfl 6 (by decide) q266 rfl (v := .ref (ba 0)) (xr hr6 rfl) dX6_dampReach_8 ?_
  obtain ⟨⟨r1, B_2⟩, hc3, h⟩ := bd h
  try dsimp only at h
  refine kVi F w (As := [.ref (ba 0)]) (rest := []) (ws' := wXo G.2.1 x rf sv K ++ wSh G.2.1 a S ++ wAb G.2.1 ba B_2) (wr := wXo G.2.1 x rf sv K) (t_X3_reachByQueue F.1 hc3) m_X3_reachByQueue v_X3_reachByQueue q1293 (ci := 7) (q0 := 2) rfl rfl rfl [1, 2, 3, 4, 5, 6, 7, 8, 9, 10, 11, 12, 13, 14, 15] [0] [0, 1, 2, 3, 4, 5, 6, 7, 8, 9, 10, 11, 12, 13, 14, 15] rfl rfl rfl rfl (by decide) rfl rfl ⟨Nat.le_of_ble_eq_true rfl, Nat.le_of_ble_eq_true rfl⟩ rfl hl.1 rfl (Nat.le_of_ble_eq_true rfl) dX6_dampReach_11 ⟨Nat.le_of_ble_eq_true rfl, Nat.le_of_ble_eq_true rfl⟩ (fun H locs w => ?_)
  obtain ⟨z0, z1⟩ := sm2 (sm h)
  exact ei F w hr hlocks rfl z0 (by rw [← z1]) dX6_dampReach_14
set_option maxRecDepth 100000 in
set_option maxHeartbeats 4000000 in
theorem t_X6_mostReleases {G : cG} (g : GOK G) {x : Nat → Nat} {K : Mem} {a : Nat → Nat} {S : Mem} {da : Nat → Nat} {B : Mem} {rf : Nat → Nat} {sv : Value} (hr0 : rf 0 = a 0) (hr5 : rf 5 = da 0) {r : Int32} {B' : Mem} (h : f_X6_mostReleases K S B = some (r, B')) : CI G yX6_mostReleases cX6_mostReleases 1 .int 5 114 [.ref (x 0)] (wXo G.2.1 x rf sv K ++ wSh G.2.1 a S ++ wAd G.2.1 da B) (wXo G.2.1 x rf sv K ++ wSh G.2.1 a S ++ wAd G.2.1 da B') r := by
  unfold f_X6_mostReleases at h
  refine CI.of g (by decide) rfl (Nat.le_of_ble_eq_true rfl) ?_
  intro p l e s m below meth c A ls F hr hlocks w hl
  generalize ([.ref (x 0)] : List Value).toArray = args
  have hl : lv_has ls 1 [(0, .ref (x 0))] := hl
  refine lv_aload_n F.x F.b dX6_mostReleases_0 rfl (lv_at hl 0 rfl) ?_
  refine rg F w cl6 0 rfl 0 (by decide) q260 rfl (v := .ref (a 0)) (xr hr0 rfl) dX6_mostReleases_1 ?_
  refine lv_aload_n F.x F.b dX6_mostReleases_4 rfl (lv_at hl 0 rfl) ?_
  refine rg F w cl6 0 rfl 5 (by decide) q265 rfl (v := .ref (da 0)) (xr hr5 rfl) dX6_mostReleases_5 ?_
  obtain ⟨⟨r1, B_2⟩, hc3, h⟩ := bd h
  try dsimp only at h
  refine kVi F w (As := [.ref (da 0)]) (rest := []) (ws' := wXo G.2.1 x rf sv K ++ wSh G.2.1 a S ++ wAd G.2.1 da B_2) (wr := wXo G.2.1 x rf sv K) (t_X4_countReleases F.1 hc3) m_X4_countReleases v_X4_countReleases q323 (ci := 8) (q0 := 1) rfl rfl rfl [1, 2, 3, 4, 5, 6, 7, 8, 9, 10, 11, 12, 13, 14, 15] [0] [0, 1, 2, 3, 4, 5, 6, 7, 8, 9, 10, 11, 12, 13, 14, 15] rfl rfl rfl rfl (by decide) rfl rfl ⟨Nat.le_of_ble_eq_true rfl, Nat.le_of_ble_eq_true rfl⟩ rfl hl.1 rfl (Nat.le_of_ble_eq_true rfl) dX6_mostReleases_8 ⟨Nat.le_of_ble_eq_true rfl, Nat.le_of_ble_eq_true rfl⟩ (fun H locs w => ?_)
  obtain ⟨z0, z1⟩ := sm2 (sm h)
  exact ei F w hr hlocks rfl z0 (by rw [← z1]) dX6_mostReleases_11
set_option maxRecDepth 100000 in
set_option maxHeartbeats 4000000 in
theorem t_X6_isConsistent {G : cG} (g : GOK G) {x : Nat → Nat} {K : Mem} {a : Nat → Nat} {S : Mem} {ba : Nat → Nat} {B : Mem} {rf : Nat → Nat} {sv : Value} (hr0 : rf 0 = a 0) (hr6 : rf 6 = ba 0) {r : Int32} {B' : Mem} (h : f_X6_isConsistent K S B = some (r, B')) : CI G yX6_isConsistent cX6_isConsistent 1 .boolean 4 90 [.ref (x 0)] (wXo G.2.1 x rf sv K ++ wSh G.2.1 a S ++ wAb G.2.1 ba B) (wXo G.2.1 x rf sv K ++ wSh G.2.1 a S ++ wAb G.2.1 ba B') r := by
  unfold f_X6_isConsistent at h
  refine CI.of g (by decide) rfl (Nat.le_of_ble_eq_true rfl) ?_
  intro p l e s m below meth c A ls F hr hlocks w hl
  generalize ([.ref (x 0)] : List Value).toArray = args
  have hl : lv_has ls 1 [(0, .ref (x 0))] := hl
  refine lv_aload_n F.x F.b dX6_isConsistent_0 rfl (lv_at hl 0 rfl) ?_
  refine rg F w cl6 0 rfl 0 (by decide) q260 rfl (v := .ref (a 0)) (xr hr0 rfl) dX6_isConsistent_1 ?_
  obtain ⟨r1, hc2, h⟩ := bd h
  try dsimp only at h
  refine kVi F w (As := []) (rest := []) (ws' := wXo G.2.1 x rf sv K ++ wSh G.2.1 a S ++ wAb G.2.1 ba B) (wr := wXo G.2.1 x rf sv K ++ wAb G.2.1 ba B) (t_X4_dutiesAgree F.1 hc2) m_X4_dutiesAgree v_X4_dutiesAgree q1473 (ci := 8) (q0 := 1) rfl rfl rfl [1, 2, 3, 4, 5, 6, 7, 8, 9, 10, 11, 12, 13, 14] [0, 15] [0, 2, 3, 4, 5, 6, 7, 8, 9, 10, 11, 12, 13, 14, 15, 1] rfl rfl rfl rfl (by decide) rfl rfl ⟨Nat.le_of_ble_eq_true rfl, Nat.le_of_ble_eq_true rfl⟩ rfl hl.1 rfl (Nat.le_of_ble_eq_true rfl) dX6_isConsistent_4 ⟨Nat.le_of_ble_eq_true rfl, Nat.le_of_ble_eq_true rfl⟩ (fun H locs w => ?_)
  refine lv_if_eq (tgt := 58) F.x F.b dX6_isConsistent_7 (by decide) (fun c3 => ?_) (fun c3 => ?_)
  · have h := it c3 h
    refine lv_iconst (v := 0) F.x F.b dX6_isConsistent_58 (by decide) ?_
    obtain ⟨z0, z1⟩ := sm2 (sm h)
    exact ei F w hr hlocks rfl z0 (by rw [← z1]) dX6_isConsistent_59
  · have h := ie c3 h
    refine lv_aload_n F.x F.b dX6_isConsistent_10 rfl (lv_at hl 0 rfl) ?_
    refine rg F w cl6 0 rfl 0 (by decide) q260 rfl (v := .ref (a 0)) (xr hr0 rfl) dX6_isConsistent_11 ?_
    obtain ⟨r4, hc5, h⟩ := bd h
    try dsimp only at h
    refine kVi F w (As := []) (rest := []) (ws' := wXo G.2.1 x rf sv K ++ wSh G.2.1 a S ++ wAb G.2.1 ba B) (wr := wXo G.2.1 x rf sv K ++ wAb G.2.1 ba B) (t_X4_dutyInOrderOfIds F.1 hc5) m_X4_dutyInOrderOfIds v_X4_dutyInOrderOfIds q1328 (ci := 8) (q0 := 1) rfl rfl rfl [1, 2, 3, 4, 5, 6, 7, 8, 9, 10, 11, 12, 13, 14] [0, 15] [0, 2, 3, 4, 5, 6, 7, 8, 9, 10, 11, 12, 13, 14, 15, 1] rfl rfl rfl rfl (by decide) rfl rfl ⟨Nat.le_of_ble_eq_true rfl, Nat.le_of_ble_eq_true rfl⟩ rfl hl.1 rfl (Nat.le_of_ble_eq_true rfl) dX6_isConsistent_14 ⟨Nat.le_of_ble_eq_true rfl, Nat.le_of_ble_eq_true rfl⟩ (fun H locs w => ?_)
    refine lv_aload_n F.x F.b dX6_isConsistent_17 rfl (lv_at hl 0 rfl) ?_
    refine rg F w cl6 0 rfl 0 (by decide) q260 rfl (v := .ref (a 0)) (xr hr0 rfl) dX6_isConsistent_18 ?_
    obtain ⟨r6, hc7, h⟩ := bd h
    try dsimp only at h
    refine kVi F w (As := []) (rest := [.int r4]) (ws' := wXo G.2.1 x rf sv K ++ wSh G.2.1 a S ++ wAb G.2.1 ba B) (wr := wXo G.2.1 x rf sv K ++ wAb G.2.1 ba B) (t_X4_dutyBayByBay F.1 hc7) m_X4_dutyBayByBay v_X4_dutyBayByBay q1465 (ci := 8) (q0 := 1) rfl rfl rfl [1, 2, 3, 4, 5, 6, 7, 8, 9, 10, 11, 12, 13, 14] [0, 15] [0, 2, 3, 4, 5, 6, 7, 8, 9, 10, 11, 12, 13, 14, 15, 1] rfl rfl rfl rfl (by decide) rfl rfl ⟨Nat.le_of_ble_eq_true rfl, Nat.le_of_ble_eq_true rfl⟩ rfl hl.1 rfl (Nat.le_of_ble_eq_true rfl) dX6_isConsistent_21 ⟨Nat.le_of_ble_eq_true rfl, Nat.le_of_ble_eq_true rfl⟩ (fun H locs w => ?_)
    refine lv_icmp_ne (tgt := 58) F.x F.b dX6_isConsistent_24 (by decide) (fun c8 => ?_) (fun c8 => ?_)
    · have h := ie c8 h
      refine lv_iconst (v := 0) F.x F.b dX6_isConsistent_58 (by decide) ?_
      obtain ⟨z0, z1⟩ := sm2 (sm h)
      exact ei F w hr hlocks rfl z0 (by rw [← z1]) dX6_isConsistent_59
    · have h := it c8 h
      refine lv_aload_n F.x F.b dX6_isConsistent_27 rfl (lv_at hl 0 rfl) ?_
      refine rg F w cl6 0 rfl 0 (by decide) q260 rfl (v := .ref (a 0)) (xr hr0 rfl) dX6_isConsistent_28 ?_
      refine rgN F w cl4 1 rfl 0 (by decide) q147 rfl (v := .ref (a 1)) rfl dX6_isConsistent_31 ?_
      refine lv_aload_n F.x F.b dX6_isConsistent_34 rfl (lv_at hl 0 rfl) ?_
      refine rg F w cl6 0 rfl 6 (by decide) q266 rfl (v := .ref (ba 0)) (xr hr6 rfl) dX6_isConsistent_35 ?_
      obtain ⟨⟨r9, B_10⟩, hc11, h⟩ := bd h
      try dsimp only at h
      refine kVi F w (As := [.ref (ba 0)]) (rest := []) (ws' := wXo G.2.1 x rf sv K ++ wSh G.2.1 a S ++ wAb G.2.1 ba B_10) (wr := wXo G.2.1 x rf sv K) (t_X3_reachByQueue F.1 hc11) m_X3_reachByQueue v_X3_reachByQueue q1293 (ci := 7) (q0 := 2) rfl rfl rfl [1, 2, 3, 4, 5, 6, 7, 8, 9, 10, 11, 12, 13, 14, 15] [0] [0, 1, 2, 3, 4, 5, 6, 7, 8, 9, 10, 11, 12, 13, 14, 15] rfl rfl rfl rfl (by decide) rfl rfl ⟨Nat.le_of_ble_eq_true rfl, Nat.le_of_ble_eq_true rfl⟩ rfl hl.1 rfl (Nat.le_of_ble_eq_true rfl) dX6_isConsistent_38 ⟨Nat.le_of_ble_eq_true rfl, Nat.le_of_ble_eq_true rfl⟩ (fun H locs w => ?_)
      refine lv_aload_n F.x F.b dX6_isConsistent_41 rfl (lv_at hl 0 rfl) ?_
      refine rg F w cl6 0 rfl 0 (by decide) q260 rfl (v := .ref (a 0)) (xr hr0 rfl) dX6_isConsistent_42 ?_
      refine rgN F w cl4 1 rfl 0 (by decide) q147 rfl (v := .ref (a 1)) rfl dX6_isConsistent_45 ?_
      obtain ⟨r12, hc13, h⟩ := bd h
      try dsimp only at h
      refine kVi F w (As := []) (rest := [.int r9]) (ws' := wXo G.2.1 x rf sv K ++ wSh G.2.1 a S ++ wAb G.2.1 ba B_10) (wr := wXo G.2.1 x rf sv K ++ wAb G.2.1 ba B_10) (t_X3_reachByStretches F.1 hc13) m_X3_reachByStretches v_X3_reachByStretches q1306 (ci := 7) (q0 := 2) rfl rfl rfl [1, 2, 3, 4, 5, 6, 7, 8, 9, 10, 11, 12, 13, 14] [0, 15] [0, 2, 3, 4, 5, 6, 7, 8, 9, 10, 11, 12, 13, 14, 15, 1] rfl rfl rfl rfl (by decide) rfl rfl ⟨Nat.le_of_ble_eq_true rfl, Nat.le_of_ble_eq_true rfl⟩ rfl hl.1 rfl (Nat.le_of_ble_eq_true rfl) dX6_isConsistent_48 ⟨Nat.le_of_ble_eq_true rfl, Nat.le_of_ble_eq_true rfl⟩ (fun H locs w => ?_)
      refine lv_icmp_ne (tgt := 58) F.x F.b dX6_isConsistent_51 (by decide) (fun c14 => ?_) (fun c14 => ?_)
      · have h := ie c14 h
        refine lv_iconst (v := 0) F.x F.b dX6_isConsistent_58 (by decide) ?_
        obtain ⟨z0, z1⟩ := sm2 (sm h)
        exact ei F w hr hlocks rfl z0 (by rw [← z1]) dX6_isConsistent_59
      · have h := it c14 h
        refine lv_iconst (v := 1) F.x F.b dX6_isConsistent_54 (by decide) ?_
        refine lv_goto (tgt := 59) F.x F.b dX6_isConsistent_55 (by decide) ?_
        obtain ⟨z0, z1⟩ := sm2 (sm h)
        exact ei F w hr hlocks rfl z0 (by rw [← z1]) dX6_isConsistent_59
set_option maxRecDepth 100000 in
set_option maxHeartbeats 4000000 in
theorem t_X6_performFirst {G : cG} (g : GOK G) {ks kv : Nat → Nat} (hSG : SG G ks kv) {x : Nat → Nat} {K : Mem} {a : Nat → Nat} {S : Mem} {ta : Nat → Nat} {C : Mem} {rf : Nat → Nat} {sv : Value} (hr0 : rf 0 = a 0) (hr3 : rf 3 = ta 0) {x1 : Int32} {r : Int32} {S' : Mem} {C' : Mem} (h : f_X6_performFirst K S C x1 = some (r, S', C')) : CI G yX6_performFirst cX6_performFirst 3 .int 6 132 [.ref (x 0), .int x1] (wXo G.2.1 x rf sv K ++ wSh G.2.1 a S ++ wTe G.2.1 ta C) (wXo G.2.1 x rf sv K ++ wSh G.2.1 a S' ++ wTe G.2.1 ta C') r := by
  unfold f_X6_performFirst at h
  refine CI.of g (by decide) rfl (Nat.le_of_ble_eq_true rfl) ?_
  intro p l e s m below meth c A ls F hr hlocks w hl
  generalize ([.ref (x 0), .int x1] : List Value).toArray = args
  have hl : lv_has ls 3 [(0, .ref (x 0)), (1, .int x1)] := hl
  have L9 : ∀ (x1 : Int32) (K : Mem) {k : Mem → Mem → Option (Int32 × Mem × Mem)} (n : Nat) (x2 : Int32) (S : Mem) (C : Mem) (H : Heap) (locs : List Loc) (ls : Array Slot), Wd G A s.heap (wXo G.2.1 x rf sv K ++ wSh G.2.1 a S ++ wTe G.2.1 ta C) H locs → lv_has ls 3 [(0, .ref (x 0)), (1, .int x1), (2, .int x2)] → f_X6_performFirst_L9 x1 K k n x2 S C = some (r, S', C') → (∀ (S : Mem) (C : Mem) (H : Heap) (locs : List Loc) (ls : Array Slot), Wd G A s.heap (wXo G.2.1 x rf sv K ++ wSh G.2.1 a S ++ wTe G.2.1 ta C) H locs → lv_has ls 3 [(1, .int x1)] → k S C = some (r, S', C') → W p l e { frames := 6, cells := 0, slots := 0, locals := 132 } s m args below meth c H locs 0 0 (QI G A (wXo G.2.1 x rf sv K ++ wSh G.2.1 a S' ++ wTe G.2.1 ta C') r below args s) (F0 m 53 ls [])) → W p l e { frames := 6, cells := 0, slots := 0, locals := 132 } s m args below meth c H locs 0 0 (QI G A (wXo G.2.1 x rf sv K ++ wSh G.2.1 a S' ++ wTe G.2.1 ta C') r below args s) (F0 m 9 ls []) := by
    clear h w hl
    intro x1 K k n
    induction n with
    | zero =>
      intro x2 S C H locs ls w hl h hk
      exact nomatch (show (none : Option (Int32 × Mem × Mem)) = some (r, S', C') from h)
    | succ n ih =>
      intro x2 S C H locs ls w hl h hk
      rw [f_X6_performFirst_L9] at h
      refine lv_iload_n F.x F.b dX6_performFirst_9 rfl (lv_at hl 2 rfl) ?_
      refine lv_iload_n F.x F.b dX6_performFirst_10 rfl (lv_at hl 1 rfl) ?_
      refine lv_icmp_ge (tgt := 53) F.x F.b dX6_performFirst_11 (by decide) (fun c3 => ?_) (fun c3 => ?_)
      · have h := it c3 h
        exact hk S C _ _ _ w (lv_sub hl [1] rfl) h
      · have h := ie c3 h
        refine lv_aload_n F.x F.b dX6_performFirst_14 rfl (lv_at hl 0 rfl) ?_
        refine rg F w cl6 0 rfl 3 (by decide) q263 rfl (v := .ref (ta 0)) (xr hr3 rfl) dX6_performFirst_15 ?_
        obtain ⟨⟨r4, C_5⟩, hc6, h⟩ := bd h
        try dsimp only at h
        refine kVi F w (As := []) (rest := []) (ws' := wXo G.2.1 x rf sv K ++ wSh G.2.1 a S ++ wTe G.2.1 ta C_5) (wr := wXo G.2.1 x rf sv K ++ wSh G.2.1 a S) (t_X1_readCommand F.1 hSG hc6) m_X1_readCommand v_X1_readCommand q1112 (ci := 5) (q0 := 15) rfl rfl rfl [15, 16, 17] [0, 1, 2, 3, 4, 5, 6, 7, 8, 9, 10, 11, 12, 13, 14] [0, 1, 2, 3, 4, 5, 6, 7, 8, 9, 10, 11, 12, 13, 14, 15, 16, 17] rfl rfl rfl rfl (by decide) rfl rfl ⟨Nat.le_of_ble_eq_true rfl, Nat.le_of_ble_eq_true rfl⟩ rfl hl.1 rfl (Nat.le_of_ble_eq_true rfl) dX6_performFirst_18 ⟨Nat.le_of_ble_eq_true rfl, Nat.le_of_ble_eq_true rfl⟩ (fun H locs w => ?_)
        refine lv_if_eq (tgt := 38) F.x F.b dX6_performFirst_21 (by decide) (fun c7 => ?_) (fun c7 => ?_)
        · have h := it c7 h
          refine lv_iload_n F.x F.b dX6_performFirst_38 rfl (lv_at hl 2 rfl) ?_
          obtain ⟨z0, z1, z2⟩ := sm3 (sm h)
          exact ei F w hr hlocks rfl z0 (by rw [← z1, ← z2]) dX6_performFirst_39
        · have h := ie c7 h
          refine lv_aload_n F.x F.b dX6_performFirst_24 rfl (lv_at hl 0 rfl) ?_
          refine rg F w cl6 0 rfl 0 (by decide) q260 rfl (v := .ref (a 0)) (xr hr0 rfl) dX6_performFirst_25 ?_
          refine lv_aload_n F.x F.b dX6_performFirst_28 rfl (lv_at hl 0 rfl) ?_
          refine rg F w cl6 0 rfl 3 (by decide) q263 rfl (v := .ref (ta 0)) (xr hr3 rfl) dX6_performFirst_29 ?_
          obtain ⟨⟨r8, S_9⟩, hc10, h⟩ := bd h
          try dsimp only at h
          refine kVi F w (As := [.ref (ta 0)]) (rest := []) (ws' := wXo G.2.1 x rf sv K ++ wSh G.2.1 a S_9 ++ wTe G.2.1 ta C_5) (wr := wXo G.2.1 x rf sv K) (t_X4_perform F.1 hc10) m_X4_perform v_X4_perform q1113 (ci := 8) (q0 := 1) rfl rfl rfl [1, 2, 3, 4, 5, 6, 7, 8, 9, 10, 11, 12, 13, 14, 15, 16, 17] [0] [0, 1, 2, 3, 4, 5, 6, 7, 8, 9, 10, 11, 12, 13, 14, 15, 16, 17] rfl rfl rfl rfl (by decide) rfl rfl ⟨Nat.le_of_ble_eq_true rfl, Nat.le_of_ble_eq_true rfl⟩ rfl hl.1 rfl (Nat.le_of_ble_eq_true rfl) dX6_performFirst_32 ⟨Nat.le_of_ble_eq_true rfl, Nat.le_of_ble_eq_true rfl⟩ (fun H locs w => ?_)
          refine lv_if_ge (tgt := 40) F.x F.b dX6_performFirst_35 (by decide) (fun c11 => ?_) (fun c11 => ?_)
          · have h := it c11 h
            refine lv_aload_n F.x F.b dX6_performFirst_40 rfl (lv_at hl 0 rfl) ?_
            refine rg F w cl6 0 rfl 3 (by decide) q263 rfl (v := .ref (ta 0)) (xr hr3 rfl) dX6_performFirst_41 ?_
            obtain ⟨C_12, hc13, h⟩ := bd h
            try dsimp only at h
            refine kVv F w (As := []) (rest := []) (ws' := wXo G.2.1 x rf sv K ++ wSh G.2.1 a S_9 ++ wTe G.2.1 ta C_12) (wr := wXo G.2.1 x rf sv K ++ wSh G.2.1 a S_9) (t_X1_skipSemicolon F.1 hc13) m_X1_skipSemicolon v_X1_skipSemicolon q1141 (ci := 5) (q0 := 15) rfl rfl rfl [15, 16, 17] [0, 1, 2, 3, 4, 5, 6, 7, 8, 9, 10, 11, 12, 13, 14] [0, 1, 2, 3, 4, 5, 6, 7, 8, 9, 10, 11, 12, 13, 14, 15, 16, 17] rfl rfl rfl rfl (by decide) rfl rfl ⟨Nat.le_of_ble_eq_true rfl, Nat.le_of_ble_eq_true rfl⟩ rfl hl.1 rfl (Nat.le_of_ble_eq_true rfl) dX6_performFirst_44 ⟨Nat.le_of_ble_eq_true rfl, Nat.le_of_ble_eq_true rfl⟩ (fun H locs w => ?_)
            refine lv_iinc (v := (x2 + 1)) (lv' := [(2, .int (x2 + 1)), (0, .ref (x 0)), (1, .int x1)]) F.x F.b dX6_performFirst_47 hl (k := 2) rfl rfl (by decide) rfl (fun ls hl => ?_)
            refine lv_goto (tgt := 9) F.x F.b dX6_performFirst_50 (by decide) ?_
            exact ih (x2 + 1) S_9 C_12 _ _ _ w (lv_sub hl [1, 2, 0] rfl) h hk
          · have h := ie c11 h
            refine lv_iload_n F.x F.b dX6_performFirst_38 rfl (lv_at hl 2 rfl) ?_
            obtain ⟨z0, z1, z2⟩ := sm3 (sm h)
            exact ei F w hr hlocks rfl z0 (by rw [← z1, ← z2]) dX6_performFirst_39
  refine lv_aload_n F.x F.b dX6_performFirst_0 rfl (lv_at hl 0 rfl) ?_
  refine rg F w cl6 0 rfl 3 (by decide) q263 rfl (v := .ref (ta 0)) (xr hr3 rfl) dX6_performFirst_1 ?_
  obtain ⟨C_1, hc2, h⟩ := bd h
  try dsimp only at h
  refine kVv F w (As := []) (rest := []) (ws' := wXo G.2.1 x rf sv K ++ wSh G.2.1 a S ++ wTe G.2.1 ta C_1) (wr := wXo G.2.1 x rf sv K ++ wSh G.2.1 a S) (t_X1_rewind F.1 hc2) m_X1_rewind v_X1_rewind q1111 (ci := 5) (q0 := 15) rfl rfl rfl [15, 16, 17] [0, 1, 2, 3, 4, 5, 6, 7, 8, 9, 10, 11, 12, 13, 14] [0, 1, 2, 3, 4, 5, 6, 7, 8, 9, 10, 11, 12, 13, 14, 15, 16, 17] rfl rfl rfl rfl (by decide) rfl rfl ⟨Nat.le_of_ble_eq_true rfl, Nat.le_of_ble_eq_true rfl⟩ rfl hl.1 rfl (Nat.le_of_ble_eq_true rfl) dX6_performFirst_4 ⟨Nat.le_of_ble_eq_true rfl, Nat.le_of_ble_eq_true rfl⟩ (fun H locs w => ?_)
  refine lv_iconst (v := 0) F.x F.b dX6_performFirst_7 (by decide) ?_
  refine lv_istore_n (lv' := [(2, .int 0), (0, .ref (x 0)), (1, .int x1)]) F.x F.b dX6_performFirst_8 rfl hl (by decide) rfl (fun ls hl => ?_)
  refine L9 x1 K _ 0 S C_1 _ _ _ w (lv_sub hl [1, 2, 0] rfl) h ?_
  intro S_14 C_14 H locs ls w hl h
  try dsimp only at h
  refine lv_iload_n F.x F.b dX6_performFirst_53 rfl (lv_at hl 0 rfl) ?_
  obtain ⟨z0, z1, z2⟩ := sm3 (sm h)
  exact ei F w hr hlocks rfl z0 (by rw [← z1, ← z2]) dX6_performFirst_54

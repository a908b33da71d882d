/-! printed by wip/whole/tools/emit.py: the walks -/
set_option maxRecDepth 100000 in
set_option maxHeartbeats 4000000 in
theorem t_X7_thrown {G : cG} (g : GOK G) {mo : Nat → Nat} {M : Mem} {r : Int32} (h : f_X7_thrown M = some r) : CI G yX7_thrown cX7_thrown 1 .int 0 0 [.ref (mo 0)] (wMo G.2.1 mo M) (wMo G.2.1 mo M) r := by
  unfold f_X7_thrown at h
  refine CI.of g (by decide) rfl (Nat.le_of_ble_eq_true rfl) ?_
  intro p l e s m below meth c A ls F hr hlocks w hl
  generalize ([.ref (mo 0)] : List Value).toArray = args
  have hl : lv_has ls 1 [(0, .ref (mo 0))] := hl
  refine lv_aload_n F.x F.b dX7_thrown_0 rfl (lv_at hl 0 rfl) ?_
  refine rg F w cl7 0 (at_Mo_0 _ _ _) 0 (by decide) q1547 rfl (v := .int (M.1 0)) rfl dX7_thrown_1 ?_
  have z0 := sm h
  exact ei F w hr hlocks rfl z0 rfl dX7_thrown_4
set_option maxRecDepth 100000 in
set_option maxHeartbeats 4000000 in
theorem t_X7_remembers {G : cG} (g : GOK G) {mo : Nat → Nat} {M : Mem} {M' : Mem} (h : f_X7_remembers M = some M') : CV G yX7_remembers cX7_remembers 2 0 0 [.ref (mo 0)] (wMo G.2.1 mo M) (wMo G.2.1 mo M') := by
  unfold f_X7_remembers at h
  refine CV.of g (by decide) rfl (Nat.le_of_ble_eq_true rfl) ?_
  intro p l e s m below meth c A ls F hr hlocks w hl
  generalize ([.ref (mo 0)] : List Value).toArray = args
  have hl : lv_has ls 2 [(0, .ref (mo 0))] := hl
  have L7 : ∀ {k : Mem → Option (Mem)} (n : Nat) (x1 : Int32) (M : Mem) (H : Heap) (locs : List Loc) (ls : Array Slot), Wd G A s.heap (wMo G.2.1 mo M) H locs → lv_has ls 2 [(0, .ref (mo 0)), (1, .int x1)] → f_X7_remembers_L7 k n x1 M = some M' → (∀ (M : Mem) (H : Heap) (locs : List Loc) (ls : Array Slot), Wd G A s.heap (wMo G.2.1 mo M) H locs → lv_has ls 2 [] → k M = some M' → W p l e { frames := 0, cells := 0, slots := 0, locals := 0 } s m args below meth c H locs 0 0 (QV G A (wMo G.2.1 mo M') below args s) (F0 m 32 ls [])) → W p l e { frames := 0, cells := 0, slots := 0, locals := 0 } s m args below meth c H locs 0 0 (QV G A (wMo G.2.1 mo M') below args s) (F0 m 7 ls []) := by
    clear h w hl
    intro k n
    induction n with
    | zero =>
      intro x1 M H locs ls w hl h hk
      exact nomatch (show (none : Option (Mem)) = some M' from h)
    | succ n ih =>
      intro x1 M H locs ls w hl h hk
      rw [f_X7_remembers_L7] at h
      refine lv_iload_n F.x F.b dX7_remembers_7 rfl (lv_at hl 1 rfl) ?_
      refine lv_sipush (v := 148) F.x F.b dX7_remembers_8 (by decide) ?_
      refine lv_icmp_ge (tgt := 32) F.x F.b dX7_remembers_11 (by decide) (fun c1 => ?_) (fun c1 => ?_)
      · have h := it c1 h
        exact hk M _ _ _ w (lv_sub hl [] rfl) h
      · have h := ie c1 h
        refine lv_aload_n F.x F.b dX7_remembers_14 rfl (lv_at hl 0 rfl) ?_
        refine rg F w cl7 0 (at_Mo_0 _ _ _) 2 (by decide) q1549 rfl (v := .ref (mo 2)) rfl dX7_remembers_15 ?_
        refine lv_iload_n F.x F.b dX7_remembers_18 rfl (lv_at hl 1 rfl) ?_
        refine lv_aload_n F.x F.b dX7_remembers_19 rfl (lv_at hl 0 rfl) ?_
        refine rg F w cl7 0 (at_Mo_0 _ _ _) 1 (by decide) q1548 rfl (v := .ref (mo 1)) rfl dX7_remembers_20 ?_
        refine lv_iload_n F.x F.b dX7_remembers_23 rfl (lv_at hl 1 rfl) ?_
        obtain ⟨g2, h⟩ := gd h
        refine ri F w 1 (n := 148) (f := M.2 0) (at_Mo_1 _ _ _) g2 dX7_remembers_24 ?_
        obtain ⟨g3, h⟩ := gd h
        refine ris F w (ws' := wMo G.2.1 mo (wrA M 1 x1 (M.2 0 (Int32.toNatClampNeg x1)))) 2 (n := 148) (f := M.2 1) (at_Mo_2 _ _ _) g3 (st_Mo_2 _ _ _ _ _) dX7_remembers_25 (fun H locs w => ?_)
        refine lv_iinc (v := (x1 + 1)) (lv' := [(1, .int (x1 + 1)), (0, .ref (mo 0))]) F.x F.b dX7_remembers_26 hl (k := 1) rfl rfl (by decide) rfl (fun ls hl => ?_)
        refine lv_goto (tgt := 7) F.x F.b dX7_remembers_29 (by decide) ?_
        exact ih (x1 + 1) (wrA M 1 x1 (M.2 0 (Int32.toNatClampNeg x1))) _ _ _ w (lv_sub hl [1, 0] rfl) h hk
  refine lv_aload_n F.x F.b dX7_remembers_0 rfl (lv_at hl 0 rfl) ?_
  refine lv_iconst (v := 0) F.x F.b dX7_remembers_1 (by decide) ?_
  refine rp F w (ws' := wMo G.2.1 mo (wrI M 0 0)) cl7 0 (at_Mo_0 _ _ _) 0 (by decide) q1547 rfl rfl rfl rfl (Nat.le_of_ble_eq_true rfl) (pt_Mo_0_0 _ _ _ _) dX7_remembers_2 (fun H locs w => ?_)
  refine lv_iconst (v := 0) F.x F.b dX7_remembers_5 (by decide) ?_
  refine lv_istore_n (lv' := [(1, .int 0), (0, .ref (mo 0))]) F.x F.b dX7_remembers_6 rfl hl (by decide) rfl (fun ls hl => ?_)
  refine L7 _ 0 (wrI M 0 0) _ _ _ w (lv_sub hl [1, 0] rfl) h ?_
  intro M_4 H locs ls w hl h
  try dsimp only at h
  have z0 := sm h
  exact ev F w hr hlocks (by rw [← z0]) dX7_remembers_32
set_option maxRecDepth 100000 in
set_option maxHeartbeats 4000000 in
theorem t_X7_changed {G : cG} (g : GOK G) {mo : Nat → Nat} {M : Mem} {x1 : Int32} {r : Int32} {M' : Mem} (h : f_X7_changed M x1 = some (r, M')) : CI G yX7_changed cX7_changed 3 .int 0 0 [.ref (mo 0), .int x1] (wMo G.2.1 mo M) (wMo G.2.1 mo M') r := by
  unfold f_X7_changed at h
  refine CI.of g (by decide) rfl (Nat.le_of_ble_eq_true rfl) ?_
  intro p l e s m below meth c A ls F hr hlocks w hl
  generalize ([.ref (mo 0), .int x1] : List Value).toArray = args
  have hl : lv_has ls 3 [(0, .ref (mo 0)), (1, .int x1)] := hl
  have L55 : ∀ (x1 : Int32) {k : Mem → Option (Int32 × Mem)} (n : Nat) (x2 : Int32) (M : Mem) (H : Heap) (locs : List Loc) (ls : Array Slot), Wd G A s.heap (wMo G.2.1 mo M) H locs → lv_has ls 3 [(0, .ref (mo 0)), (1, .int x1), (2, .int x2)] → f_X7_changed_L55 x1 k n x2 M = some (r, M') → (∀ (M : Mem) (H : Heap) (locs : List Loc) (ls : Array Slot), Wd G A s.heap (wMo G.2.1 mo M) H locs → lv_has ls 3 [(1, .int x1)] → k M = some (r, M') → W p l e { frames := 0, cells := 0, slots := 0, locals := 0 } s m args below meth c H locs 0 0 (QI G A (wMo G.2.1 mo M') r below args s) (F0 m 91 ls [])) → W p l e { frames := 0, cells := 0, slots := 0, locals := 0 } s m args below meth c H locs 0 0 (QI G A (wMo G.2.1 mo M') r below args s) (F0 m 55 ls []) := by
    clear h w hl
    intro x1 k n
    induction n with
    | zero =>
      intro x2 M H locs ls w hl h hk
      exact nomatch (show (none : Option (Int32 × Mem)) = some (r, M') from h)
    | succ n ih =>
      intro x2 M H locs ls w hl h hk
      rw [f_X7_changed_L55] at h
      refine lv_iload_n F.x F.b dX7_changed_55 rfl (lv_at hl 2 rfl) ?_
      refine lv_sipush (v := 148) F.x F.b dX7_changed_56 (by decide) ?_
      refine lv_icmp_ge (tgt := 91) F.x F.b dX7_changed_59 (by decide) (fun c2 => ?_) (fun c2 => ?_)
      · have h := it c2 h
        exact hk M _ _ _ w (lv_sub hl [1] rfl) h
      · have h := ie c2 h
        refine lv_aload_n F.x F.b dX7_changed_62 rfl (lv_at hl 0 rfl) ?_
        refine rg F w cl7 0 (at_Mo_0 _ _ _) 4 (by decide) q1551 rfl (v := .ref (mo 4)) rfl dX7_changed_63 ?_
        refine lv_sipush (v := 148) F.x F.b dX7_changed_66 (by decide) ?_
        refine lv_aload_n F.x F.b dX7_changed_69 rfl (lv_at hl 0 rfl) ?_
        refine rg F w cl7 0 (at_Mo_0 _ _ _) 6 (by decide) q1553 rfl (v := .int (M.1 1)) rfl dX7_changed_70 ?_
        refine lv_iconst (v := 1) F.x F.b dX7_changed_73 (by decide) ?_
        refine lv_isub F.x F.b dX7_changed_74 ?_
        refine lv_imul F.x F.b dX7_changed_75 ?_
        refine lv_iload_n F.x F.b dX7_changed_76 rfl (lv_at hl 2 rfl) ?_
        refine lv_iadd F.x F.b dX7_changed_77 ?_
        refine lv_aload_n F.x F.b dX7_changed_78 rfl (lv_at hl 0 rfl) ?_
        refine rg F w cl7 0 (at_Mo_0 _ _ _) 2 (by decide) q1549 rfl (v := .ref (mo 2)) rfl dX7_changed_79 ?_
        refine lv_iload_n F.x F.b dX7_changed_82 rfl (lv_at hl 2 rfl) ?_
        obtain ⟨g3, h⟩ := gd h
        refine ri F w 2 (n := 148) (f := M.2 1) (at_Mo_2 _ _ _) g3 dX7_changed_83 ?_
        obtain ⟨g4, h⟩ := gd h
        refine ris F w (ws' := wMo G.2.1 mo (wrA M 3 ((148 * ((M.1 1) - 1)) + x2) (M.2 1 (Int32.toNatClampNeg x2)))) 4 (n := 1184) (f := M.2 3) (at_Mo_4 _ _ _) g4 (st_Mo_4 _ _ _ _ _) dX7_changed_84 (fun H locs w => ?_)
        refine lv_iinc (v := (x2 + 1)) (lv' := [(2, .int (x2 + 1)), (0, .ref (mo 0)), (1, .int x1)]) F.x F.b dX7_changed_85 hl (k := 2) rfl rfl (by decide) rfl (fun ls hl => ?_)
        refine lv_goto (tgt := 55) F.x F.b dX7_changed_88 (by decide) ?_
        exact ih (x2 + 1) (wrA M 3 ((148 * ((M.1 1) - 1)) + x2) (M.2 1 (Int32.toNatClampNeg x2))) _ _ _ w (lv_sub hl [1, 2, 0] rfl) h hk
  have L11 : ∀ (x1 : Int32) {k : Mem → Option (Int32 × Mem)} (n : Nat) (x2 : Int32) (M : Mem) (H : Heap) (locs : List Loc) (ls : Array Slot), Wd G A s.heap (wMo G.2.1 mo M) H locs → lv_has ls 3 [(0, .ref (mo 0)), (1, .int x1), (2, .int x2)] → f_X7_changed_L11 x1 k n x2 M = some (r, M') → (∀ (M : Mem) (H : Heap) (locs : List Loc) (ls : Array Slot), Wd G A s.heap (wMo G.2.1 mo M) H locs → lv_has ls 3 [(0, .ref (mo 0)), (1, .int x1)] → k M = some (r, M') → W p l e { frames := 0, cells := 0, slots := 0, locals := 0 } s m args below meth c H locs 0 0 (QI G A (wMo G.2.1 mo M') r below args s) (F0 m 40 ls [])) → W p l e { frames := 0, cells := 0, slots := 0, locals := 0 } s m args below meth c H locs 0 0 (QI G A (wMo G.2.1 mo M') r below args s) (F0 m 11 ls []) := by
    clear h w hl
    intro x1 k n
    induction n with
    | zero =>
      intro x2 M H locs ls w hl h hk
      exact nomatch (show (none : Option (Int32 × Mem)) = some (r, M') from h)
    | succ n ih =>
      intro x2 M H locs ls w hl h hk
      rw [f_X7_changed_L11] at h
      refine lv_iload_n F.x F.b dX7_changed_11 rfl (lv_at hl 2 rfl) ?_
      refine lv_sipush (v := 1036) F.x F.b dX7_changed_12 (by decide) ?_
      refine lv_icmp_ge (tgt := 40) F.x F.b dX7_changed_15 (by decide) (fun c6 => ?_) (fun c6 => ?_)
      · have h := it c6 h
        exact hk M _ _ _ w (lv_sub hl [0, 1] rfl) h
      · have h := ie c6 h
        refine lv_aload_n F.x F.b dX7_changed_18 rfl (lv_at hl 0 rfl) ?_
        refine rg F w cl7 0 (at_Mo_0 _ _ _) 4 (by decide) q1551 rfl (v := .ref (mo 4)) rfl dX7_changed_19 ?_
        refine lv_iload_n F.x F.b dX7_changed_22 rfl (lv_at hl 2 rfl) ?_
        refine lv_aload_n F.x F.b dX7_changed_23 rfl (lv_at hl 0 rfl) ?_
        refine rg F w cl7 0 (at_Mo_0 _ _ _) 4 (by decide) q1551 rfl (v := .ref (mo 4)) rfl dX7_changed_24 ?_
        refine lv_iload_n F.x F.b dX7_changed_27 rfl (lv_at hl 2 rfl) ?_
        refine lv_sipush (v := 148) F.x F.b dX7_changed_28 (by decide) ?_
        refine lv_iadd F.x F.b dX7_changed_31 ?_
        obtain ⟨g7, h⟩ := gd h
        refine ri F w 4 (n := 1184) (f := M.2 3) (at_Mo_4 _ _ _) g7 dX7_changed_32 ?_
        obtain ⟨g8, h⟩ := gd h
        refine ris F w (ws' := wMo G.2.1 mo (wrA M 3 x2 (M.2 3 (Int32.toNatClampNeg (x2 + 148))))) 4 (n := 1184) (f := M.2 3) (at_Mo_4 _ _ _) g8 (st_Mo_4 _ _ _ _ _) dX7_changed_33 (fun H locs w => ?_)
        refine lv_iinc (v := (x2 + 1)) (lv' := [(2, .int (x2 + 1)), (0, .ref (mo 0)), (1, .int x1)]) F.x F.b dX7_changed_34 hl (k := 2) rfl rfl (by decide) rfl (fun ls hl => ?_)
        refine lv_goto (tgt := 11) F.x F.b dX7_changed_37 (by decide) ?_
        exact ih (x2 + 1) (wrA M 3 x2 (M.2 3 (Int32.toNatClampNeg (x2 + 148)))) _ _ _ w (lv_sub hl [1, 2, 0] rfl) h hk
  refine lv_aload_n F.x F.b dX7_changed_0 rfl (lv_at hl 0 rfl) ?_
  refine rg F w cl7 0 (at_Mo_0 _ _ _) 6 (by decide) q1553 rfl (v := .int (M.1 1)) rfl dX7_changed_1 ?_
  refine lv_bipush (v := 8) F.x F.b dX7_changed_4 (by decide) ?_
  refine lv_icmp_ne (tgt := 43) F.x F.b dX7_changed_6 (by decide) (fun c1 => ?_) (fun c1 => ?_)
  · have h := ie c1 h
    refine lv_aload_n F.x F.b dX7_changed_43 rfl (lv_at hl 0 rfl) ?_
    refine lv_dup F.x F.b dX7_changed_44 rfl ?_
    refine rg F w cl7 0 (at_Mo_0 _ _ _) 6 (by decide) q1553 rfl (v := .int (M.1 1)) rfl dX7_changed_45 ?_
    refine lv_iconst (v := 1) F.x F.b dX7_changed_48 (by decide) ?_
    refine lv_iadd F.x F.b dX7_changed_49 ?_
    refine rp F w (ws' := wMo G.2.1 mo (wrI M 1 ((M.1 1) + 1))) cl7 0 (at_Mo_0 _ _ _) 6 (by decide) q1553 rfl rfl rfl rfl (Nat.le_of_ble_eq_true rfl) (pt_Mo_0_6 _ _ _ _) dX7_changed_50 (fun H locs w => ?_)
    refine lv_iconst (v := 0) F.x F.b dX7_changed_53 (by decide) ?_
    refine lv_istore_n (lv' := [(2, .int 0), (0, .ref (mo 0)), (1, .int x1)]) F.x F.b dX7_changed_54 rfl hl (by decide) rfl (fun ls hl => ?_)
    refine L55 x1 _ 0 (wrI M 1 ((M.1 1) + 1)) _ _ _ w (lv_sub hl [1, 2, 0] rfl) h ?_
    intro M_5 H locs ls w hl h
    try dsimp only at h
    refine lv_iload_n F.x F.b dX7_changed_91 rfl (lv_at hl 0 rfl) ?_
    obtain ⟨z0, z1⟩ := sm2 (sm h)
    exact ei F w hr hlocks rfl z0 (by rw [← z1]) dX7_changed_92
  · have h := it c1 h
    refine lv_iconst (v := 0) F.x F.b dX7_changed_9 (by decide) ?_
    refine lv_istore_n (lv' := [(2, .int 0), (0, .ref (mo 0)), (1, .int x1)]) F.x F.b dX7_changed_10 rfl hl (by decide) rfl (fun ls hl => ?_)
    refine L11 x1 _ 0 M _ _ _ w (lv_sub hl [1, 2, 0] rfl) h ?_
    intro M_9 H locs ls w hl h
    try dsimp only at h
    refine lv_goto (tgt := 53) F.x F.b dX7_changed_40 (by decide) ?_
    refine lv_iconst (v := 0) F.x F.b dX7_changed_53 (by decide) ?_
    refine lv_istore_n (lv' := [(2, .int 0), (0, .ref (mo 0)), (1, .int x1)]) F.x F.b dX7_changed_54 rfl hl (by decide) rfl (fun ls hl => ?_)
    refine L55 x1 _ 0 M_9 _ _ _ w (lv_sub hl [1, 2, 0] rfl) h ?_
    intro M_10 H locs ls w hl h
    try dsimp only at h
    refine lv_iload_n F.x F.b dX7_changed_91 rfl (lv_at hl 0 rfl) ?_
    obtain ⟨z0, z1⟩ := sm2 (sm h)
    exact ei F w hr hlocks rfl z0 (by rw [← z1]) dX7_changed_92
set_option maxRecDepth 100000 in
set_option maxHeartbeats 4000000 in
theorem t_X7_ends {G : cG} (g : GOK G) {mo : Nat → Nat} {M : Mem} {x1 : Int32} {r : Int32} {M' : Mem} (h : f_X7_ends M x1 = some (r, M')) : CI G yX7_ends cX7_ends 2 .int 1 22 [.ref (mo 0), .int x1] (wMo G.2.1 mo M) (wMo G.2.1 mo M') r := by
  unfold f_X7_ends at h
  refine CI.of g (by decide) rfl (Nat.le_of_ble_eq_true rfl) ?_
  intro p l e s m below meth c A ls F hr hlocks w hl
  generalize ([.ref (mo 0), .int x1] : List Value).toArray = args
  have hl : lv_has ls 2 [(0, .ref (mo 0)), (1, .int x1)] := hl
  refine lv_iload_n F.x F.b dX7_ends_0 rfl (lv_at hl 1 rfl) ?_
  refine lv_if_ne (tgt := 15) F.x F.b dX7_ends_1 (by decide) (fun c1 => ?_) (fun c1 => ?_)
  · have h := ie c1 h
    refine lv_aload_n F.x F.b dX7_ends_15 rfl (lv_at hl 0 rfl) ?_
    refine lv_iload_n F.x F.b dX7_ends_16 rfl (lv_at hl 1 rfl) ?_
    obtain ⟨⟨r2, M_3⟩, hc4, h⟩ := bd h
    try dsimp only at h
    refine kVi0 F w (As := [.int x1]) (rest := []) (w1 := wMo G.2.1 mo M_3) (t_X7_fails F.1 hc4) m_X7_fails v_X7_fails q1663 (ci := 11) (q0 := 0) rfl rfl rfl ⟨Nat.le_of_ble_eq_true rfl, Nat.le_of_ble_eq_true rfl⟩ rfl hl.1 rfl (Nat.le_of_ble_eq_true rfl) dX7_ends_17 ⟨Nat.le_of_ble_eq_true rfl, Nat.le_of_ble_eq_true rfl⟩ (fun H locs w => ?_)
    obtain ⟨z0, z1⟩ := sm2 (sm h)
    exact ei F w hr hlocks rfl z0 (by rw [← z1]) dX7_ends_20
  · have h := it c1 h
    refine lv_aload_n F.x F.b dX7_ends_4 rfl (lv_at hl 0 rfl) ?_
    refine lv_aload_n F.x F.b dX7_ends_5 rfl (lv_at hl 0 rfl) ?_
    refine rg F w cl7 0 (at_Mo_0 _ _ _) 17 (by decide) q1564 rfl (v := .int (M.1 7)) rfl dX7_ends_6 ?_
    obtain ⟨⟨r5, M_6⟩, hc7, h⟩ := bd h
    try dsimp only at h
    refine kVi0 F w (As := [.int (M.1 7)]) (rest := []) (w1 := wMo G.2.1 mo M_6) (t_X7_changed F.1 hc7) m_X7_changed v_X7_changed q1659 (ci := 11) (q0 := 0) rfl rfl rfl ⟨Nat.le_of_ble_eq_true rfl, Nat.le_of_ble_eq_true rfl⟩ rfl hl.1 rfl (Nat.le_of_ble_eq_true rfl) dX7_ends_9 ⟨Nat.le_of_ble_eq_true rfl, Nat.le_of_ble_eq_true rfl⟩ (fun H locs w => ?_)
    refine lv_goto (tgt := 20) F.x F.b dX7_ends_12 (by decide) ?_
    obtain ⟨z0, z1⟩ := sm2 (sm h)
    exact ei F w hr hlocks rfl z0 (by rw [← z1]) dX7_ends_20
set_option maxRecDepth 100000 in
set_option maxHeartbeats 4000000 in
theorem t_X7_of {G : cG} (g : GOK G) {mo : Nat → Nat} {M : Mem} {x1 x2 : Int32} {r : Int32} (h : f_X7_of M x1 x2 = some r) : CI G yX7_of cX7_of 3 .int 0 0 [.ref (mo 0), .int x1, .int x2] (wMo G.2.1 mo M) (wMo G.2.1 mo M) r := by
  unfold f_X7_of at h
  refine CI.of g (by decide) rfl (Nat.le_of_ble_eq_true rfl) ?_
  intro p l e s m below meth c A ls F hr hlocks w hl
  generalize ([.ref (mo 0), .int x1, .int x2] : List Value).toArray = args
  have hl : lv_has ls 3 [(0, .ref (mo 0)), (1, .int x1), (2, .int x2)] := hl
  refine lv_aload_n F.x F.b dX7_of_0 rfl (lv_at hl 0 rfl) ?_
  refine rg F w cl7 0 (at_Mo_0 _ _ _) 1 (by decide) q1548 rfl (v := .ref (mo 1)) rfl dX7_of_1 ?_
  refine lv_bipush (v := 8) F.x F.b dX7_of_4 (by decide) ?_
  refine lv_bipush (v := 7) F.x F.b dX7_of_6 (by decide) ?_
  refine lv_iload_n F.x F.b dX7_of_8 rfl (lv_at hl 1 rfl) ?_
  refine lv_imul F.x F.b dX7_of_9 ?_
  refine lv_iadd F.x F.b dX7_of_10 ?_
  refine lv_iload_n F.x F.b dX7_of_11 rfl (lv_at hl 2 rfl) ?_
  refine lv_iadd F.x F.b dX7_of_12 ?_
  obtain ⟨g1, h⟩ := gd h
  refine ri F w 1 (n := 148) (f := M.2 0) (at_Mo_1 _ _ _) g1 dX7_of_13 ?_
  have z0 := sm h
  exact ei F w hr hlocks rfl z0 rfl dX7_of_14
set_option maxRecDepth 100000 in
set_option maxHeartbeats 4000000 in
theorem t_X7_sets {G : cG} (g : GOK G) {mo : Nat → Nat} {M : Mem} {x1 x2 x3 : Int32} {M' : Mem} (h : f_X7_sets M x1 x2 x3 = some M') : CV G yX7_sets cX7_sets 4 0 0 [.ref (mo 0), .int x1, .int x2, .int x3] (wMo G.2.1 mo M) (wMo G.2.1 mo M') := by
  unfold f_X7_sets at h
  refine CV.of g (by decide) rfl (Nat.le_of_ble_eq_true rfl) ?_
  intro p l e s m below meth c A ls F hr hlocks w hl
  generalize ([.ref (mo 0), .int x1, .int x2, .int x3] : List Value).toArray = args
  have hl : lv_has ls 4 [(0, .ref (mo 0)), (1, .int x1), (2, .int x2), (3, .int x3)] := hl
  refine lv_aload_n F.x F.b dX7_sets_0 rfl (lv_at hl 0 rfl) ?_
  refine rg F w cl7 0 (at_Mo_0 _ _ _) 1 (by decide) q1548 rfl (v := .ref (mo 1)) rfl dX7_sets_1 ?_
  refine lv_bipush (v := 8) F.x F.b dX7_sets_4 (by decide) ?_
  refine lv_bipush (v := 7) F.x F.b dX7_sets_6 (by decide) ?_
  refine lv_iload_n F.x F.b dX7_sets_8 rfl (lv_at hl 1 rfl) ?_
  refine lv_imul F.x F.b dX7_sets_9 ?_
  refine lv_iadd F.x F.b dX7_sets_10 ?_
  refine lv_iload_n F.x F.b dX7_sets_11 rfl (lv_at hl 2 rfl) ?_
  refine lv_iadd F.x F.b dX7_sets_12 ?_
  refine lv_iload_n F.x F.b dX7_sets_13 rfl (lv_at hl 3 rfl) ?_
  obtain ⟨g1, h⟩ := gd h
  refine ris F w (ws' := wMo G.2.1 mo (wrA M 0 ((8 + (7 * x1)) + x2) x3)) 1 (n := 148) (f := M.2 0) (at_Mo_1 _ _ _) g1 (st_Mo_1 _ _ _ _ _) dX7_sets_14 (fun H locs w => ?_)
  have z0 := sm h
  exact ev F w hr hlocks (by rw [← z0]) dX7_sets_15
set_option maxRecDepth 100000 in
set_option maxHeartbeats 4000000 in
theorem t_X7_placeOf {G : cG} (g : GOK G) {mo : Nat → Nat} {M : Mem} {x1 : Int32} {r : Int32} (h : f_X7_placeOf M x1 = some r) : CI G yX7_placeOf cX7_placeOf 3 .int 1 22 [.ref (mo 0), .int x1] (wMo G.2.1 mo M) (wMo G.2.1 mo M) r := by
  unfold f_X7_placeOf at h
  refine CI.of g (by decide) rfl (Nat.le_of_ble_eq_true rfl) ?_
  intro p l e s m below meth c A ls F hr hlocks w hl
  generalize ([.ref (mo 0), .int x1] : List Value).toArray = args
  have hl : lv_has ls 3 [(0, .ref (mo 0)), (1, .int x1)] := hl
  have L2 : ∀ (x1 : Int32) (M : Mem) {k : Option (Int32)} (n : Nat) (x2 : Int32) (H : Heap) (locs : List Loc) (ls : Array Slot), Wd G A s.heap (wMo G.2.1 mo M) H locs → lv_has ls 3 [(0, .ref (mo 0)), (1, .int x1), (2, .int x2)] → f_X7_placeOf_L2 x1 M k n x2 = some r → (∀ (H : Heap) (locs : List Loc) (ls : Array Slot), Wd G A s.heap (wMo G.2.1 mo M) H locs → lv_has ls 3 [] → k = some r → W p l e { frames := 1, cells := 0, slots := 0, locals := 22 } s m args below meth c H locs 0 0 (QI G A (wMo G.2.1 mo M) r below args s) (F0 m 30 ls [])) → W p l e { frames := 1, cells := 0, slots := 0, locals := 22 } s m args below meth c H locs 0 0 (QI G A (wMo G.2.1 mo M) r below args s) (F0 m 2 ls []) := by
    clear h w hl
    intro x1 M k n
    induction n with
    | zero =>
      intro x2 H locs ls w hl h hk
      exact nomatch (show (none : Option (Int32)) = some r from h)
    | succ n ih =>
      intro x2 H locs ls w hl h hk
      rw [f_X7_placeOf_L2] at h
      refine lv_iload_n F.x F.b dX7_placeOf_2 rfl (lv_at hl 2 rfl) ?_
      refine lv_aload_n F.x F.b dX7_placeOf_3 rfl (lv_at hl 0 rfl) ?_
      refine rg F w cl7 0 (at_Mo_0 _ _ _) 1 (by decide) q1548 rfl (v := .ref (mo 1)) rfl dX7_placeOf_4 ?_
      refine lv_iconst (v := 1) F.x F.b dX7_placeOf_7 (by decide) ?_
      obtain ⟨g1, h⟩ := gd h
      refine ri F w 1 (n := 148) (f := M.2 0) (at_Mo_1 _ _ _) g1 dX7_placeOf_8 ?_
      refine lv_icmp_ge (tgt := 30) F.x F.b dX7_placeOf_9 (by decide) (fun c2 => ?_) (fun c2 => ?_)
      · have h := it c2 h
        exact hk _ _ _ w (lv_sub hl [] rfl) h
      · have h := ie c2 h
        refine lv_aload_n F.x F.b dX7_placeOf_12 rfl (lv_at hl 0 rfl) ?_
        refine lv_iload_n F.x F.b dX7_placeOf_13 rfl (lv_at hl 2 rfl) ?_
        refine lv_iconst (v := 0) F.x F.b dX7_placeOf_14 (by decide) ?_
        obtain ⟨r3, hc4, h⟩ := bd h
        try dsimp only at h
        refine kVi0 F w (As := [.int x2, .int 0]) (rest := []) (w1 := wMo G.2.1 mo M) (t_X7_of F.1 hc4) m_X7_of v_X7_of q1643 (ci := 11) (q0 := 0) rfl rfl rfl ⟨Nat.le_of_ble_eq_true rfl, Nat.le_of_ble_eq_true rfl⟩ rfl hl.1 rfl (Nat.le_of_ble_eq_true rfl) dX7_placeOf_15 ⟨Nat.le_of_ble_eq_true rfl, Nat.le_of_ble_eq_true rfl⟩ (fun H locs w => ?_)
        refine lv_iload_n F.x F.b dX7_placeOf_18 rfl (lv_at hl 1 rfl) ?_
        refine lv_icmp_ne (tgt := 24) F.x F.b dX7_placeOf_19 (by decide) (fun c5 => ?_) (fun c5 => ?_)
        · have h := ie c5 h
          refine lv_iinc (v := (x2 + 1)) (lv' := [(2, .int (x2 + 1)), (0, .ref (mo 0)), (1, .int x1)]) F.x F.b dX7_placeOf_24 hl (k := 2) rfl rfl (by decide) rfl (fun ls hl => ?_)
          refine lv_goto (tgt := 2) F.x F.b dX7_placeOf_27 (by decide) ?_
          exact ih (x2 + 1) _ _ _ w (lv_sub hl [1, 2, 0] rfl) h hk
        · have h := it c5 h
          refine lv_iload_n F.x F.b dX7_placeOf_22 rfl (lv_at hl 2 rfl) ?_
          have z0 := sm h
          exact ei F w hr hlocks rfl z0 rfl dX7_placeOf_23
  refine lv_iconst (v := 0) F.x F.b dX7_placeOf_0 (by decide) ?_
  refine lv_istore_n (lv' := [(2, .int 0), (0, .ref (mo 0)), (1, .int x1)]) F.x F.b dX7_placeOf_1 rfl hl (by decide) rfl (fun ls hl => ?_)
  refine L2 x1 M _ 0 _ _ _ w (lv_sub hl [1, 2, 0] rfl) h ?_
  intro  H locs ls w hl h
  try dsimp only at h
  refine lv_iconst (v := (-1)) F.x F.b dX7_placeOf_30 (by decide) ?_
  have z0 := sm h
  exact ei F w hr hlocks rfl z0 rfl dX7_placeOf_31
set_option maxRecDepth 100000 in
set_option maxHeartbeats 4000000 in
theorem t_X7_isBay {G : cG} (g : GOK G) {x0 : Int32} {r : Int32} (h : f_X7_isBay x0 = some r) : CI G yX7_isBay cX7_isBay 1 .boolean 1 22 [.int x0] ([]) ([]) r := by
  unfold f_X7_isBay at h
  refine CI.of g (by decide) rfl (Nat.le_of_ble_eq_true rfl) ?_
  intro p l e s m below meth c A ls F hr hlocks w hl
  generalize ([.int x0] : List Value).toArray = args
  have hl : lv_has ls 1 [(0, .int x0)] := hl
  refine lv_iload_n F.x F.b dX7_isBay_0 rfl (lv_at hl 0 rfl) ?_
  refine lv_iconst (v := 0) F.x F.b dX7_isBay_1 (by decide) ?_
  refine lv_bipush (v := 23) F.x F.b dX7_isBay_2 (by decide) ?_
  obtain ⟨r1, hc2, h⟩ := bd h
  try dsimp only at h
  refine kSi F w (t_X7_in F.1 hc2) m_X7_in v_X7_in q1633 (As := [.int x0, .int 0, .int 23]) (rest := []) ⟨Nat.le_of_ble_eq_true rfl, Nat.le_of_ble_eq_true rfl⟩ rfl hl.1 rfl (Nat.le_of_ble_eq_true rfl) dX7_isBay_4 ⟨Nat.le_of_ble_eq_true rfl, Nat.le_of_ble_eq_true rfl⟩ (fun H locs w => ?_)
  obtain ⟨g3, h⟩ := gp h
  have z0 := sm h
  exact ei F w hr hlocks (nar_boolean g3) z0 rfl dX7_isBay_7
set_option maxRecDepth 100000 in
set_option maxHeartbeats 4000000 in
theorem t_X7_isKind {G : cG} (g : GOK G) {x0 : Int32} {r : Int32} (h : f_X7_isKind x0 = some r) : CI G yX7_isKind cX7_isKind 1 .boolean 1 22 [.int x0] ([]) ([]) r := by
  unfold f_X7_isKind at h
  refine CI.of g (by decide) rfl (Nat.le_of_ble_eq_true rfl) ?_
  intro p l e s m below meth c A ls F hr hlocks w hl
  generalize ([.int x0] : List Value).toArray = args
  have hl : lv_has ls 1 [(0, .int x0)] := hl
  refine lv_iload_n F.x F.b dX7_isKind_0 rfl (lv_at hl 0 rfl) ?_
  refine lv_bipush (v := 97) F.x F.b dX7_isKind_1 (by decide) ?_
  refine lv_bipush (v := 101) F.x F.b dX7_isKind_3 (by decide) ?_
  obtain ⟨r1, hc2, h⟩ := bd h
  try dsimp only at h
  refine kSi F w (t_X7_in F.1 hc2) m_X7_in v_X7_in q1633 (As := [.int x0, .int 97, .int 101]) (rest := []) ⟨Nat.le_of_ble_eq_true rfl, Nat.le_of_ble_eq_true rfl⟩ rfl hl.1 rfl (Nat.le_of_ble_eq_true rfl) dX7_isKind_5 ⟨Nat.le_of_ble_eq_true rfl, Nat.le_of_ble_eq_true rfl⟩ (fun H locs w => ?_)
  obtain ⟨g3, h⟩ := gp h
  have z0 := sm h
  exact ei F w hr hlocks (nar_boolean g3) z0 rfl dX7_isKind_8
set_option maxRecDepth 100000 in
set_option maxHeartbeats 4000000 in
theorem t_X7_inside {G : cG} (g : GOK G) {mo : Nat → Nat} {M : Mem} {x1 : Int32} {r : Int32} (h : f_X7_inside M x1 = some r) : CI G yX7_inside cX7_inside 3 .int 1 22 [.ref (mo 0), .int x1] (wMo G.2.1 mo M) (wMo G.2.1 mo M) r := by
  unfold f_X7_inside at h
  refine CI.of g (by decide) rfl (Nat.le_of_ble_eq_true rfl) ?_
  intro p l e s m below meth c A ls F hr hlocks w hl
  generalize ([.ref (mo 0), .int x1] : List Value).toArray = args
  have hl : lv_has ls 3 [(0, .ref (mo 0)), (1, .int x1)] := hl
  have L2 : ∀ (x1 : Int32) (M : Mem) {k : Option (Int32)} (n : Nat) (x2 : Int32) (H : Heap) (locs : List Loc) (ls : Array Slot), Wd G A s.heap (wMo G.2.1 mo M) H locs → lv_has ls 3 [(0, .ref (mo 0)), (1, .int x1), (2, .int x2)] → f_X7_inside_L2 x1 M k n x2 = some r → (∀ (H : Heap) (locs : List Loc) (ls : Array Slot), Wd G A s.heap (wMo G.2.1 mo M) H locs → lv_has ls 3 [] → k = some r → W p l e { frames := 1, cells := 0, slots := 0, locals := 22 } s m args below meth c H locs 0 0 (QI G A (wMo G.2.1 mo M) r below args s) (F0 m 30 ls [])) → W p l e { frames := 1, cells := 0, slots := 0, locals := 22 } s m args below meth c H locs 0 0 (QI G A (wMo G.2.1 mo M) r below args s) (F0 m 2 ls []) := by
    clear h w hl
    intro x1 M k n
    induction n with
    | zero =>
      intro x2 H locs ls w hl h hk
      exact nomatch (show (none : Option (Int32)) = some r from h)
    | succ n ih =>
      intro x2 H locs ls w hl h hk
      rw [f_X7_inside_L2] at h
      refine lv_iload_n F.x F.b dX7_inside_2 rfl (lv_at hl 2 rfl) ?_
      refine lv_aload_n F.x F.b dX7_inside_3 rfl (lv_at hl 0 rfl) ?_
      refine rg F w cl7 0 (at_Mo_0 _ _ _) 1 (by decide) q1548 rfl (v := .ref (mo 1)) rfl dX7_inside_4 ?_
      refine lv_iconst (v := 1) F.x F.b dX7_inside_7 (by decide) ?_
      obtain ⟨g1, h⟩ := gd h
      refine ri F w 1 (n := 148) (f := M.2 0) (at_Mo_1 _ _ _) g1 dX7_inside_8 ?_
      refine lv_icmp_ge (tgt := 30) F.x F.b dX7_inside_9 (by decide) (fun c2 => ?_) (fun c2 => ?_)
      · have h := it c2 h
        exact hk _ _ _ w (lv_sub hl [] rfl) h
      · have h := ie c2 h
        refine lv_aload_n F.x F.b dX7_inside_12 rfl (lv_at hl 0 rfl) ?_
        refine lv_iload_n F.x F.b dX7_inside_13 rfl (lv_at hl 2 rfl) ?_
        refine lv_iconst (v := 4) F.x F.b dX7_inside_14 (by decide) ?_
        obtain ⟨r3, hc4, h⟩ := bd h
        try dsimp only at h
        refine kVi0 F w (As := [.int x2, .int 4]) (rest := []) (w1 := wMo G.2.1 mo M) (t_X7_of F.1 hc4) m_X7_of v_X7_of q1643 (ci := 11) (q0 := 0) rfl rfl rfl ⟨Nat.le_of_ble_eq_true rfl, Nat.le_of_ble_eq_true rfl⟩ rfl hl.1 rfl (Nat.le_of_ble_eq_true rfl) dX7_inside_15 ⟨Nat.le_of_ble_eq_true rfl, Nat.le_of_ble_eq_true rfl⟩ (fun H locs w => ?_)
        refine lv_iload_n F.x F.b dX7_inside_18 rfl (lv_at hl 1 rfl) ?_
        refine lv_icmp_ne (tgt := 24) F.x F.b dX7_inside_19 (by decide) (fun c5 => ?_) (fun c5 => ?_)
        · have h := ie c5 h
          refine lv_iinc (v := (x2 + 1)) (lv' := [(2, .int (x2 + 1)), (0, .ref (mo 0)), (1, .int x1)]) F.x F.b dX7_inside_24 hl (k := 2) rfl rfl (by decide) rfl (fun ls hl => ?_)
          refine lv_goto (tgt := 2) F.x F.b dX7_inside_27 (by decide) ?_
          exact ih (x2 + 1) _ _ _ w (lv_sub hl [1, 2, 0] rfl) h hk
        · have h := it c5 h
          refine lv_iload_n F.x F.b dX7_inside_22 rfl (lv_at hl 2 rfl) ?_
          have z0 := sm h
          exact ei F w hr hlocks rfl z0 rfl dX7_inside_23
  refine lv_iconst (v := 0) F.x F.b dX7_inside_0 (by decide) ?_
  refine lv_istore_n (lv' := [(2, .int 0), (0, .ref (mo 0)), (1, .int x1)]) F.x F.b dX7_inside_1 rfl hl (by decide) rfl (fun ls hl => ?_)
  refine L2 x1 M _ 0 _ _ _ w (lv_sub hl [1, 2, 0] rfl) h ?_
  intro  H locs ls w hl h
  try dsimp only at h
  refine lv_iconst (v := (-1)) F.x F.b dX7_inside_30 (by decide) ?_
  have z0 := sm h
  exact ei F w hr hlocks rfl z0 rfl dX7_inside_31
set_option maxRecDepth 100000 in
set_option maxHeartbeats 4000000 in
theorem t_X7_many {G : cG} (g : GOK G) {mo : Nat → Nat} {M : Mem} {x1 : Int32} {r : Int32} (h : f_X7_many M x1 = some r) : CI G yX7_many cX7_many 4 .int 1 22 [.ref (mo 0), .int x1] (wMo G.2.1 mo M) (wMo G.2.1 mo M) r := by
  unfold f_X7_many at h
  refine CI.of g (by decide) rfl (Nat.le_of_ble_eq_true rfl) ?_
  intro p l e s m below meth c A ls F hr hlocks w hl
  generalize ([.ref (mo 0), .int x1] : List Value).toArray = args
  have hl : lv_has ls 4 [(0, .ref (mo 0)), (1, .int x1)] := hl
  have L4 : ∀ (x1 : Int32) (M : Mem) {k : Int32 → Option (Int32)} (n : Nat) (x2 : Int32) (x3 : Int32) (H : Heap) (locs : List Loc) (ls : Array Slot), Wd G A s.heap (wMo G.2.1 mo M) H locs → lv_has ls 4 [(0, .ref (mo 0)), (1, .int x1), (2, .int x2), (3, .int x3)] → f_X7_many_L4 x1 M k n x2 x3 = some r → (∀ (x2 : Int32) (H : Heap) (locs : List Loc) (ls : Array Slot), Wd G A s.heap (wMo G.2.1 mo M) H locs → lv_has ls 4 [(2, .int x2)] → k x2 = some r → W p l e { frames := 1, cells := 0, slots := 0, locals := 22 } s m args below meth c H locs 0 0 (QI G A (wMo G.2.1 mo M) r below args s) (F0 m 29 ls [])) → W p l e { frames := 1, cells := 0, slots := 0, locals := 22 } s m args below meth c H locs 0 0 (QI G A (wMo G.2.1 mo M) r below args s) (F0 m 4 ls []) := by
    clear h w hl
    intro x1 M k n
    induction n with
    | zero =>
      intro x2 x3 H locs ls w hl h hk
      exact nomatch (show (none : Option (Int32)) = some r from h)
    | succ n ih =>
      intro x2 x3 H locs ls w hl h hk
      rw [f_X7_many_L4] at h
      refine lv_iload_n F.x F.b dX7_many_4 rfl (lv_at hl 3 rfl) ?_
      refine lv_aload_n F.x F.b dX7_many_5 rfl (lv_at hl 0 rfl) ?_
      refine rg F w cl7 0 (at_Mo_0 _ _ _) 1 (by decide) q1548 rfl (v := .ref (mo 1)) rfl dX7_many_6 ?_
      refine lv_iconst (v := 1) F.x F.b dX7_many_9 (by decide) ?_
      obtain ⟨g1, h⟩ := gd h
      refine ri F w 1 (n := 148) (f := M.2 0) (at_Mo_1 _ _ _) g1 dX7_many_10 ?_
      refine lv_icmp_ge (tgt := 29) F.x F.b dX7_many_11 (by decide) (fun c2 => ?_) (fun c2 => ?_)
      · have h := it c2 h
        exact hk x2 _ _ _ w (lv_sub hl [2] rfl) h
      · have h := ie c2 h
        refine lv_iload_n F.x F.b dX7_many_14 rfl (lv_at hl 2 rfl) ?_
        refine lv_aload_n F.x F.b dX7_many_15 rfl (lv_at hl 0 rfl) ?_
        refine lv_iload_n F.x F.b dX7_many_16 rfl (lv_at hl 3 rfl) ?_
        refine lv_iload_n F.x F.b dX7_many_17 rfl (lv_at hl 1 rfl) ?_
        obtain ⟨r3, hc4, h⟩ := bd h
        try dsimp only at h
        refine kVi0 F w (As := [.int x3, .int x1]) (rest := [.int x2]) (w1 := wMo G.2.1 mo M) (t_X7_of F.1 hc4) m_X7_of v_X7_of q1643 (ci := 11) (q0 := 0) rfl rfl rfl ⟨Nat.le_of_ble_eq_true rfl, Nat.le_of_ble_eq_true rfl⟩ rfl hl.1 rfl (Nat.le_of_ble_eq_true rfl) dX7_many_18 ⟨Nat.le_of_ble_eq_true rfl, Nat.le_of_ble_eq_true rfl⟩ (fun H locs w => ?_)
        refine lv_iadd F.x F.b dX7_many_21 ?_
        refine lv_istore_n (lv' := [(2, .int (x2 + r3)), (0, .ref (mo 0)), (1, .int x1), (3, .int x3)]) F.x F.b dX7_many_22 rfl hl (by decide) rfl (fun ls hl => ?_)
        refine lv_iinc (v := (x3 + 1)) (lv' := [(3, .int (x3 + 1)), (2, .int (x2 + r3)), (0, .ref (mo 0)), (1, .int x1)]) F.x F.b dX7_many_23 hl (k := 3) rfl rfl (by decide) rfl (fun ls hl => ?_)
        refine lv_goto (tgt := 4) F.x F.b dX7_many_26 (by decide) ?_
        exact ih (x2 + r3) (x3 + 1) _ _ _ w (lv_sub hl [2, 3, 1, 0] rfl) h hk
  refine lv_iconst (v := 0) F.x F.b dX7_many_0 (by decide) ?_
  refine lv_istore_n (lv' := [(2, .int 0), (0, .ref (mo 0)), (1, .int x1)]) F.x F.b dX7_many_1 rfl hl (by decide) rfl (fun ls hl => ?_)
  refine lv_iconst (v := 0) F.x F.b dX7_many_2 (by decide) ?_
  refine lv_istore_n (lv' := [(3, .int 0), (2, .int 0), (0, .ref (mo 0)), (1, .int x1)]) F.x F.b dX7_many_3 rfl hl (by decide) rfl (fun ls hl => ?_)
  refine L4 x1 M _ 0 0 _ _ _ w (lv_sub hl [2, 3, 1, 0] rfl) h ?_
  intro y5_2 H locs ls w hl h
  try dsimp only at h
  refine lv_iload_n F.x F.b dX7_many_29 rfl (lv_at hl 0 rfl) ?_
  have z0 := sm h
  exact ei F w hr hlocks rfl z0 rfl dX7_many_30
set_option maxRecDepth 100000 in
set_option maxHeartbeats 4000000 in
theorem t_X7_worth {G : cG} (g : GOK G) {mo : Nat → Nat} {M : Mem} {x1 : Int32} {r : Int32} (h : f_X7_worth M x1 = some r) : CI G yX7_worth cX7_worth 2 .int 1 22 [.ref (mo 0), .int x1] (wMo G.2.1 mo M) (wMo G.2.1 mo M) r := by
  unfold f_X7_worth at h
  refine CI.of g (by decide) rfl (Nat.le_of_ble_eq_true rfl) ?_
  intro p l e s m below meth c A ls F hr hlocks w hl
  generalize ([.ref (mo 0), .int x1] : List Value).toArray = args
  have hl : lv_has ls 2 [(0, .ref (mo 0)), (1, .int x1)] := hl
  refine lv_aload_n F.x F.b dX7_worth_0 rfl (lv_at hl 0 rfl) ?_
  refine lv_iload_n F.x F.b dX7_worth_1 rfl (lv_at hl 1 rfl) ?_
  refine lv_iconst (v := 2) F.x F.b dX7_worth_2 (by decide) ?_
  obtain ⟨r1, hc2, h⟩ := bd h
  try dsimp only at h
  refine kVi0 F w (As := [.int x1, .int 2]) (rest := []) (w1 := wMo G.2.1 mo M) (t_X7_of F.1 hc2) m_X7_of v_X7_of q1643 (ci := 11) (q0 := 0) rfl rfl rfl ⟨Nat.le_of_ble_eq_true rfl, Nat.le_of_ble_eq_true rfl⟩ rfl hl.1 rfl (Nat.le_of_ble_eq_true rfl) dX7_worth_3 ⟨Nat.le_of_ble_eq_true rfl, Nat.le_of_ble_eq_true rfl⟩ (fun H locs w => ?_)
  refine lv_aload_n F.x F.b dX7_worth_6 rfl (lv_at hl 0 rfl) ?_
  refine lv_iload_n F.x F.b dX7_worth_7 rfl (lv_at hl 1 rfl) ?_
  refine lv_iconst (v := 3) F.x F.b dX7_worth_8 (by decide) ?_
  obtain ⟨r3, hc4, h⟩ := bd h
  try dsimp only at h
  refine kVi0 F w (As := [.int x1, .int 3]) (rest := [.int r1]) (w1 := wMo G.2.1 mo M) (t_X7_of F.1 hc4) m_X7_of v_X7_of q1643 (ci := 11) (q0 := 0) rfl rfl rfl ⟨Nat.le_of_ble_eq_true rfl, Nat.le_of_ble_eq_true rfl⟩ rfl hl.1 rfl (Nat.le_of_ble_eq_true rfl) dX7_worth_9 ⟨Nat.le_of_ble_eq_true rfl, Nat.le_of_ble_eq_true rfl⟩ (fun H locs w => ?_)
  refine lv_imul F.x F.b dX7_worth_12 ?_
  have z0 := sm h
  exact ei F w hr hlocks rfl z0 rfl dX7_worth_13
set_option maxRecDepth 100000 in
set_option maxHeartbeats 4000000 in
theorem t_X7_charged {G : cG} (g : GOK G) {mo : Nat → Nat} {M : Mem} {x1 : Int32} {r : Int32} (h : f_X7_charged M x1 = some r) : CI G yX7_charged cX7_charged 6 .int 0 0 [.ref (mo 0), .int x1] (wMo G.2.1 mo M) (wMo G.2.1 mo M) r := by
  unfold f_X7_charged at h
  refine CI.of g (by decide) rfl (Nat.le_of_ble_eq_true rfl) ?_
  intro p l e s m below meth c A ls F hr hlocks w hl
  generalize ([.ref (mo 0), .int x1] : List Value).toArray = args
  have hl : lv_has ls 6 [(0, .ref (mo 0)), (1, .int x1)] := hl
  have L4 : ∀ (x1 : Int32) (M : Mem) {k : Int32 → Option (Int32)} (n : Nat) (x2 : Int32) (x3 : Int32) (H : Heap) (locs : List Loc) (ls : Array Slot), Wd G A s.heap (wMo G.2.1 mo M) H locs → lv_has ls 6 [(0, .ref (mo 0)), (1, .int x1), (2, .int x2), (3, .int x3)] → f_X7_charged_L4 x1 M k n x2 x3 = some r → (∀ (x2 : Int32) (H : Heap) (locs : List Loc) (ls : Array Slot), Wd G A s.heap (wMo G.2.1 mo M) H locs → lv_has ls 6 [(2, .int x2)] → k x2 = some r → W p l e { frames := 0, cells := 0, slots := 0, locals := 0 } s m args below meth c H locs 0 0 (QI G A (wMo G.2.1 mo M) r below args s) (F0 m 114 ls [])) → W p l e { frames := 0, cells := 0, slots := 0, locals := 0 } s m args below meth c H locs 0 0 (QI G A (wMo G.2.1 mo M) r below args s) (F0 m 4 ls []) := by
    clear h w hl
    intro x1 M k n
    induction n with
    | zero =>
      intro x2 x3 H locs ls w hl h hk
      exact nomatch (show (none : Option (Int32)) = some r from h)
    | succ n ih =>
      intro x2 x3 H locs ls w hl h hk
      rw [f_X7_charged_L4] at h
      refine lv_iload_n F.x F.b dX7_charged_4 rfl (lv_at hl 3 rfl) ?_
      refine lv_aload_n F.x F.b dX7_charged_5 rfl (lv_at hl 0 rfl) ?_
      refine rg F w cl7 0 (at_Mo_0 _ _ _) 1 (by decide) q1548 rfl (v := .ref (mo 1)) rfl dX7_charged_6 ?_
      refine lv_iconst (v := 2) F.x F.b dX7_charged_9 (by decide) ?_
      obtain ⟨g1, h⟩ := gd h
      refine ri F w 1 (n := 148) (f := M.2 0) (at_Mo_1 _ _ _) g1 dX7_charged_10 ?_
      refine lv_icmp_ge (tgt := 114) F.x F.b dX7_charged_11 (by decide) (fun c2 => ?_) (fun c2 => ?_)
      · have h := it c2 h
        exact hk x2 _ _ _ w (lv_sub hl [2] rfl) h
      · have h := ie c2 h
        refine lv_aload_n F.x F.b dX7_charged_14 rfl (lv_at hl 0 rfl) ?_
        refine rg F w cl7 0 (at_Mo_0 _ _ _) 1 (by decide) q1548 rfl (v := .ref (mo 1)) rfl dX7_charged_15 ?_
        refine lv_bipush (v := 120) F.x F.b dX7_charged_18 (by decide) ?_
        refine lv_iconst (v := 2) F.x F.b dX7_charged_20 (by decide) ?_
        refine lv_iload_n F.x F.b dX7_charged_21 rfl (lv_at hl 3 rfl) ?_
        refine lv_imul F.x F.b dX7_charged_22 ?_
        refine lv_iadd F.x F.b dX7_charged_23 ?_
        obtain ⟨g3, h⟩ := gd h
        refine ri F w 1 (n := 148) (f := M.2 0) (at_Mo_1 _ _ _) g3 dX7_charged_24 ?_
        refine lv_istore (lv' := [(4, .int (M.2 0 (Int32.toNatClampNeg (120 + (2 * x3))))), (0, .ref (mo 0)), (1, .int x1), (2, .int x2), (3, .int x3)]) F.x F.b dX7_charged_25 hl (by decide) rfl (fun ls hl => ?_)
        refine lv_iload_n F.x F.b dX7_charged_27 rfl (lv_at hl 4 rfl) ?_
        refine lv_iconst (v := 1) F.x F.b dX7_charged_28 (by decide) ?_
        refine lv_iadd F.x F.b dX7_charged_29 ?_
        refine lv_aload_n F.x F.b dX7_charged_30 rfl (lv_at hl 1 rfl) ?_
        refine rg F w cl7 0 (at_Mo_0 _ _ _) 1 (by decide) q1548 rfl (v := .ref (mo 1)) rfl dX7_charged_31 ?_
        refine lv_iconst (v := 2) F.x F.b dX7_charged_34 (by decide) ?_
        obtain ⟨g4, h⟩ := gd h
        refine ri F w 1 (n := 148) (f := M.2 0) (at_Mo_1 _ _ _) g4 dX7_charged_35 ?_
        refine lv_icmp_ge (tgt := 72) F.x F.b dX7_charged_36 (by decide) (fun c5 => ?_) (fun c5 => ?_)
        · have h := it c5 h
          refine lv_iload_n F.x F.b dX7_charged_72 rfl (lv_at hl 2 rfl) ?_
          refine lv_istore (lv' := [(5, .int x1), (4, .int (M.2 0 (Int32.toNatClampNeg (120 + (2 * x3))))), (0, .ref (mo 0)), (1, .int x1), (2, .int x2), (3, .int x3)]) F.x F.b dX7_charged_73 hl (by decide) rfl (fun ls hl => ?_)
          refine lv_iload_n F.x F.b dX7_charged_75 rfl (lv_at hl 4 rfl) ?_
          refine lv_iload F.x F.b dX7_charged_76 (lv_at hl 0 rfl) ?_
          refine lv_iload F.x F.b dX7_charged_78 (lv_at hl 1 rfl) ?_
          refine lv_icmp_le (tgt := 105) F.x F.b dX7_charged_80 (by decide) (fun c6 => ?_) (fun c6 => ?_)
          · have h := it c6 h
            refine lv_iconst (v := 0) F.x F.b dX7_charged_105 (by decide) ?_
            refine lv_iadd F.x F.b dX7_charged_106 ?_
            refine lv_istore_n (lv' := [(2, .int (x2 + 0)), (5, .int x1), (4, .int (M.2 0 (Int32.toNatClampNeg (120 + (2 * x3))))), (0, .ref (mo 0)), (1, .int x1), (3, .int x3)]) F.x F.b dX7_charged_107 rfl hl (by decide) rfl (fun ls hl => ?_)
            refine lv_iinc (v := (x3 + 1)) (lv' := [(3, .int (x3 + 1)), (2, .int (x2 + 0)), (5, .int x1), (4, .int (M.2 0 (Int32.toNatClampNeg (120 + (2 * x3))))), (0, .ref (mo 0)), (1, .int x1)]) F.x F.b dX7_charged_108 hl (k := 5) rfl rfl (by decide) rfl (fun ls hl => ?_)
            refine lv_goto (tgt := 4) F.x F.b dX7_charged_111 (by decide) ?_
            exact ih (x2 + 0) (x3 + 1) _ _ _ w (lv_sub hl [4, 5, 1, 0] rfl) h hk
          · have h := ie c6 h
            refine lv_iload F.x F.b dX7_charged_83 (lv_at hl 0 rfl) ?_
            refine lv_iload F.x F.b dX7_charged_85 (lv_at hl 1 rfl) ?_
            refine lv_isub F.x F.b dX7_charged_87 ?_
            refine lv_aload_n F.x F.b dX7_charged_88 rfl (lv_at hl 2 rfl) ?_
            refine rg F w cl7 0 (at_Mo_0 _ _ _) 1 (by decide) q1548 rfl (v := .ref (mo 1)) rfl dX7_charged_89 ?_
            refine lv_bipush (v := 120) F.x F.b dX7_charged_92 (by decide) ?_
            refine lv_iconst (v := 2) F.x F.b dX7_charged_94 (by decide) ?_
            refine lv_iload_n F.x F.b dX7_charged_95 rfl (lv_at hl 5 rfl) ?_
            refine lv_imul F.x F.b dX7_charged_96 ?_
            refine lv_iadd F.x F.b dX7_charged_97 ?_
            refine lv_iconst (v := 1) F.x F.b dX7_charged_98 (by decide) ?_
            refine lv_iadd F.x F.b dX7_charged_99 ?_
            obtain ⟨g7, h⟩ := gd h
            refine ri F w 1 (n := 148) (f := M.2 0) (at_Mo_1 _ _ _) g7 dX7_charged_100 ?_
            refine lv_imul F.x F.b dX7_charged_101 ?_
            refine lv_goto (tgt := 106) F.x F.b dX7_charged_102 (by decide) ?_
            refine lv_iadd F.x F.b dX7_charged_106 ?_
            refine lv_istore_n (lv' := [(2, .int (x2 + ((x1 - (M.2 0 (Int32.toNatClampNeg (120 + (2 * x3))))) * (M.2 0 (Int32.toNatClampNeg ((120 + (2 * x3)) + 1)))))), (5, .int x1), (4, .int (M.2 0 (Int32.toNatClampNeg (120 + (2 * x3))))), (0, .ref (mo 0)), (1, .int x1), (3, .int x3)]) F.x F.b dX7_charged_107 rfl hl (by decide) rfl (fun ls hl => ?_)
            refine lv_iinc (v := (x3 + 1)) (lv' := [(3, .int (x3 + 1)), (2, .int (x2 + ((x1 - (M.2 0 (Int32.toNatClampNeg (120 + (2 * x3))))) * (M.2 0 (Int32.toNatClampNeg ((120 + (2 * x3)) + 1)))))), (5, .int x1), (4, .int (M.2 0 (Int32.toNatClampNeg (120 + (2 * x3))))), (0, .ref (mo 0)), (1, .int x1)]) F.x F.b dX7_charged_108 hl (k := 5) rfl rfl (by decide) rfl (fun ls hl => ?_)
            refine lv_goto (tgt := 4) F.x F.b dX7_charged_111 (by decide) ?_
            exact ih (x2 + ((x1 - (M.2 0 (Int32.toNatClampNeg (120 + (2 * x3))))) * (M.2 0 (Int32.toNatClampNeg ((120 + (2 * x3)) + 1))))) (x3 + 1) _ _ _ w (lv_sub hl [4, 5, 1, 0] rfl) h hk
        · have h := ie c5 h
          refine lv_aload_n F.x F.b dX7_charged_39 rfl (lv_at hl 1 rfl) ?_
          refine rg F w cl7 0 (at_Mo_0 _ _ _) 1 (by decide) q1548 rfl (v := .ref (mo 1)) rfl dX7_charged_40 ?_
          refine lv_bipush (v := 120) F.x F.b dX7_charged_43 (by decide) ?_
          refine lv_iconst (v := 2) F.x F.b dX7_charged_45 (by decide) ?_
          refine lv_iload_n F.x F.b dX7_charged_46 rfl (lv_at hl 4 rfl) ?_
          refine lv_imul F.x F.b dX7_charged_47 ?_
          refine lv_iadd F.x F.b dX7_charged_48 ?_
          refine lv_iconst (v := 2) F.x F.b dX7_charged_49 (by decide) ?_
          refine lv_iadd F.x F.b dX7_charged_50 ?_
          obtain ⟨g8, h⟩ := gd h
          refine ri F w 1 (n := 148) (f := M.2 0) (at_Mo_1 _ _ _) g8 dX7_charged_51 ?_
          refine lv_iload_n F.x F.b dX7_charged_52 rfl (lv_at hl 2 rfl) ?_
          refine lv_icmp_ge (tgt := 72) F.x F.b dX7_charged_53 (by decide) (fun c9 => ?_) (fun c9 => ?_)
          · have h := it c9 h
            refine lv_iload_n F.x F.b dX7_charged_72 rfl (lv_at hl 2 rfl) ?_
            refine lv_istore (lv' := [(5, .int x1), (4, .int (M.2 0 (Int32.toNatClampNeg (120 + (2 * x3))))), (0, .ref (mo 0)), (1, .int x1), (2, .int x2), (3, .int x3)]) F.x F.b dX7_charged_73 hl (by decide) rfl (fun ls hl => ?_)
            refine lv_iload_n F.x F.b dX7_charged_75 rfl (lv_at hl 4 rfl) ?_
            refine lv_iload F.x F.b dX7_charged_76 (lv_at hl 0 rfl) ?_
            refine lv_iload F.x F.b dX7_charged_78 (lv_at hl 1 rfl) ?_
            refine lv_icmp_le (tgt := 105) F.x F.b dX7_charged_80 (by decide) (fun c10 => ?_) (fun c10 => ?_)
            · have h := it c10 h
              refine lv_iconst (v := 0) F.x F.b dX7_charged_105 (by decide) ?_
              refine lv_iadd F.x F.b dX7_charged_106 ?_
              refine lv_istore_n (lv' := [(2, .int (x2 + 0)), (5, .int x1), (4, .int (M.2 0 (Int32.toNatClampNeg (120 + (2 * x3))))), (0, .ref (mo 0)), (1, .int x1), (3, .int x3)]) F.x F.b dX7_charged_107 rfl hl (by decide) rfl (fun ls hl => ?_)
              refine lv_iinc (v := (x3 + 1)) (lv' := [(3, .int (x3 + 1)), (2, .int (x2 + 0)), (5, .int x1), (4, .int (M.2 0 (Int32.toNatClampNeg (120 + (2 * x3))))), (0, .ref (mo 0)), (1, .int x1)]) F.x F.b dX7_charged_108 hl (k := 5) rfl rfl (by decide) rfl (fun ls hl => ?_)
              refine lv_goto (tgt := 4) F.x F.b dX7_charged_111 (by decide) ?_
              exact ih (x2 + 0) (x3 + 1) _ _ _ w (lv_sub hl [4, 5, 1, 0] rfl) h hk
            · have h := ie c10 h
              refine lv_iload F.x F.b dX7_charged_83 (lv_at hl 0 rfl) ?_
              refine lv_iload F.x F.b dX7_charged_85 (lv_at hl 1 rfl) ?_
              refine lv_isub F.x F.b dX7_charged_87 ?_
              refine lv_aload_n F.x F.b dX7_charged_88 rfl (lv_at hl 2 rfl) ?_
              refine rg F w cl7 0 (at_Mo_0 _ _ _) 1 (by decide) q1548 rfl (v := .ref (mo 1)) rfl dX7_charged_89 ?_
              refine lv_bipush (v := 120) F.x F.b dX7_charged_92 (by decide) ?_
              refine lv_iconst (v := 2) F.x F.b dX7_charged_94 (by decide) ?_
              refine lv_iload_n F.x F.b dX7_charged_95 rfl (lv_at hl 5 rfl) ?_
              refine lv_imul F.x F.b dX7_charged_96 ?_
              refine lv_iadd F.x F.b dX7_charged_97 ?_
              refine lv_iconst (v := 1) F.x F.b dX7_charged_98 (by decide) ?_
              refine lv_iadd F.x F.b dX7_charged_99 ?_
              obtain ⟨g11, h⟩ := gd h
              refine ri F w 1 (n := 148) (f := M.2 0) (at_Mo_1 _ _ _) g11 dX7_charged_100 ?_
              refine lv_imul F.x F.b dX7_charged_101 ?_
              refine lv_goto (tgt := 106) F.x F.b dX7_charged_102 (by decide) ?_
              refine lv_iadd F.x F.b dX7_charged_106 ?_
              refine lv_istore_n (lv' := [(2, .int (x2 + ((x1 - (M.2 0 (Int32.toNatClampNeg (120 + (2 * x3))))) * (M.2 0 (Int32.toNatClampNeg ((120 + (2 * x3)) + 1)))))), (5, .int x1), (4, .int (M.2 0 (Int32.toNatClampNeg (120 + (2 * x3))))), (0, .ref (mo 0)), (1, .int x1), (3, .int x3)]) F.x F.b dX7_charged_107 rfl hl (by decide) rfl (fun ls hl => ?_)
              refine lv_iinc (v := (x3 + 1)) (lv' := [(3, .int (x3 + 1)), (2, .int (x2 + ((x1 - (M.2 0 (Int32.toNatClampNeg (120 + (2 * x3))))) * (M.2 0 (Int32.toNatClampNeg ((120 + (2 * x3)) + 1)))))), (5, .int x1), (4, .int (M.2 0 (Int32.toNatClampNeg (120 + (2 * x3))))), (0, .ref (mo 0)), (1, .int x1)]) F.x F.b dX7_charged_108 hl (k := 5) rfl rfl (by decide) rfl (fun ls hl => ?_)
              refine lv_goto (tgt := 4) F.x F.b dX7_charged_111 (by decide) ?_
              exact ih (x2 + ((x1 - (M.2 0 (Int32.toNatClampNeg (120 + (2 * x3))))) * (M.2 0 (Int32.toNatClampNeg ((120 + (2 * x3)) + 1))))) (x3 + 1) _ _ _ w (lv_sub hl [4, 5, 1, 0] rfl) h hk
          · have h := ie c9 h
            refine lv_aload_n F.x F.b dX7_charged_56 rfl (lv_at hl 1 rfl) ?_
            refine rg F w cl7 0 (at_Mo_0 _ _ _) 1 (by decide) q1548 rfl (v := .ref (mo 1)) rfl dX7_charged_57 ?_
            refine lv_bipush (v := 120) F.x F.b dX7_charged_60 (by decide) ?_
            refine lv_iconst (v := 2) F.x F.b dX7_charged_62 (by decide) ?_
            refine lv_iload_n F.x F.b dX7_charged_63 rfl (lv_at hl 4 rfl) ?_
            refine lv_imul F.x F.b dX7_charged_64 ?_
            refine lv_iadd F.x F.b dX7_charged_65 ?_
            refine lv_iconst (v := 2) F.x F.b dX7_charged_66 (by decide) ?_
            refine lv_iadd F.x F.b dX7_charged_67 ?_
            obtain ⟨g12, h⟩ := gd h
            refine ri F w 1 (n := 148) (f := M.2 0) (at_Mo_1 _ _ _) g12 dX7_charged_68 ?_
            refine lv_goto (tgt := 73) F.x F.b dX7_charged_69 (by decide) ?_
            refine lv_istore (lv' := [(5, .int (M.2 0 (Int32.toNatClampNeg ((120 + (2 * x3)) + 2)))), (4, .int (M.2 0 (Int32.toNatClampNeg (120 + (2 * x3))))), (0, .ref (mo 0)), (1, .int x1), (2, .int x2), (3, .int x3)]) F.x F.b dX7_charged_73 hl (by decide) rfl (fun ls hl => ?_)
            refine lv_iload_n F.x F.b dX7_charged_75 rfl (lv_at hl 4 rfl) ?_
            refine lv_iload F.x F.b dX7_charged_76 (lv_at hl 0 rfl) ?_
            refine lv_iload F.x F.b dX7_charged_78 (lv_at hl 1 rfl) ?_
            refine lv_icmp_le (tgt := 105) F.x F.b dX7_charged_80 (by decide) (fun c13 => ?_) (fun c13 => ?_)
            · have h := it c13 h
              refine lv_iconst (v := 0) F.x F.b dX7_charged_105 (by decide) ?_
              refine lv_iadd F.x F.b dX7_charged_106 ?_
              refine lv_istore_n (lv' := [(2, .int (x2 + 0)), (5, .int (M.2 0 (Int32.toNatClampNeg ((120 + (2 * x3)) + 2)))), (4, .int (M.2 0 (Int32.toNatClampNeg (120 + (2 * x3))))), (0, .ref (mo 0)), (1, .int x1), (3, .int x3)]) F.x F.b dX7_charged_107 rfl hl (by decide) rfl (fun ls hl => ?_)
              refine lv_iinc (v := (x3 + 1)) (lv' := [(3, .int (x3 + 1)), (2, .int (x2 + 0)), (5, .int (M.2 0 (Int32.toNatClampNeg ((120 + (2 * x3)) + 2)))), (4, .int (M.2 0 (Int32.toNatClampNeg (120 + (2 * x3))))), (0, .ref (mo 0)), (1, .int x1)]) F.x F.b dX7_charged_108 hl (k := 5) rfl rfl (by decide) rfl (fun ls hl => ?_)
              refine lv_goto (tgt := 4) F.x F.b dX7_charged_111 (by decide) ?_
              exact ih (x2 + 0) (x3 + 1) _ _ _ w (lv_sub hl [4, 5, 1, 0] rfl) h hk
            · have h := ie c13 h
              refine lv_iload F.x F.b dX7_charged_83 (lv_at hl 0 rfl) ?_
              refine lv_iload F.x F.b dX7_charged_85 (lv_at hl 1 rfl) ?_
              refine lv_isub F.x F.b dX7_charged_87 ?_
              refine lv_aload_n F.x F.b dX7_charged_88 rfl (lv_at hl 2 rfl) ?_
              refine rg F w cl7 0 (at_Mo_0 _ _ _) 1 (by decide) q1548 rfl (v := .ref (mo 1)) rfl dX7_charged_89 ?_
              refine lv_bipush (v := 120) F.x F.b dX7_charged_92 (by decide) ?_
              refine lv_iconst (v := 2) F.x F.b dX7_charged_94 (by decide) ?_
              refine lv_iload_n F.x F.b dX7_charged_95 rfl (lv_at hl 5 rfl) ?_
              refine lv_imul F.x F.b dX7_charged_96 ?_
              refine lv_iadd F.x F.b dX7_charged_97 ?_
              refine lv_iconst (v := 1) F.x F.b dX7_charged_98 (by decide) ?_
              refine lv_iadd F.x F.b dX7_charged_99 ?_
              obtain ⟨g14, h⟩ := gd h
              refine ri F w 1 (n := 148) (f := M.2 0) (at_Mo_1 _ _ _) g14 dX7_charged_100 ?_
              refine lv_imul F.x F.b dX7_charged_101 ?_
              refine lv_goto (tgt := 106) F.x F.b dX7_charged_102 (by decide) ?_
              refine lv_iadd F.x F.b dX7_charged_106 ?_
              refine lv_istore_n (lv' := [(2, .int (x2 + (((M.2 0 (Int32.toNatClampNeg ((120 + (2 * x3)) + 2))) - (M.2 0 (Int32.toNatClampNeg (120 + (2 * x3))))) * (M.2 0 (Int32.toNatClampNeg ((120 + (2 * x3)) + 1)))))), (5, .int (M.2 0 (Int32.toNatClampNeg ((120 + (2 * x3)) + 2)))), (4, .int (M.2 0 (Int32.toNatClampNeg (120 + (2 * x3))))), (0, .ref (mo 0)), (1, .int x1), (3, .int x3)]) F.x F.b dX7_charged_107 rfl hl (by decide) rfl (fun ls hl => ?_)
              refine lv_iinc (v := (x3 + 1)) (lv' := [(3, .int (x3 + 1)), (2, .int (x2 + (((M.2 0 (Int32.toNatClampNeg ((120 + (2 * x3)) + 2))) - (M.2 0 (Int32.toNatClampNeg (120 + (2 * x3))))) * (M.2 0 (Int32.toNatClampNeg ((120 + (2 * x3)) + 1)))))), (5, .int (M.2 0 (Int32.toNatClampNeg ((120 + (2 * x3)) + 2)))), (4, .int (M.2 0 (Int32.toNatClampNeg (120 + (2 * x3))))), (0, .ref (mo 0)), (1, .int x1)]) F.x F.b dX7_charged_108 hl (k := 5) rfl rfl (by decide) rfl (fun ls hl => ?_)
              refine lv_goto (tgt := 4) F.x F.b dX7_charged_111 (by decide) ?_
              exact ih (x2 + (((M.2 0 (Int32.toNatClampNeg ((120 + (2 * x3)) + 2))) - (M.2 0 (Int32.toNatClampNeg (120 + (2 * x3))))) * (M.2 0 (Int32.toNatClampNeg ((120 + (2 * x3)) + 1))))) (x3 + 1) _ _ _ w (lv_sub hl [4, 5, 1, 0] rfl) h hk
  refine lv_iconst (v := 0) F.x F.b dX7_charged_0 (by decide) ?_
  refine lv_istore_n (lv' := [(2, .int 0), (0, .ref (mo 0)), (1, .int x1)]) F.x F.b dX7_charged_1 rfl hl (by decide) rfl (fun ls hl => ?_)
  refine lv_iconst (v := 0) F.x F.b dX7_charged_2 (by decide) ?_
  refine lv_istore_n (lv' := [(3, .int 0), (2, .int 0), (0, .ref (mo 0)), (1, .int x1)]) F.x F.b dX7_charged_3 rfl hl (by decide) rfl (fun ls hl => ?_)
  refine L4 x1 M _ 0 0 _ _ _ w (lv_sub hl [2, 3, 1, 0] rfl) h ?_
  intro y15_2 H locs ls w hl h
  try dsimp only at h
  refine lv_iload_n F.x F.b dX7_charged_114 rfl (lv_at hl 0 rfl) ?_
  refine lv_bipush (v := 100) F.x F.b dX7_charged_115 (by decide) ?_
  refine lv_idiv F.x F.b dX7_charged_117 (by decide) ?_
  have z0 := sm h
  exact ei F w hr hlocks rfl z0 rfl dX7_charged_118
set_option maxRecDepth 100000 in
set_option maxHeartbeats 4000000 in
theorem t_X7_owed {G : cG} (g : GOK G) {mo : Nat → Nat} {M : Mem} {x1 : Int32} {r : Int32} (h : f_X7_owed M x1 = some r) : CI G yX7_owed cX7_owed 2 .int 2 43 [.ref (mo 0), .int x1] (wMo G.2.1 mo M) (wMo G.2.1 mo M) r := by
  unfold f_X7_owed at h
  refine CI.of g (by decide) rfl (Nat.le_of_ble_eq_true rfl) ?_
  intro p l e s m below meth c A ls F hr hlocks w hl
  generalize ([.ref (mo 0), .int x1] : List Value).toArray = args
  have hl : lv_has ls 2 [(0, .ref (mo 0)), (1, .int x1)] := hl
  refine lv_aload_n F.x F.b dX7_owed_0 rfl (lv_at hl 0 rfl) ?_
  refine lv_iload_n F.x F.b dX7_owed_1 rfl (lv_at hl 1 rfl) ?_
  refine lv_iconst (v := 5) F.x F.b dX7_owed_2 (by decide) ?_
  obtain ⟨r1, hc2, h⟩ := bd h
  try dsimp only at h
  refine kVi0 F w (As := [.int x1, .int 5]) (rest := []) (w1 := wMo G.2.1 mo M) (t_X7_of F.1 hc2) m_X7_of v_X7_of q1643 (ci := 11) (q0 := 0) rfl rfl rfl ⟨Nat.le_of_ble_eq_true rfl, Nat.le_of_ble_eq_true rfl⟩ rfl hl.1 rfl (Nat.le_of_ble_eq_true rfl) dX7_owed_3 ⟨Nat.le_of_ble_eq_true rfl, Nat.le_of_ble_eq_true rfl⟩ (fun H locs w => ?_)
  refine lv_iconst (v := 1) F.x F.b dX7_owed_6 (by decide) ?_
  refine lv_icmp_ne (tgt := 14) F.x F.b dX7_owed_7 (by decide) (fun c3 => ?_) (fun c3 => ?_)
  · have h := ie c3 h
    refine lv_aload_n F.x F.b dX7_owed_14 rfl (lv_at hl 0 rfl) ?_
    refine lv_aload_n F.x F.b dX7_owed_15 rfl (lv_at hl 0 rfl) ?_
    refine lv_iload_n F.x F.b dX7_owed_16 rfl (lv_at hl 1 rfl) ?_
    obtain ⟨r4, hc5, h⟩ := bd h
    try dsimp only at h
    refine kVi0 F w (As := [.int x1]) (rest := [.ref (mo 0)]) (w1 := wMo G.2.1 mo M) (t_X7_worth F.1 hc5) m_X7_worth v_X7_worth q1763 (ci := 11) (q0 := 0) rfl rfl rfl ⟨Nat.le_of_ble_eq_true rfl, Nat.le_of_ble_eq_true rfl⟩ rfl hl.1 rfl (Nat.le_of_ble_eq_true rfl) dX7_owed_17 ⟨Nat.le_of_ble_eq_true rfl, Nat.le_of_ble_eq_true rfl⟩ (fun H locs w => ?_)
    obtain ⟨r6, hc7, h⟩ := bd h
    try dsimp only at h
    refine kVi0 F w (As := [.int r4]) (rest := []) (w1 := wMo G.2.1 mo M) (t_X7_charged F.1 hc7) m_X7_charged v_X7_charged q1799 (ci := 11) (q0 := 0) rfl rfl rfl ⟨Nat.le_of_ble_eq_true rfl, Nat.le_of_ble_eq_true rfl⟩ rfl hl.1 rfl (Nat.le_of_ble_eq_true rfl) dX7_owed_20 ⟨Nat.le_of_ble_eq_true rfl, Nat.le_of_ble_eq_true rfl⟩ (fun H locs w => ?_)
    have z0 := sm h
    exact ei F w hr hlocks rfl z0 rfl dX7_owed_23
  · have h := it c3 h
    refine lv_iconst (v := 0) F.x F.b dX7_owed_10 (by decide) ?_
    refine lv_goto (tgt := 23) F.x F.b dX7_owed_11 (by decide) ?_
    have z0 := sm h
    exact ei F w hr hlocks rfl z0 rfl dX7_owed_23
set_option maxRecDepth 100000 in
set_option maxHeartbeats 4000000 in
theorem t_X7_waits {G : cG} (g : GOK G) {mo : Nat → Nat} {M : Mem} {x1 : Int32} {r : Int32} (h : f_X7_waits M x1 = some r) : CI G yX7_waits cX7_waits 3 .int 0 0 [.ref (mo 0), .int x1] (wMo G.2.1 mo M) (wMo G.2.1 mo M) r := by
  unfold f_X7_waits at h
  refine CI.of g (by decide) rfl (Nat.le_of_ble_eq_true rfl) ?_
  intro p l e s m below meth c A ls F hr hlocks w hl
  generalize ([.ref (mo 0), .int x1] : List Value).toArray = args
  have hl : lv_has ls 3 [(0, .ref (mo 0)), (1, .int x1)] := hl
  have L2 : ∀ (x1 : Int32) (M : Mem) {k : Option (Int32)} (n : Nat) (x2 : Int32) (H : Heap) (locs : List Loc) (ls : Array Slot), Wd G A s.heap (wMo G.2.1 mo M) H locs → lv_has ls 3 [(0, .ref (mo 0)), (1, .int x1), (2, .int x2)] → f_X7_waits_L2 x1 M k n x2 = some r → (∀ (H : Heap) (locs : List Loc) (ls : Array Slot), Wd G A s.heap (wMo G.2.1 mo M) H locs → lv_has ls 3 [] → k = some r → W p l e { frames := 0, cells := 0, slots := 0, locals := 0 } s m args below meth c H locs 0 0 (QI G A (wMo G.2.1 mo M) r below args s) (F0 m 35 ls [])) → W p l e { frames := 0, cells := 0, slots := 0, locals := 0 } s m args below meth c H locs 0 0 (QI G A (wMo G.2.1 mo M) r below args s) (F0 m 2 ls []) := by
    clear h w hl
    intro x1 M k n
    induction n with
    | zero =>
      intro x2 H locs ls w hl h hk
      exact nomatch (show (none : Option (Int32)) = some r from h)
    | succ n ih =>
      intro x2 H locs ls w hl h hk
      rw [f_X7_waits_L2] at h
      refine lv_iload_n F.x F.b dX7_waits_2 rfl (lv_at hl 2 rfl) ?_
      refine lv_aload_n F.x F.b dX7_waits_3 rfl (lv_at hl 0 rfl) ?_
      refine rg F w cl7 0 (at_Mo_0 _ _ _) 1 (by decide) q1548 rfl (v := .ref (mo 1)) rfl dX7_waits_4 ?_
      refine lv_bipush (v := 7) F.x F.b dX7_waits_7 (by decide) ?_
      obtain ⟨g1, h⟩ := gd h
      refine ri F w 1 (n := 148) (f := M.2 0) (at_Mo_1 _ _ _) g1 dX7_waits_9 ?_
      refine lv_icmp_ge (tgt := 35) F.x F.b dX7_waits_10 (by decide) (fun c2 => ?_) (fun c2 => ?_)
      · have h := it c2 h
        exact hk _ _ _ w (lv_sub hl [] rfl) h
      · have h := ie c2 h
        refine lv_aload_n F.x F.b dX7_waits_13 rfl (lv_at hl 0 rfl) ?_
        refine rg F w cl7 0 (at_Mo_0 _ _ _) 1 (by decide) q1548 rfl (v := .ref (mo 1)) rfl dX7_waits_14 ?_
        refine lv_sipush (v := 132) F.x F.b dX7_waits_17 (by decide) ?_
        refine lv_iload_n F.x F.b dX7_waits_20 rfl (lv_at hl 2 rfl) ?_
        refine lv_iadd F.x F.b dX7_waits_21 ?_
        obtain ⟨g3, h⟩ := gd h
        refine ri F w 1 (n := 148) (f := M.2 0) (at_Mo_1 _ _ _) g3 dX7_waits_22 ?_
        refine lv_iload_n F.x F.b dX7_waits_23 rfl (lv_at hl 1 rfl) ?_
        refine lv_icmp_ne (tgt := 29) F.x F.b dX7_waits_24 (by decide) (fun c4 => ?_) (fun c4 => ?_)
        · have h := ie c4 h
          refine lv_iinc (v := (x2 + 1)) (lv' := [(2, .int (x2 + 1)), (0, .ref (mo 0)), (1, .int x1)]) F.x F.b dX7_waits_29 hl (k := 2) rfl rfl (by decide) rfl (fun ls hl => ?_)
          refine lv_goto (tgt := 2) F.x F.b dX7_waits_32 (by decide) ?_
          exact ih (x2 + 1) _ _ _ w (lv_sub hl [1, 2, 0] rfl) h hk
        · have h := it c4 h
          refine lv_iload_n F.x F.b dX7_waits_27 rfl (lv_at hl 2 rfl) ?_
          have z0 := sm h
          exact ei F w hr hlocks rfl z0 rfl dX7_waits_28
  refine lv_iconst (v := 0) F.x F.b dX7_waits_0 (by decide) ?_
  refine lv_istore_n (lv' := [(2, .int 0), (0, .ref (mo 0)), (1, .int x1)]) F.x F.b dX7_waits_1 rfl hl (by decide) rfl (fun ls hl => ?_)
  refine L2 x1 M _ 0 _ _ _ w (lv_sub hl [1, 2, 0] rfl) h ?_
  intro  H locs ls w hl h
  try dsimp only at h
  refine lv_iconst (v := (-1)) F.x F.b dX7_waits_35 (by decide) ?_
  have z0 := sm h
  exact ei F w hr hlocks rfl z0 rfl dX7_waits_36
set_option maxRecDepth 100000 in
set_option maxHeartbeats 4000000 in
theorem t_X7_unqueues {G : cG} (g : GOK G) {mo : Nat → Nat} {M : Mem} {x1 : Int32} {M' : Mem} (h : f_X7_unqueues M x1 = some M') : CV G yX7_unqueues cX7_unqueues 3 0 0 [.ref (mo 0), .int x1] (wMo G.2.1 mo M) (wMo G.2.1 mo M') := by
  unfold f_X7_unqueues at h
  refine CV.of g (by decide) rfl (Nat.le_of_ble_eq_true rfl) ?_
  intro p l e s m below meth c A ls F hr hlocks w hl
  generalize ([.ref (mo 0), .int x1] : List Value).toArray = args
  have hl : lv_has ls 3 [(0, .ref (mo 0)), (1, .int x1)] := hl
  have L13 : ∀ {k : Mem → Option (Mem)} (n : Nat) (x2 : Int32) (M : Mem) (H : Heap) (locs : List Loc) (ls : Array Slot), Wd G A s.heap (wMo G.2.1 mo M) H locs → lv_has ls 3 [(0, .ref (mo 0)), (2, .int x2)] → f_X7_unqueues_L13 k n x2 M = some M' → (∀ (M : Mem) (H : Heap) (locs : List Loc) (ls : Array Slot), Wd G A s.heap (wMo G.2.1 mo M) H locs → lv_has ls 3 [(0, .ref (mo 0))] → k M = some M' → W p l e { frames := 0, cells := 0, slots := 0, locals := 0 } s m args below meth c H locs 0 0 (QV G A (wMo G.2.1 mo M') below args s) (F0 m 52 ls [])) → W p l e { frames := 0, cells := 0, slots := 0, locals := 0 } s m args below meth c H locs 0 0 (QV G A (wMo G.2.1 mo M') below args s) (F0 m 13 ls []) := by
    clear h w hl
    intro k n
    induction n with
    | zero =>
      intro x2 M H locs ls w hl h hk
      exact nomatch (show (none : Option (Mem)) = some M' from h)
    | succ n ih =>
      intro x2 M H locs ls w hl h hk
      rw [f_X7_unqueues_L13] at h
      refine lv_iload_n F.x F.b dX7_unqueues_13 rfl (lv_at hl 1 rfl) ?_
      refine lv_aload_n F.x F.b dX7_unqueues_14 rfl (lv_at hl 0 rfl) ?_
      refine rg F w cl7 0 (at_Mo_0 _ _ _) 1 (by decide) q1548 rfl (v := .ref (mo 1)) rfl dX7_unqueues_15 ?_
      refine lv_bipush (v := 7) F.x F.b dX7_unqueues_18 (by decide) ?_
      obtain ⟨g3, h⟩ := gd h
      refine ri F w 1 (n := 148) (f := M.2 0) (at_Mo_1 _ _ _) g3 dX7_unqueues_20 ?_
      refine lv_icmp_ge (tgt := 52) F.x F.b dX7_unqueues_21 (by decide) (fun c4 => ?_) (fun c4 => ?_)
      · have h := it c4 h
        exact hk M _ _ _ w (lv_sub hl [0] rfl) h
      · have h := ie c4 h
        refine lv_aload_n F.x F.b dX7_unqueues_24 rfl (lv_at hl 0 rfl) ?_
        refine rg F w cl7 0 (at_Mo_0 _ _ _) 1 (by decide) q1548 rfl (v := .ref (mo 1)) rfl dX7_unqueues_25 ?_
        refine lv_sipush (v := 132) F.x F.b dX7_unqueues_28 (by decide) ?_
        refine lv_iload_n F.x F.b dX7_unqueues_31 rfl (lv_at hl 1 rfl) ?_
        refine lv_iadd F.x F.b dX7_unqueues_32 ?_
        refine lv_aload_n F.x F.b dX7_unqueues_33 rfl (lv_at hl 0 rfl) ?_
        refine rg F w cl7 0 (at_Mo_0 _ _ _) 1 (by decide) q1548 rfl (v := .ref (mo 1)) rfl dX7_unqueues_34 ?_
        refine lv_sipush (v := 132) F.x F.b dX7_unqueues_37 (by decide) ?_
        refine lv_iload_n F.x F.b dX7_unqueues_40 rfl (lv_at hl 1 rfl) ?_
        refine lv_iadd F.x F.b dX7_unqueues_41 ?_
        refine lv_iconst (v := 1) F.x F.b dX7_unqueues_42 (by decide) ?_
        refine lv_iadd F.x F.b dX7_unqueues_43 ?_
        obtain ⟨g5, h⟩ := gd h
        refine ri F w 1 (n := 148) (f := M.2 0) (at_Mo_1 _ _ _) g5 dX7_unqueues_44 ?_
        obtain ⟨g6, h⟩ := gd h
        refine ris F w (ws' := wMo G.2.1 mo (wrA M 0 (132 + x2) (M.2 0 (Int32.toNatClampNeg ((132 + x2) + 1))))) 1 (n := 148) (f := M.2 0) (at_Mo_1 _ _ _) g6 (st_Mo_1 _ _ _ _ _) dX7_unqueues_45 (fun H locs w => ?_)
        refine lv_iinc (v := (x2 + 1)) (lv' := [(2, .int (x2 + 1)), (0, .ref (mo 0))]) F.x F.b dX7_unqueues_46 hl (k := 1) rfl rfl (by decide) rfl (fun ls hl => ?_)
        refine lv_goto (tgt := 13) F.x F.b dX7_unqueues_49 (by decide) ?_
        exact ih (x2 + 1) (wrA M 0 (132 + x2) (M.2 0 (Int32.toNatClampNeg ((132 + x2) + 1)))) _ _ _ w (lv_sub hl [1, 0] rfl) h hk
  refine lv_aload_n F.x F.b dX7_unqueues_0 rfl (lv_at hl 0 rfl) ?_
  refine rg F w cl7 0 (at_Mo_0 _ _ _) 1 (by decide) q1548 rfl (v := .ref (mo 1)) rfl dX7_unqueues_1 ?_
  refine lv_bipush (v := 7) F.x F.b dX7_unqueues_4 (by decide) ?_
  refine lv_dup2_11 F.x F.b dX7_unqueues_6 rfl rfl ?_
  obtain ⟨g1, h⟩ := gd h
  refine ri F w 1 (n := 148) (f := M.2 0) (at_Mo_1 _ _ _) g1 dX7_unqueues_7 ?_
  refine lv_iconst (v := 1) F.x F.b dX7_unqueues_8 (by decide) ?_
  refine lv_isub F.x F.b dX7_unqueues_9 ?_
  obtain ⟨g2, h⟩ := gd h
  refine ris F w (ws' := wMo G.2.1 mo (wrA M 0 7 ((M.2 0 (Int32.toNatClampNeg 7)) - 1))) 1 (n := 148) (f := M.2 0) (at_Mo_1 _ _ _) g2 (st_Mo_1 _ _ _ _ _) dX7_unqueues_10 (fun H locs w => ?_)
  refine lv_iload_n F.x F.b dX7_unqueues_11 rfl (lv_at hl 1 rfl) ?_
  refine lv_istore_n (lv' := [(2, .int x1), (0, .ref (mo 0)), (1, .int x1)]) F.x F.b dX7_unqueues_12 rfl hl (by decide) rfl (fun ls hl => ?_)
  refine L13 _ x1 (wrA M 0 7 ((M.2 0 (Int32.toNatClampNeg 7)) - 1)) _ _ _ w (lv_sub hl [1, 0] rfl) h ?_
  intro M_7 H locs ls w hl h
  try dsimp only at h
  refine lv_aload_n F.x F.b dX7_unqueues_52 rfl (lv_at hl 0 rfl) ?_
  refine rg F w cl7 0 (at_Mo_0 _ _ _) 1 (by decide) q1548 rfl (v := .ref (mo 1)) rfl dX7_unqueues_53 ?_
  refine lv_sipush (v := 132) F.x F.b dX7_unqueues_56 (by decide) ?_
  refine lv_aload_n F.x F.b dX7_unqueues_59 rfl (lv_at hl 0 rfl) ?_
  refine rg F w cl7 0 (at_Mo_0 _ _ _) 1 (by decide) q1548 rfl (v := .ref (mo 1)) rfl dX7_unqueues_60 ?_
  refine lv_bipush (v := 7) F.x F.b dX7_unqueues_63 (by decide) ?_
  obtain ⟨g8, h⟩ := gd h
  refine ri F w 1 (n := 148) (f := M_7.2 0) (at_Mo_1 _ _ _) g8 dX7_unqueues_65 ?_
  refine lv_iadd F.x F.b dX7_unqueues_66 ?_
  refine lv_iconst (v := 0) F.x F.b dX7_unqueues_67 (by decide) ?_
  obtain ⟨g9, h⟩ := gd h
  refine ris F w (ws' := wMo G.2.1 mo (wrA M_7 0 (132 + (M_7.2 0 (Int32.toNatClampNeg 7))) 0)) 1 (n := 148) (f := M_7.2 0) (at_Mo_1 _ _ _) g9 (st_Mo_1 _ _ _ _ _) dX7_unqueues_68 (fun H locs w => ?_)
  have z0 := sm h
  exact ev F w hr hlocks (by rw [← z0]) dX7_unqueues_69
set_option maxRecDepth 100000 in
set_option maxHeartbeats 4000000 in
theorem t_X7_leaves {G : cG} (g : GOK G) {mo : Nat → Nat} {M : Mem} {x1 : Int32} {M' : Mem} (h : f_X7_leaves M x1 = some M') : CV G yX7_leaves cX7_leaves 5 1 22 [.ref (mo 0), .int x1] (wMo G.2.1 mo M) (wMo G.2.1 mo M') := by
  unfold f_X7_leaves at h
  refine CV.of g (by decide) rfl (Nat.le_of_ble_eq_true rfl) ?_
  intro p l e s m below meth c A ls F hr hlocks w hl
  generalize ([.ref (mo 0), .int x1] : List Value).toArray = args
  have hl : lv_has ls 5 [(0, .ref (mo 0)), (1, .int x1)] := hl
  have L36 : ∀ (x3 : Int32) {k : Mem → Option (Mem)} (n : Nat) (x4 : Int32) (M : Mem) (H : Heap) (locs : List Loc) (ls : Array Slot), Wd G A s.heap (wMo G.2.1 mo M) H locs → lv_has ls 5 [(0, .ref (mo 0)), (3, .int x3), (4, .int x4)] → f_X7_leaves_L36 x3 k n x4 M = some M' → (∀ (M : Mem) (H : Heap) (locs : List Loc) (ls : Array Slot), Wd G A s.heap (wMo G.2.1 mo M) H locs → lv_has ls 5 [(0, .ref (mo 0)), (3, .int x3)] → k M = some M' → W p l e { frames := 1, cells := 0, slots := 0, locals := 22 } s m args below meth c H locs 0 0 (QV G A (wMo G.2.1 mo M') below args s) (F0 m 74 ls [])) → W p l e { frames := 1, cells := 0, slots := 0, locals := 22 } s m args below meth c H locs 0 0 (QV G A (wMo G.2.1 mo M') below args s) (F0 m 36 ls []) := by
    clear h w hl
    intro x3 k n
    induction n with
    | zero =>
      intro x4 M H locs ls w hl h hk
      exact nomatch (show (none : Option (Mem)) = some M' from h)
    | succ n ih =>
      intro x4 M H locs ls w hl h hk
      rw [f_X7_leaves_L36] at h
      refine lv_iload F.x F.b dX7_leaves_36 (lv_at hl 2 rfl) ?_
      refine lv_bipush (v := 7) F.x F.b dX7_leaves_38 (by decide) ?_
      refine lv_iload_n F.x F.b dX7_leaves_40 rfl (lv_at hl 1 rfl) ?_
      refine lv_imul F.x F.b dX7_leaves_41 ?_
      refine lv_icmp_ge (tgt := 74) F.x F.b dX7_leaves_42 (by decide) (fun c7 => ?_) (fun c7 => ?_)
      · have h := it c7 h
        exact hk M _ _ _ w (lv_sub hl [0, 1] rfl) h
      · have h := ie c7 h
        refine lv_aload_n F.x F.b dX7_leaves_45 rfl (lv_at hl 0 rfl) ?_
        refine rg F w cl7 0 (at_Mo_0 _ _ _) 1 (by decide) q1548 rfl (v := .ref (mo 1)) rfl dX7_leaves_46 ?_
        refine lv_bipush (v := 8) F.x F.b dX7_leaves_49 (by decide) ?_
        refine lv_iload F.x F.b dX7_leaves_51 (lv_at hl 2 rfl) ?_
        refine lv_iadd F.x F.b dX7_leaves_53 ?_
        refine lv_aload_n F.x F.b dX7_leaves_54 rfl (lv_at hl 0 rfl) ?_
        refine rg F w cl7 0 (at_Mo_0 _ _ _) 1 (by decide) q1548 rfl (v := .ref (mo 1)) rfl dX7_leaves_55 ?_
        refine lv_bipush (v := 8) F.x F.b dX7_leaves_58 (by decide) ?_
        refine lv_iload F.x F.b dX7_leaves_60 (lv_at hl 2 rfl) ?_
        refine lv_iadd F.x F.b dX7_leaves_62 ?_
        refine lv_bipush (v := 7) F.x F.b dX7_leaves_63 (by decide) ?_
        refine lv_iadd F.x F.b dX7_leaves_65 ?_
        obtain ⟨g8, h⟩ := gd h
        refine ri F w 1 (n := 148) (f := M.2 0) (at_Mo_1 _ _ _) g8 dX7_leaves_66 ?_
        obtain ⟨g9, h⟩ := gd h
        refine ris F w (ws' := wMo G.2.1 mo (wrA M 0 (8 + x4) (M.2 0 (Int32.toNatClampNeg ((8 + x4) + 7))))) 1 (n := 148) (f := M.2 0) (at_Mo_1 _ _ _) g9 (st_Mo_1 _ _ _ _ _) dX7_leaves_67 (fun H locs w => ?_)
        refine lv_iinc (v := (x4 + 1)) (lv' := [(4, .int (x4 + 1)), (0, .ref (mo 0)), (3, .int x3)]) F.x F.b dX7_leaves_68 hl (k := 2) rfl rfl (by decide) rfl (fun ls hl => ?_)
        refine lv_goto (tgt := 36) F.x F.b dX7_leaves_71 (by decide) ?_
        exact ih (x4 + 1) (wrA M 0 (8 + x4) (M.2 0 (Int32.toNatClampNeg ((8 + x4) + 7)))) _ _ _ w (lv_sub hl [1, 2, 0] rfl) h hk
  have L77 : ∀ (x3 : Int32) {k : Mem → Option (Mem)} (n : Nat) (x4 : Int32) (M : Mem) (H : Heap) (locs : List Loc) (ls : Array Slot), Wd G A s.heap (wMo G.2.1 mo M) H locs → lv_has ls 5 [(0, .ref (mo 0)), (3, .int x3), (4, .int x4)] → f_X7_leaves_L77 x3 k n x4 M = some M' → (∀ (M : Mem) (H : Heap) (locs : List Loc) (ls : Array Slot), Wd G A s.heap (wMo G.2.1 mo M) H locs → lv_has ls 5 [(0, .ref (mo 0)), (3, .int x3)] → k M = some M' → W p l e { frames := 1, cells := 0, slots := 0, locals := 22 } s m args below meth c H locs 0 0 (QV G A (wMo G.2.1 mo M') below args s) (F0 m 106 ls [])) → W p l e { frames := 1, cells := 0, slots := 0, locals := 22 } s m args below meth c H locs 0 0 (QV G A (wMo G.2.1 mo M') below args s) (F0 m 77 ls []) := by
    clear h w hl
    intro x3 k n
    induction n with
    | zero =>
      intro x4 M H locs ls w hl h hk
      exact nomatch (show (none : Option (Mem)) = some M' from h)
    | succ n ih =>
      intro x4 M H locs ls w hl h hk
      rw [f_X7_leaves_L77] at h
      refine lv_iload F.x F.b dX7_leaves_77 (lv_at hl 2 rfl) ?_
      refine lv_bipush (v := 7) F.x F.b dX7_leaves_79 (by decide) ?_
      refine lv_icmp_ge (tgt := 106) F.x F.b dX7_leaves_81 (by decide) (fun c11 => ?_) (fun c11 => ?_)
      · have h := it c11 h
        exact hk M _ _ _ w (lv_sub hl [0, 1] rfl) h
      · have h := ie c11 h
        refine lv_aload_n F.x F.b dX7_leaves_84 rfl (lv_at hl 0 rfl) ?_
        refine rg F w cl7 0 (at_Mo_0 _ _ _) 1 (by decide) q1548 rfl (v := .ref (mo 1)) rfl dX7_leaves_85 ?_
        refine lv_bipush (v := 8) F.x F.b dX7_leaves_88 (by decide) ?_
        refine lv_bipush (v := 7) F.x F.b dX7_leaves_90 (by decide) ?_
        refine lv_iload_n F.x F.b dX7_leaves_92 rfl (lv_at hl 1 rfl) ?_
        refine lv_imul F.x F.b dX7_leaves_93 ?_
        refine lv_iadd F.x F.b dX7_leaves_94 ?_
        refine lv_iload F.x F.b dX7_leaves_95 (lv_at hl 2 rfl) ?_
        refine lv_iadd F.x F.b dX7_leaves_97 ?_
        refine lv_iconst (v := 0) F.x F.b dX7_leaves_98 (by decide) ?_
        obtain ⟨g12, h⟩ := gd h
        refine ris F w (ws' := wMo G.2.1 mo (wrA M 0 ((8 + (7 * x3)) + x4) 0)) 1 (n := 148) (f := M.2 0) (at_Mo_1 _ _ _) g12 (st_Mo_1 _ _ _ _ _) dX7_leaves_99 (fun H locs w => ?_)
        refine lv_iinc (v := (x4 + 1)) (lv' := [(4, .int (x4 + 1)), (0, .ref (mo 0)), (3, .int x3)]) F.x F.b dX7_leaves_100 hl (k := 2) rfl rfl (by decide) rfl (fun ls hl => ?_)
        refine lv_goto (tgt := 77) F.x F.b dX7_leaves_103 (by decide) ?_
        exact ih (x4 + 1) (wrA M 0 ((8 + (7 * x3)) + x4) 0) _ _ _ w (lv_sub hl [1, 2, 0] rfl) h hk
  refine lv_aload_n F.x F.b dX7_leaves_0 rfl (lv_at hl 0 rfl) ?_
  refine lv_aload_n F.x F.b dX7_leaves_1 rfl (lv_at hl 0 rfl) ?_
  refine lv_iload_n F.x F.b dX7_leaves_2 rfl (lv_at hl 1 rfl) ?_
  refine lv_iconst (v := 0) F.x F.b dX7_leaves_3 (by decide) ?_
  obtain ⟨r1, hc2, h⟩ := bd h
  try dsimp only at h
  refine kVi0 F w (As := [.int x1, .int 0]) (rest := [.ref (mo 0)]) (w1 := wMo G.2.1 mo M) (t_X7_of F.1 hc2) m_X7_of v_X7_of q1643 (ci := 11) (q0 := 0) rfl rfl rfl ⟨Nat.le_of_ble_eq_true rfl, Nat.le_of_ble_eq_true rfl⟩ rfl hl.1 rfl (Nat.le_of_ble_eq_true rfl) dX7_leaves_4 ⟨Nat.le_of_ble_eq_true rfl, Nat.le_of_ble_eq_true rfl⟩ (fun H locs w => ?_)
  obtain ⟨r3, hc4, h⟩ := bd h
  try dsimp only at h
  refine kVi0 F w (As := [.int r1]) (rest := []) (w1 := wMo G.2.1 mo M) (t_X7_waits F.1 hc4) m_X7_waits v_X7_waits q1841 (ci := 11) (q0 := 0) rfl rfl rfl ⟨Nat.le_of_ble_eq_true rfl, Nat.le_of_ble_eq_true rfl⟩ rfl hl.1 rfl (Nat.le_of_ble_eq_true rfl) dX7_leaves_7 ⟨Nat.le_of_ble_eq_true rfl, Nat.le_of_ble_eq_true rfl⟩ (fun H locs w => ?_)
  refine lv_istore_n (lv' := [(2, .int r3), (0, .ref (mo 0)), (1, .int x1)]) F.x F.b dX7_leaves_10 rfl hl (by decide) rfl (fun ls hl => ?_)
  refine lv_iload_n F.x F.b dX7_leaves_11 rfl (lv_at hl 0 rfl) ?_
  refine lv_iconst (v := (-1)) F.x F.b dX7_leaves_12 (by decide) ?_
  refine lv_icmp_eq (tgt := 21) F.x F.b dX7_leaves_13 (by decide) (fun c5 => ?_) (fun c5 => ?_)
  · have h := it c5 h
    refine lv_aload_n F.x F.b dX7_leaves_21 rfl (lv_at hl 1 rfl) ?_
    refine rg F w cl7 0 (at_Mo_0 _ _ _) 1 (by decide) q1548 rfl (v := .ref (mo 1)) rfl dX7_leaves_22 ?_
    refine lv_iconst (v := 1) F.x F.b dX7_leaves_25 (by decide) ?_
    obtain ⟨g6, h⟩ := gd h
    refine ri F w 1 (n := 148) (f := M.2 0) (at_Mo_1 _ _ _) g6 dX7_leaves_26 ?_
    refine lv_iconst (v := 1) F.x F.b dX7_leaves_27 (by decide) ?_
    refine lv_isub F.x F.b dX7_leaves_28 ?_
    refine lv_istore_n (lv' := [(3, .int ((M.2 0 (Int32.toNatClampNeg 1)) - 1)), (2, .int r3), (0, .ref (mo 0)), (1, .int x1)]) F.x F.b dX7_leaves_29 rfl hl (by decide) rfl (fun ls hl => ?_)
    refine lv_bipush (v := 7) F.x F.b dX7_leaves_30 (by decide) ?_
    refine lv_iload_n F.x F.b dX7_leaves_32 rfl (lv_at hl 3 rfl) ?_
    refine lv_imul F.x F.b dX7_leaves_33 ?_
    refine lv_istore (lv' := [(4, .int (7 * x1)), (3, .int ((M.2 0 (Int32.toNatClampNeg 1)) - 1)), (2, .int r3), (0, .ref (mo 0)), (1, .int x1)]) F.x F.b dX7_leaves_34 hl (by decide) rfl (fun ls hl => ?_)
    refine L36 ((M.2 0 (Int32.toNatClampNeg 1)) - 1) _ (7 * x1) M _ _ _ w (lv_sub hl [3, 1, 0] rfl) h ?_
    intro M_10 H locs ls w hl h
    try dsimp only at h
    refine lv_iconst (v := 0) F.x F.b dX7_leaves_74 (by decide) ?_
    refine lv_istore (lv' := [(4, .int 0), (0, .ref (mo 0)), (3, .int ((M.2 0 (Int32.toNatClampNeg 1)) - 1))]) F.x F.b dX7_leaves_75 hl (by decide) rfl (fun ls hl => ?_)
    refine L77 ((M.2 0 (Int32.toNatClampNeg 1)) - 1) _ 0 M_10 _ _ _ w (lv_sub hl [1, 2, 0] rfl) h ?_
    intro M_13 H locs ls w hl h
    try dsimp only at h
    refine lv_aload_n F.x F.b dX7_leaves_106 rfl (lv_at hl 0 rfl) ?_
    refine rg F w cl7 0 (at_Mo_0 _ _ _) 1 (by decide) q1548 rfl (v := .ref (mo 1)) rfl dX7_leaves_107 ?_
    refine lv_iconst (v := 1) F.x F.b dX7_leaves_110 (by decide) ?_
    refine lv_iload_n F.x F.b dX7_leaves_111 rfl (lv_at hl 1 rfl) ?_
    obtain ⟨g14, h⟩ := gd h
    refine ris F w (ws' := wMo G.2.1 mo (wrA M_13 0 1 ((M.2 0 (Int32.toNatClampNeg 1)) - 1))) 1 (n := 148) (f := M_13.2 0) (at_Mo_1 _ _ _) g14 (st_Mo_1 _ _ _ _ _) dX7_leaves_112 (fun H locs w => ?_)
    have z0 := sm h
    exact ev F w hr hlocks (by rw [← z0]) dX7_leaves_113
  · have h := ie c5 h
    refine lv_aload_n F.x F.b dX7_leaves_16 rfl (lv_at hl 1 rfl) ?_
    refine lv_iload_n F.x F.b dX7_leaves_17 rfl (lv_at hl 0 rfl) ?_
    obtain ⟨M_15, hc16, h⟩ := bd h
    try dsimp only at h
    refine kVv0 F w (As := [.int r3]) (rest := []) (w1 := wMo G.2.1 mo M_15) (t_X7_unqueues F.1 hc16) m_X7_unqueues v_X7_unqueues q1845 (ci := 11) (q0 := 0) rfl rfl rfl ⟨Nat.le_of_ble_eq_true rfl, Nat.le_of_ble_eq_true rfl⟩ rfl hl.1 rfl (Nat.le_of_ble_eq_true rfl) dX7_leaves_18 ⟨Nat.le_of_ble_eq_true rfl, Nat.le_of_ble_eq_true rfl⟩ (fun H locs w => ?_)
    refine lv_aload_n F.x F.b dX7_leaves_21 rfl (lv_at hl 1 rfl) ?_
    refine rg F w cl7 0 (at_Mo_0 _ _ _) 1 (by decide) q1548 rfl (v := .ref (mo 1)) rfl dX7_leaves_22 ?_
    refine lv_iconst (v := 1) F.x F.b dX7_leaves_25 (by decide) ?_
    obtain ⟨g17, h⟩ := gd h
    refine ri F w 1 (n := 148) (f := M_15.2 0) (at_Mo_1 _ _ _) g17 dX7_leaves_26 ?_
    refine lv_iconst (v := 1) F.x F.b dX7_leaves_27 (by decide) ?_
    refine lv_isub F.x F.b dX7_leaves_28 ?_
    refine lv_istore_n (lv' := [(3, .int ((M_15.2 0 (Int32.toNatClampNeg 1)) - 1)), (2, .int r3), (0, .ref (mo 0)), (1, .int x1)]) F.x F.b dX7_leaves_29 rfl hl (by decide) rfl (fun ls hl => ?_)
    refine lv_bipush (v := 7) F.x F.b dX7_leaves_30 (by decide) ?_
    refine lv_iload_n F.x F.b dX7_leaves_32 rfl (lv_at hl 3 rfl) ?_
    refine lv_imul F.x F.b dX7_leaves_33 ?_
    refine lv_istore (lv' := [(4, .int (7 * x1)), (3, .int ((M_15.2 0 (Int32.toNatClampNeg 1)) - 1)), (2, .int r3), (0, .ref (mo 0)), (1, .int x1)]) F.x F.b dX7_leaves_34 hl (by decide) rfl (fun ls hl => ?_)
    refine L36 ((M_15.2 0 (Int32.toNatClampNeg 1)) - 1) _ (7 * x1) M_15 _ _ _ w (lv_sub hl [3, 1, 0] rfl) h ?_
    intro M_18 H locs ls w hl h
    try dsimp only at h
    refine lv_iconst (v := 0) F.x F.b dX7_leaves_74 (by decide) ?_
    refine lv_istore (lv' := [(4, .int 0), (0, .ref (mo 0)), (3, .int ((M_15.2 0 (Int32.toNatClampNeg 1)) - 1))]) F.x F.b dX7_leaves_75 hl (by decide) rfl (fun ls hl => ?_)
    refine L77 ((M_15.2 0 (Int32.toNatClampNeg 1)) - 1) _ 0 M_18 _ _ _ w (lv_sub hl [1, 2, 0] rfl) h ?_
    intro M_19 H locs ls w hl h
    try dsimp only at h
    refine lv_aload_n F.x F.b dX7_leaves_106 rfl (lv_at hl 0 rfl) ?_
    refine rg F w cl7 0 (at_Mo_0 _ _ _) 1 (by decide) q1548 rfl (v := .ref (mo 1)) rfl dX7_leaves_107 ?_
    refine lv_iconst (v := 1) F.x F.b dX7_leaves_110 (by decide) ?_
    refine lv_iload_n F.x F.b dX7_leaves_111 rfl (lv_at hl 1 rfl) ?_
    obtain ⟨g20, h⟩ := gd h
    refine ris F w (ws' := wMo G.2.1 mo (wrA M_19 0 1 ((M_15.2 0 (Int32.toNatClampNeg 1)) - 1))) 1 (n := 148) (f := M_19.2 0) (at_Mo_1 _ _ _) g20 (st_Mo_1 _ _ _ _ _) dX7_leaves_112 (fun H locs w => ?_)
    have z0 := sm h
    exact ev F w hr hlocks (by rw [← z0]) dX7_leaves_113
set_option maxRecDepth 100000 in
set_option maxHeartbeats 4000000 in
theorem t_X7_adds {G : cG} (g : GOK G) {mo : Nat → Nat} {M : Mem} {x1 x2 x3 x4 : Int32} {r : Int32} {M' : Mem} (h : f_X7_adds M x1 x2 x3 x4 = some (r, M')) : CI G yX7_adds cX7_adds 6 .int 2 44 [.ref (mo 0), .int x1, .int x2, .int x3, .int x4] (wMo G.2.1 mo M) (wMo G.2.1 mo M') r := by
  unfold f_X7_adds at h
  refine CI.of g (by decide) rfl (Nat.le_of_ble_eq_true rfl) ?_
  intro p l e s m below meth c A ls F hr hlocks w hl
  generalize ([.ref (mo 0), .int x1, .int x2, .int x3, .int x4] : List Value).toArray = args
  have hl : lv_has ls 6 [(0, .ref (mo 0)), (1, .int x1), (2, .int x2), (3, .int x3), (4, .int x4)] := hl
  refine lv_iload F.x F.b dX7_adds_0 (lv_at hl 4 rfl) ?_
  obtain ⟨r1, hc2, h⟩ := bd h
  try dsimp only at h
  refine kSi F w (t_X7_isBay F.1 hc2) m_X7_isBay v_X7_isBay q1630 (As := [.int x4]) (rest := []) ⟨Nat.le_of_ble_eq_true rfl, Nat.le_of_ble_eq_true rfl⟩ rfl hl.1 rfl (Nat.le_of_ble_eq_true rfl) dX7_adds_2 ⟨Nat.le_of_ble_eq_true rfl, Nat.le_of_ble_eq_true rfl⟩ (fun H locs w => ?_)
  refine lv_if_ne (tgt := 10) F.x F.b dX7_adds_5 (by decide) (fun c3 => ?_) (fun c3 => ?_)
  · have h := ie c3 h
    refine lv_iload_n F.x F.b dX7_adds_10 rfl (lv_at hl 1 rfl) ?_
    obtain ⟨r4, hc5, h⟩ := bd h
    try dsimp only at h
    refine kSi F w (t_X7_isKind F.1 hc5) m_X7_isKind v_X7_isKind q1636 (As := [.int x1]) (rest := []) ⟨Nat.le_of_ble_eq_true rfl, Nat.le_of_ble_eq_true rfl⟩ rfl hl.1 rfl (Nat.le_of_ble_eq_true rfl) dX7_adds_11 ⟨Nat.le_of_ble_eq_true rfl, Nat.le_of_ble_eq_true rfl⟩ (fun H locs w => ?_)
    refine lv_if_eq (tgt := 37) F.x F.b dX7_adds_14 (by decide) (fun c6 => ?_) (fun c6 => ?_)
    · have h := it c6 h
      refine lv_iconst (v := 2) F.x F.b dX7_adds_37 (by decide) ?_
      obtain ⟨z0, z1⟩ := sm2 (sm h)
      exact ei F w hr hlocks rfl z0 (by rw [← z1]) dX7_adds_38
    · have h := ie c6 h
      refine lv_iload_n F.x F.b dX7_adds_17 rfl (lv_at hl 2 rfl) ?_
      refine lv_iconst (v := 1) F.x F.b dX7_adds_18 (by decide) ?_
      refine lv_bipush (v := 99) F.x F.b dX7_adds_19 (by decide) ?_
      obtain ⟨r7, hc8, h⟩ := bd h
      try dsimp only at h
      refine kSi F w (t_X7_in F.1 hc8) m_X7_in v_X7_in q1633 (As := [.int x2, .int 1, .int 99]) (rest := []) ⟨Nat.le_of_ble_eq_true rfl, Nat.le_of_ble_eq_true rfl⟩ rfl hl.1 rfl (Nat.le_of_ble_eq_true rfl) dX7_adds_21 ⟨Nat.le_of_ble_eq_true rfl, Nat.le_of_ble_eq_true rfl⟩ (fun H locs w => ?_)
      refine lv_if_eq (tgt := 37) F.x F.b dX7_adds_24 (by decide) (fun c9 => ?_) (fun c9 => ?_)
      · have h := it c9 h
        refine lv_iconst (v := 2) F.x F.b dX7_adds_37 (by decide) ?_
        obtain ⟨z0, z1⟩ := sm2 (sm h)
        exact ei F w hr hlocks rfl z0 (by rw [← z1]) dX7_adds_38
      · have h := ie c9 h
        refine lv_iload_n F.x F.b dX7_adds_27 rfl (lv_at hl 3 rfl) ?_
        refine lv_iconst (v := 1) F.x F.b dX7_adds_28 (by decide) ?_
        refine lv_bipush (v := 99) F.x F.b dX7_adds_29 (by decide) ?_
        obtain ⟨r10, hc11, h⟩ := bd h
        try dsimp only at h
        refine kSi F w (t_X7_in F.1 hc11) m_X7_in v_X7_in q1633 (As := [.int x3, .int 1, .int 99]) (rest := []) ⟨Nat.le_of_ble_eq_true rfl, Nat.le_of_ble_eq_true rfl⟩ rfl hl.1 rfl (Nat.le_of_ble_eq_true rfl) dX7_adds_31 ⟨Nat.le_of_ble_eq_true rfl, Nat.le_of_ble_eq_true rfl⟩ (fun H locs w => ?_)
        refine lv_if_ne (tgt := 39) F.x F.b dX7_adds_34 (by decide) (fun c12 => ?_) (fun c12 => ?_)
        · have h := ie c12 h
          refine lv_aload_n F.x F.b dX7_adds_39 rfl (lv_at hl 0 rfl) ?_
          refine rg F w cl7 0 (at_Mo_0 _ _ _) 1 (by decide) q1548 rfl (v := .ref (mo 1)) rfl dX7_adds_40 ?_
          refine lv_iconst (v := 1) F.x F.b dX7_adds_43 (by decide) ?_
          obtain ⟨g13, h⟩ := gd h
          refine ri F w 1 (n := 148) (f := M.2 0) (at_Mo_1 _ _ _) g13 dX7_adds_44 ?_
          refine lv_istore (lv' := [(5, .int (M.2 0 (Int32.toNatClampNeg 1))), (0, .ref (mo 0)), (1, .int x1), (2, .int x2), (3, .int x3), (4, .int x4)]) F.x F.b dX7_adds_45 hl (by decide) rfl (fun ls hl => ?_)
          refine lv_iload F.x F.b dX7_adds_47 (lv_at hl 0 rfl) ?_
          refine lv_bipush (v := 16) F.x F.b dX7_adds_49 (by decide) ?_
          refine lv_icmp_ne (tgt := 56) F.x F.b dX7_adds_51 (by decide) (fun c14 => ?_) (fun c14 => ?_)
          · have h := ie c14 h
            refine lv_aload_n F.x F.b dX7_adds_56 rfl (lv_at hl 1 rfl) ?_
            refine lv_iload F.x F.b dX7_adds_57 (lv_at hl 5 rfl) ?_
            obtain ⟨r15, hc16, h⟩ := bd h
            try dsimp only at h
            refine kVi0 F w (As := [.int x4]) (rest := []) (w1 := wMo G.2.1 mo M) (t_X7_inside F.1 hc16) m_X7_inside v_X7_inside q1639 (ci := 11) (q0 := 0) rfl rfl rfl ⟨Nat.le_of_ble_eq_true rfl, Nat.le_of_ble_eq_true rfl⟩ rfl hl.1 rfl (Nat.le_of_ble_eq_true rfl) dX7_adds_59 ⟨Nat.le_of_ble_eq_true rfl, Nat.le_of_ble_eq_true rfl⟩ (fun H locs w => ?_)
            refine lv_iconst (v := (-1)) F.x F.b dX7_adds_62 (by decide) ?_
            refine lv_icmp_eq (tgt := 68) F.x F.b dX7_adds_63 (by decide) (fun c17 => ?_) (fun c17 => ?_)
            · have h := it c17 h
              refine lv_aload_n F.x F.b dX7_adds_68 rfl (lv_at hl 1 rfl) ?_
              refine lv_iload F.x F.b dX7_adds_69 (lv_at hl 0 rfl) ?_
              refine lv_iconst (v := 0) F.x F.b dX7_adds_71 (by decide) ?_
              refine lv_aload_n F.x F.b dX7_adds_72 rfl (lv_at hl 1 rfl) ?_
              refine rg F w cl7 0 (at_Mo_0 _ _ _) 1 (by decide) q1548 rfl (v := .ref (mo 1)) rfl dX7_adds_73 ?_
              refine lv_iconst (v := 0) F.x F.b dX7_adds_76 (by decide) ?_
              obtain ⟨g18, h⟩ := gd h
              refine ri F w 1 (n := 148) (f := M.2 0) (at_Mo_1 _ _ _) g18 dX7_adds_77 ?_
              obtain ⟨M_19, hc20, h⟩ := bd h
              try dsimp only at h
              refine kVv0 F w (As := [.int (M.2 0 (Int32.toNatClampNeg 1)), .int 0, .int (M.2 0 (Int32.toNatClampNeg 0))]) (rest := []) (w1 := wMo G.2.1 mo M_19) (t_X7_sets F.1 hc20) m_X7_sets v_X7_sets q1647 (ci := 11) (q0 := 0) rfl rfl rfl ⟨Nat.le_of_ble_eq_true rfl, Nat.le_of_ble_eq_true rfl⟩ rfl hl.1 rfl (Nat.le_of_ble_eq_true rfl) dX7_adds_78 ⟨Nat.le_of_ble_eq_true rfl, Nat.le_of_ble_eq_true rfl⟩ (fun H locs w => ?_)
              refine lv_aload_n F.x F.b dX7_adds_81 rfl (lv_at hl 1 rfl) ?_
              refine lv_iload F.x F.b dX7_adds_82 (lv_at hl 0 rfl) ?_
              refine lv_iconst (v := 1) F.x F.b dX7_adds_84 (by decide) ?_
              refine lv_iload_n F.x F.b dX7_adds_85 rfl (lv_at hl 2 rfl) ?_
              obtain ⟨M_21, hc22, h⟩ := bd h
              try dsimp only at h
              refine kVv0 F w (As := [.int (M.2 0 (Int32.toNatClampNeg 1)), .int 1, .int x1]) (rest := []) (w1 := wMo G.2.1 mo M_21) (t_X7_sets F.1 hc22) m_X7_sets v_X7_sets q1647 (ci := 11) (q0 := 0) rfl rfl rfl ⟨Nat.le_of_ble_eq_true rfl, Nat.le_of_ble_eq_true rfl⟩ rfl hl.1 rfl (Nat.le_of_ble_eq_true rfl) dX7_adds_86 ⟨Nat.le_of_ble_eq_true rfl, Nat.le_of_ble_eq_true rfl⟩ (fun H locs w => ?_)
              refine lv_aload_n F.x F.b dX7_adds_89 rfl (lv_at hl 1 rfl) ?_
              refine lv_iload F.x F.b dX7_adds_90 (lv_at hl 0 rfl) ?_
              refine lv_iconst (v := 2) F.x F.b dX7_adds_92 (by decide) ?_
              refine lv_iload_n F.x F.b dX7_adds_93 rfl (lv_at hl 3 rfl) ?_
              obtain ⟨M_23, hc24, h⟩ := bd h
              try dsimp only at h
              refine kVv0 F w (As := [.int (M.2 0 (Int32.toNatClampNeg 1)), .int 2, .int x2]) (rest := []) (w1 := wMo G.2.1 mo M_23) (t_X7_sets F.1 hc24) m_X7_sets v_X7_sets q1647 (ci := 11) (q0 := 0) rfl rfl rfl ⟨Nat.le_of_ble_eq_true rfl, Nat.le_of_ble_eq_true rfl⟩ rfl hl.1 rfl (Nat.le_of_ble_eq_true rfl) dX7_adds_94 ⟨Nat.le_of_ble_eq_true rfl, Nat.le_of_ble_eq_true rfl⟩ (fun H locs w => ?_)
              refine lv_aload_n F.x F.b dX7_adds_97 rfl (lv_at hl 1 rfl) ?_
              refine lv_iload F.x F.b dX7_adds_98 (lv_at hl 0 rfl) ?_
              refine lv_iconst (v := 3) F.x F.b dX7_adds_100 (by decide) ?_
              refine lv_iload_n F.x F.b dX7_adds_101 rfl (lv_at hl 4 rfl) ?_
              obtain ⟨M_25, hc26, h⟩ := bd h
              try dsimp only at h
              refine kVv0 F w (As := [.int (M.2 0 (Int32.toNatClampNeg 1)), .int 3, .int x3]) (rest := []) (w1 := wMo G.2.1 mo M_25) (t_X7_sets F.1 hc26) m_X7_sets v_X7_sets q1647 (ci := 11) (q0 := 0) rfl rfl rfl ⟨Nat.le_of_ble_eq_true rfl, Nat.le_of_ble_eq_true rfl⟩ rfl hl.1 rfl (Nat.le_of_ble_eq_true rfl) dX7_adds_102 ⟨Nat.le_of_ble_eq_true rfl, Nat.le_of_ble_eq_true rfl⟩ (fun H locs w => ?_)
              refine lv_aload_n F.x F.b dX7_adds_105 rfl (lv_at hl 1 rfl) ?_
              refine lv_iload F.x F.b dX7_adds_106 (lv_at hl 0 rfl) ?_
              refine lv_iconst (v := 4) F.x F.b dX7_adds_108 (by decide) ?_
              refine lv_iload F.x F.b dX7_adds_109 (lv_at hl 5 rfl) ?_
              obtain ⟨M_27, hc28, h⟩ := bd h
              try dsimp only at h
              refine kVv0 F w (As := [.int (M.2 0 (Int32.toNatClampNeg 1)), .int 4, .int x4]) (rest := []) (w1 := wMo G.2.1 mo M_27) (t_X7_sets F.1 hc28) m_X7_sets v_X7_sets q1647 (ci := 11) (q0 := 0) rfl rfl rfl ⟨Nat.le_of_ble_eq_true rfl, Nat.le_of_ble_eq_true rfl⟩ rfl hl.1 rfl (Nat.le_of_ble_eq_true rfl) dX7_adds_111 ⟨Nat.le_of_ble_eq_true rfl, Nat.le_of_ble_eq_true rfl⟩ (fun H locs w => ?_)
              refine lv_aload_n F.x F.b dX7_adds_114 rfl (lv_at hl 1 rfl) ?_
              refine lv_iload F.x F.b dX7_adds_115 (lv_at hl 0 rfl) ?_
              refine lv_iconst (v := 5) F.x F.b dX7_adds_117 (by decide) ?_
              refine lv_iconst (v := 1) F.x F.b dX7_adds_118 (by decide) ?_
              obtain ⟨M_29, hc30, h⟩ := bd h
              try dsimp only at h
              refine kVv0 F w (As := [.int (M.2 0 (Int32.toNatClampNeg 1)), .int 5, .int 1]) (rest := []) (w1 := wMo G.2.1 mo M_29) (t_X7_sets F.1 hc30) m_X7_sets v_X7_sets q1647 (ci := 11) (q0 := 0) rfl rfl rfl ⟨Nat.le_of_ble_eq_true rfl, Nat.le_of_ble_eq_true rfl⟩ rfl hl.1 rfl (Nat.le_of_ble_eq_true rfl) dX7_adds_119 ⟨Nat.le_of_ble_eq_true rfl, Nat.le_of_ble_eq_true rfl⟩ (fun H locs w => ?_)
              refine lv_aload_n F.x F.b dX7_adds_122 rfl (lv_at hl 1 rfl) ?_
              refine lv_iload F.x F.b dX7_adds_123 (lv_at hl 0 rfl) ?_
              refine lv_bipush (v := 6) F.x F.b dX7_adds_125 (by decide) ?_
              refine lv_iconst (v := 0) F.x F.b dX7_adds_127 (by decide) ?_
              obtain ⟨M_31, hc32, h⟩ := bd h
              try dsimp only at h
              refine kVv0 F w (As := [.int (M.2 0 (Int32.toNatClampNeg 1)), .int 6, .int 0]) (rest := []) (w1 := wMo G.2.1 mo M_31) (t_X7_sets F.1 hc32) m_X7_sets v_X7_sets q1647 (ci := 11) (q0 := 0) rfl rfl rfl ⟨Nat.le_of_ble_eq_true rfl, Nat.le_of_ble_eq_true rfl⟩ rfl hl.1 rfl (Nat.le_of_ble_eq_true rfl) dX7_adds_128 ⟨Nat.le_of_ble_eq_true rfl, Nat.le_of_ble_eq_true rfl⟩ (fun H locs w => ?_)
              refine lv_aload_n F.x F.b dX7_adds_131 rfl (lv_at hl 1 rfl) ?_
              refine rg F w cl7 0 (at_Mo_0 _ _ _) 1 (by decide) q1548 rfl (v := .ref (mo 1)) rfl dX7_adds_132 ?_
              refine lv_iconst (v := 1) F.x F.b dX7_adds_135 (by decide) ?_
              refine lv_iload F.x F.b dX7_adds_136 (lv_at hl 0 rfl) ?_
              refine lv_iconst (v := 1) F.x F.b dX7_adds_138 (by decide) ?_
              refine lv_iadd F.x F.b dX7_adds_139 ?_
              obtain ⟨g33, h⟩ := gd h
              refine ris F w (ws' := wMo G.2.1 mo (wrA M_31 0 1 ((M.2 0 (Int32.toNatClampNeg 1)) + 1))) 1 (n := 148) (f := M_31.2 0) (at_Mo_1 _ _ _) g33 (st_Mo_1 _ _ _ _ _) dX7_adds_140 (fun H locs w => ?_)
              refine lv_aload_n F.x F.b dX7_adds_141 rfl (lv_at hl 1 rfl) ?_
              refine rg F w cl7 0 (at_Mo_0 _ _ _) 1 (by decide) q1548 rfl (v := .ref (mo 1)) rfl dX7_adds_142 ?_
              refine lv_iconst (v := 0) F.x F.b dX7_adds_145 (by decide) ?_
              refine lv_dup2_11 F.x F.b dX7_adds_146 rfl rfl ?_
              obtain ⟨g34, h⟩ := gd h
              refine ri F w 1 (n := 148) (f := (wrA M_31 0 1 ((M.2 0 (Int32.toNatClampNeg 1)) + 1)).2 0) (at_Mo_1 _ _ _) g34 dX7_adds_147 ?_
              refine lv_iconst (v := 1) F.x F.b dX7_adds_148 (by decide) ?_
              refine lv_iadd F.x F.b dX7_adds_149 ?_
              obtain ⟨g35, h⟩ := gd h
              refine ris F w (ws' := wMo G.2.1 mo (wrA (wrA M_31 0 1 ((M.2 0 (Int32.toNatClampNeg 1)) + 1)) 0 0 (((wrA M_31 0 1 ((M.2 0 (Int32.toNatClampNeg 1)) + 1)).2 0 (Int32.toNatClampNeg 0)) + 1))) 1 (n := 148) (f := (wrA M_31 0 1 ((M.2 0 (Int32.toNatClampNeg 1)) + 1)).2 0) (at_Mo_1 _ _ _) g35 (st_Mo_1 _ _ _ _ _) dX7_adds_150 (fun H locs w => ?_)
              refine lv_aload_n F.x F.b dX7_adds_151 rfl (lv_at hl 1 rfl) ?_
              refine lv_aload_n F.x F.b dX7_adds_152 rfl (lv_at hl 1 rfl) ?_
              refine rg F w cl7 0 (at_Mo_0 _ _ _) 1 (by decide) q1548 rfl (v := .ref (mo 1)) rfl dX7_adds_153 ?_
              refine lv_iconst (v := 0) F.x F.b dX7_adds_156 (by decide) ?_
              obtain ⟨g36, h⟩ := gd h
              refine ri F w 1 (n := 148) (f := (wrA (wrA M_31 0 1 ((M.2 0 (Int32.toNatClampNeg 1)) + 1)) 0 0 (((wrA M_31 0 1 ((M.2 0 (Int32.toNatClampNeg 1)) + 1)).2 0 (Int32.toNatClampNeg 0)) + 1)).2 0) (at_Mo_1 _ _ _) g36 dX7_adds_157 ?_
              refine lv_iconst (v := 1) F.x F.b dX7_adds_158 (by decide) ?_
              refine lv_isub F.x F.b dX7_adds_159 ?_
              obtain ⟨⟨r37, M_38⟩, hc39, h⟩ := bd h
              try dsimp only at h
              refine kVi0 F w (As := [.int (((wrA (wrA M_31 0 1 ((M.2 0 (Int32.toNatClampNeg 1)) + 1)) 0 0 (((wrA M_31 0 1 ((M.2 0 (Int32.toNatClampNeg 1)) + 1)).2 0 (Int32.toNatClampNeg 0)) + 1)).2 0 (Int32.toNatClampNeg 0)) - 1)]) (rest := []) (w1 := wMo G.2.1 mo M_38) (t_X7_done F.1 hc39) m_X7_done v_X7_done q1651 (ci := 11) (q0 := 0) rfl rfl rfl ⟨Nat.le_of_ble_eq_true rfl, Nat.le_of_ble_eq_true rfl⟩ rfl hl.1 rfl (Nat.le_of_ble_eq_true rfl) dX7_adds_160 ⟨Nat.le_of_ble_eq_true rfl, Nat.le_of_ble_eq_true rfl⟩ (fun H locs w => ?_)
              obtain ⟨z0, z1⟩ := sm2 (sm h)
              exact ei F w hr hlocks rfl z0 (by rw [← z1]) dX7_adds_163
            · have h := ie c17 h
              refine lv_iconst (v := 4) F.x F.b dX7_adds_66 (by decide) ?_
              obtain ⟨z0, z1⟩ := sm2 (sm h)
              exact ei F w hr hlocks rfl z0 (by rw [← z1]) dX7_adds_67
          · have h := it c14 h
            refine lv_iconst (v := 3) F.x F.b dX7_adds_54 (by decide) ?_
            obtain ⟨z0, z1⟩ := sm2 (sm h)
            exact ei F w hr hlocks rfl z0 (by rw [← z1]) dX7_adds_55
        · have h := it c12 h
          refine lv_iconst (v := 2) F.x F.b dX7_adds_37 (by decide) ?_
          obtain ⟨z0, z1⟩ := sm2 (sm h)
          exact ei F w hr hlocks rfl z0 (by rw [← z1]) dX7_adds_38
  · have h := it c3 h
    refine lv_iconst (v := 1) F.x F.b dX7_adds_8 (by decide) ?_
    obtain ⟨z0, z1⟩ := sm2 (sm h)
    exact ei F w hr hlocks rfl z0 (by rw [← z1]) dX7_adds_9
set_option maxRecDepth 100000 in
set_option maxHeartbeats 4000000 in
theorem t_X7_seals {G : cG} (g : GOK G) {mo : Nat → Nat} {M : Mem} {x1 : Int32} {r : Int32} {M' : Mem} (h : f_X7_seals M x1 = some (r, M')) : CI G yX7_seals cX7_seals 3 .int 2 45 [.ref (mo 0), .int x1] (wMo G.2.1 mo M) (wMo G.2.1 mo M') r := by
  unfold f_X7_seals at h
  refine CI.of g (by decide) rfl (Nat.le_of_ble_eq_true rfl) ?_
  intro p l e s m below meth c A ls F hr hlocks w hl
  generalize ([.ref (mo 0), .int x1] : List Value).toArray = args
  have hl : lv_has ls 3 [(0, .ref (mo 0)), (1, .int x1)] := hl
  refine lv_aload_n F.x F.b dX7_seals_0 rfl (lv_at hl 0 rfl) ?_
  refine lv_iload_n F.x F.b dX7_seals_1 rfl (lv_at hl 1 rfl) ?_
  obtain ⟨r1, hc2, h⟩ := bd h
  try dsimp only at h
  refine kVi0 F w (As := [.int x1]) (rest := []) (w1 := wMo G.2.1 mo M) (t_X7_placeOf F.1 hc2) m_X7_placeOf v_X7_placeOf q1675 (ci := 11) (q0 := 0) rfl rfl rfl ⟨Nat.le_of_ble_eq_true rfl, Nat.le_of_ble_eq_true rfl⟩ rfl hl.1 rfl (Nat.le_of_ble_eq_true rfl) dX7_seals_2 ⟨Nat.le_of_ble_eq_true rfl, Nat.le_of_ble_eq_true rfl⟩ (fun H locs w => ?_)
  refine lv_istore_n (lv' := [(2, .int r1), (0, .ref (mo 0)), (1, .int x1)]) F.x F.b dX7_seals_5 rfl hl (by decide) rfl (fun ls hl => ?_)
  refine lv_iload_n F.x F.b dX7_seals_6 rfl (lv_at hl 0 rfl) ?_
  refine lv_iconst (v := (-1)) F.x F.b dX7_seals_7 (by decide) ?_
  refine lv_icmp_ne (tgt := 13) F.x F.b dX7_seals_8 (by decide) (fun c3 => ?_) (fun c3 => ?_)
  · have h := ie c3 h
    refine lv_aload_n F.x F.b dX7_seals_13 rfl (lv_at hl 1 rfl) ?_
    refine lv_iload_n F.x F.b dX7_seals_14 rfl (lv_at hl 0 rfl) ?_
    refine lv_iconst (v := 5) F.x F.b dX7_seals_15 (by decide) ?_
    obtain ⟨r4, hc5, h⟩ := bd h
    try dsimp only at h
    refine kVi0 F w (As := [.int r1, .int 5]) (rest := []) (w1 := wMo G.2.1 mo M) (t_X7_of F.1 hc5) m_X7_of v_X7_of q1643 (ci := 11) (q0 := 0) rfl rfl rfl ⟨Nat.le_of_ble_eq_true rfl, Nat.le_of_ble_eq_true rfl⟩ rfl hl.1 rfl (Nat.le_of_ble_eq_true rfl) dX7_seals_16 ⟨Nat.le_of_ble_eq_true rfl, Nat.le_of_ble_eq_true rfl⟩ (fun H locs w => ?_)
    refine lv_iconst (v := 1) F.x F.b dX7_seals_19 (by decide) ?_
    refine lv_icmp_ne (tgt := 25) F.x F.b dX7_seals_20 (by decide) (fun c6 => ?_) (fun c6 => ?_)
    · have h := ie c6 h
      refine lv_aload_n F.x F.b dX7_seals_25 rfl (lv_at hl 1 rfl) ?_
      refine lv_iload_n F.x F.b dX7_seals_26 rfl (lv_at hl 0 rfl) ?_
      refine lv_bipush (v := 6) F.x F.b dX7_seals_27 (by decide) ?_
      obtain ⟨r7, hc8, h⟩ := bd h
      try dsimp only at h
      refine kVi0 F w (As := [.int r1, .int 6]) (rest := []) (w1 := wMo G.2.1 mo M) (t_X7_of F.1 hc8) m_X7_of v_X7_of q1643 (ci := 11) (q0 := 0) rfl rfl rfl ⟨Nat.le_of_ble_eq_true rfl, Nat.le_of_ble_eq_true rfl⟩ rfl hl.1 rfl (Nat.le_of_ble_eq_true rfl) dX7_seals_29 ⟨Nat.le_of_ble_eq_true rfl, Nat.le_of_ble_eq_true rfl⟩ (fun H locs w => ?_)
      refine lv_iconst (v := 1) F.x F.b dX7_seals_32 (by decide) ?_
      refine lv_icmp_ne (tgt := 38) F.x F.b dX7_seals_33 (by decide) (fun c9 => ?_) (fun c9 => ?_)
      · have h := ie c9 h
        refine lv_aload_n F.x F.b dX7_seals_38 rfl (lv_at hl 1 rfl) ?_
        refine lv_iload_n F.x F.b dX7_seals_39 rfl (lv_at hl 0 rfl) ?_
        refine lv_iconst (v := 5) F.x F.b dX7_seals_40 (by decide) ?_
        refine lv_iconst (v := 1) F.x F.b dX7_seals_41 (by decide) ?_
        obtain ⟨M_10, hc11, h⟩ := bd h
        try dsimp only at h
        refine kVv0 F w (As := [.int r1, .int 5, .int 1]) (rest := []) (w1 := wMo G.2.1 mo M_10) (t_X7_sets F.1 hc11) m_X7_sets v_X7_sets q1647 (ci := 11) (q0 := 0) rfl rfl rfl ⟨Nat.le_of_ble_eq_true rfl, Nat.le_of_ble_eq_true rfl⟩ rfl hl.1 rfl (Nat.le_of_ble_eq_true rfl) dX7_seals_42 ⟨Nat.le_of_ble_eq_true rfl, Nat.le_of_ble_eq_true rfl⟩ (fun H locs w => ?_)
        refine lv_aload_n F.x F.b dX7_seals_45 rfl (lv_at hl 1 rfl) ?_
        refine lv_aload_n F.x F.b dX7_seals_46 rfl (lv_at hl 1 rfl) ?_
        refine lv_iconst (v := 5) F.x F.b dX7_seals_47 (by decide) ?_
        obtain ⟨r12, hc13, h⟩ := bd h
        try dsimp only at h
        refine kVi0 F w (As := [.int 5]) (rest := [.ref (mo 0)]) (w1 := wMo G.2.1 mo M_10) (t_X7_many F.1 hc13) m_X7_many v_X7_many q1679 (ci := 11) (q0 := 0) rfl rfl rfl ⟨Nat.le_of_ble_eq_true rfl, Nat.le_of_ble_eq_true rfl⟩ rfl hl.1 rfl (Nat.le_of_ble_eq_true rfl) dX7_seals_48 ⟨Nat.le_of_ble_eq_true rfl, Nat.le_of_ble_eq_true rfl⟩ (fun H locs w => ?_)
        obtain ⟨⟨r14, M_15⟩, hc16, h⟩ := bd h
        try dsimp only at h
        refine kVi0 F w (As := [.int r12]) (rest := []) (w1 := wMo G.2.1 mo M_15) (t_X7_done F.1 hc16) m_X7_done v_X7_done q1651 (ci := 11) (q0 := 0) rfl rfl rfl ⟨Nat.le_of_ble_eq_true rfl, Nat.le_of_ble_eq_true rfl⟩ rfl hl.1 rfl (Nat.le_of_ble_eq_true rfl) dX7_seals_51 ⟨Nat.le_of_ble_eq_true rfl, Nat.le_of_ble_eq_true rfl⟩ (fun H locs w => ?_)
        obtain ⟨z0, z1⟩ := sm2 (sm h)
        exact ei F w hr hlocks rfl z0 (by rw [← z1]) dX7_seals_54
      · have h := it c9 h
        refine lv_iconst (v := 3) F.x F.b dX7_seals_36 (by decide) ?_
        obtain ⟨z0, z1⟩ := sm2 (sm h)
        exact ei F w hr hlocks rfl z0 (by rw [← z1]) dX7_seals_37
    · have h := it c6 h
      refine lv_iconst (v := 2) F.x F.b dX7_seals_23 (by decide) ?_
      obtain ⟨z0, z1⟩ := sm2 (sm h)
      exact ei F w hr hlocks rfl z0 (by rw [← z1]) dX7_seals_24
  · have h := it c3 h
    refine lv_iconst (v := 1) F.x F.b dX7_seals_11 (by decide) ?_
    obtain ⟨z0, z1⟩ := sm2 (sm h)
    exact ei F w hr hlocks rfl z0 (by rw [← z1]) dX7_seals_12
set_option maxRecDepth 100000 in
set_option maxHeartbeats 4000000 in
theorem t_X7_opens {G : cG} (g : GOK G) {mo : Nat → Nat} {M : Mem} {x1 : Int32} {r : Int32} {M' : Mem} (h : f_X7_opens M x1 = some (r, M')) : CI G yX7_opens cX7_opens 3 .int 2 45 [.ref (mo 0), .int x1] (wMo G.2.1 mo M) (wMo G.2.1 mo M') r := by
  unfold f_X7_opens at h
  refine CI.of g (by decide) rfl (Nat.le_of_ble_eq_true rfl) ?_
  intro p l e s m below meth c A ls F hr hlocks w hl
  generalize ([.ref (mo 0), .int x1] : List Value).toArray = args
  have hl : lv_has ls 3 [(0, .ref (mo 0)), (1, .int x1)] := hl
  refine lv_aload_n F.x F.b dX7_opens_0 rfl (lv_at hl 0 rfl) ?_
  refine lv_iload_n F.x F.b dX7_opens_1 rfl (lv_at hl 1 rfl) ?_
  obtain ⟨r1, hc2, h⟩ := bd h
  try dsimp only at h
  refine kVi0 F w (As := [.int x1]) (rest := []) (w1 := wMo G.2.1 mo M) (t_X7_placeOf F.1 hc2) m_X7_placeOf v_X7_placeOf q1675 (ci := 11) (q0 := 0) rfl rfl rfl ⟨Nat.le_of_ble_eq_true rfl, Nat.le_of_ble_eq_true rfl⟩ rfl hl.1 rfl (Nat.le_of_ble_eq_true rfl) dX7_opens_2 ⟨Nat.le_of_ble_eq_true rfl, Nat.le_of_ble_eq_true rfl⟩ (fun H locs w => ?_)
  refine lv_istore_n (lv' := [(2, .int r1), (0, .ref (mo 0)), (1, .int x1)]) F.x F.b dX7_opens_5 rfl hl (by decide) rfl (fun ls hl => ?_)
  refine lv_iload_n F.x F.b dX7_opens_6 rfl (lv_at hl 0 rfl) ?_
  refine lv_iconst (v := (-1)) F.x F.b dX7_opens_7 (by decide) ?_
  refine lv_icmp_ne (tgt := 13) F.x F.b dX7_opens_8 (by decide) (fun c3 => ?_) (fun c3 => ?_)
  · have h := ie c3 h
    refine lv_aload_n F.x F.b dX7_opens_13 rfl (lv_at hl 1 rfl) ?_
    refine lv_iload_n F.x F.b dX7_opens_14 rfl (lv_at hl 0 rfl) ?_
    refine lv_iconst (v := 5) F.x F.b dX7_opens_15 (by decide) ?_
    obtain ⟨r4, hc5, h⟩ := bd h
    try dsimp only at h
    refine kVi0 F w (As := [.int r1, .int 5]) (rest := []) (w1 := wMo G.2.1 mo M) (t_X7_of F.1 hc5) m_X7_of v_X7_of q1643 (ci := 11) (q0 := 0) rfl rfl rfl ⟨Nat.le_of_ble_eq_true rfl, Nat.le_of_ble_eq_true rfl⟩ rfl hl.1 rfl (Nat.le_of_ble_eq_true rfl) dX7_opens_16 ⟨Nat.le_of_ble_eq_true rfl, Nat.le_of_ble_eq_true rfl⟩ (fun H locs w => ?_)
    refine lv_if_ne (tgt := 24) F.x F.b dX7_opens_19 (by decide) (fun c6 => ?_) (fun c6 => ?_)
    · have h := ie c6 h
      refine lv_aload_n F.x F.b dX7_opens_24 rfl (lv_at hl 1 rfl) ?_
      refine lv_iload_n F.x F.b dX7_opens_25 rfl (lv_at hl 0 rfl) ?_
      refine lv_iconst (v := 5) F.x F.b dX7_opens_26 (by decide) ?_
      refine lv_iconst (v := 0) F.x F.b dX7_opens_27 (by decide) ?_
      obtain ⟨M_7, hc8, h⟩ := bd h
      try dsimp only at h
      refine kVv0 F w (As := [.int r1, .int 5, .int 0]) (rest := []) (w1 := wMo G.2.1 mo M_7) (t_X7_sets F.1 hc8) m_X7_sets v_X7_sets q1647 (ci := 11) (q0 := 0) rfl rfl rfl ⟨Nat.le_of_ble_eq_true rfl, Nat.le_of_ble_eq_true rfl⟩ rfl hl.1 rfl (Nat.le_of_ble_eq_true rfl) dX7_opens_28 ⟨Nat.le_of_ble_eq_true rfl, Nat.le_of_ble_eq_true rfl⟩ (fun H locs w => ?_)
      refine lv_aload_n F.x F.b dX7_opens_31 rfl (lv_at hl 1 rfl) ?_
      refine lv_aload_n F.x F.b dX7_opens_32 rfl (lv_at hl 1 rfl) ?_
      refine lv_iconst (v := 5) F.x F.b dX7_opens_33 (by decide) ?_
      obtain ⟨r9, hc10, h⟩ := bd h
      try dsimp only at h
      refine kVi0 F w (As := [.int 5]) (rest := [.ref (mo 0)]) (w1 := wMo G.2.1 mo M_7) (t_X7_many F.1 hc10) m_X7_many v_X7_many q1679 (ci := 11) (q0 := 0) rfl rfl rfl ⟨Nat.le_of_ble_eq_true rfl, Nat.le_of_ble_eq_true rfl⟩ rfl hl.1 rfl (Nat.le_of_ble_eq_true rfl) dX7_opens_34 ⟨Nat.le_of_ble_eq_true rfl, Nat.le_of_ble_eq_true rfl⟩ (fun H locs w => ?_)
      obtain ⟨⟨r11, M_12⟩, hc13, h⟩ := bd h
      try dsimp only at h
      refine kVi0 F w (As := [.int r9]) (rest := []) (w1 := wMo G.2.1 mo M_12) (t_X7_done F.1 hc13) m_X7_done v_X7_done q1651 (ci := 11) (q0 := 0) rfl rfl rfl ⟨Nat.le_of_ble_eq_true rfl, Nat.le_of_ble_eq_true rfl⟩ rfl hl.1 rfl (Nat.le_of_ble_eq_true rfl) dX7_opens_37 ⟨Nat.le_of_ble_eq_true rfl, Nat.le_of_ble_eq_true rfl⟩ (fun H locs w => ?_)
      obtain ⟨z0, z1⟩ := sm2 (sm h)
      exact ei F w hr hlocks rfl z0 (by rw [← z1]) dX7_opens_40
    · have h := it c6 h
      refine lv_iconst (v := 2) F.x F.b dX7_opens_22 (by decide) ?_
      obtain ⟨z0, z1⟩ := sm2 (sm h)
      exact ei F w hr hlocks rfl z0 (by rw [← z1]) dX7_opens_23
  · have h := it c3 h
    refine lv_iconst (v := 1) F.x F.b dX7_opens_11 (by decide) ?_
    obtain ⟨z0, z1⟩ := sm2 (sm h)
    exact ei F w hr hlocks rfl z0 (by rw [← z1]) dX7_opens_12
set_option maxRecDepth 100000 in
set_option maxHeartbeats 4000000 in
theorem t_X7_wets {G : cG} (g : GOK G) {mo : Nat → Nat} {M : Mem} {x1 : Int32} {r : Int32} {M' : Mem} (h : f_X7_wets M x1 = some (r, M')) : CI G yX7_wets cX7_wets 3 .int 2 45 [.ref (mo 0), .int x1] (wMo G.2.1 mo M) (wMo G.2.1 mo M') r := by
  unfold f_X7_wets at h
  refine CI.of g (by decide) rfl (Nat.le_of_ble_eq_true rfl) ?_
  intro p l e s m below meth c A ls F hr hlocks w hl
  generalize ([.ref (mo 0), .int x1] : List Value).toArray = args
  have hl : lv_has ls 3 [(0, .ref (mo 0)), (1, .int x1)] := hl
  refine lv_aload_n F.x F.b dX7_wets_0 rfl (lv_at hl 0 rfl) ?_
  refine lv_iload_n F.x F.b dX7_wets_1 rfl (lv_at hl 1 rfl) ?_
  obtain ⟨r1, hc2, h⟩ := bd h
  try dsimp only at h
  refine kVi0 F w (As := [.int x1]) (rest := []) (w1 := wMo G.2.1 mo M) (t_X7_placeOf F.1 hc2) m_X7_placeOf v_X7_placeOf q1675 (ci := 11) (q0 := 0) rfl rfl rfl ⟨Nat.le_of_ble_eq_true rfl, Nat.le_of_ble_eq_true rfl⟩ rfl hl.1 rfl (Nat.le_of_ble_eq_true rfl) dX7_wets_2 ⟨Nat.le_of_ble_eq_true rfl, Nat.le_of_ble_eq_true rfl⟩ (fun H locs w => ?_)
  refine lv_istore_n (lv' := [(2, .int r1), (0, .ref (mo 0)), (1, .int x1)]) F.x F.b dX7_wets_5 rfl hl (by decide) rfl (fun ls hl => ?_)
  refine lv_iload_n F.x F.b dX7_wets_6 rfl (lv_at hl 0 rfl) ?_
  refine lv_iconst (v := (-1)) F.x F.b dX7_wets_7 (by decide) ?_
  refine lv_icmp_ne (tgt := 13) F.x F.b dX7_wets_8 (by decide) (fun c3 => ?_) (fun c3 => ?_)
  · have h := ie c3 h
    refine lv_aload_n F.x F.b dX7_wets_13 rfl (lv_at hl 1 rfl) ?_
    refine lv_iload_n F.x F.b dX7_wets_14 rfl (lv_at hl 0 rfl) ?_
    refine lv_iconst (v := 5) F.x F.b dX7_wets_15 (by decide) ?_
    obtain ⟨r4, hc5, h⟩ := bd h
    try dsimp only at h
    refine kVi0 F w (As := [.int r1, .int 5]) (rest := []) (w1 := wMo G.2.1 mo M) (t_X7_of F.1 hc5) m_X7_of v_X7_of q1643 (ci := 11) (q0 := 0) rfl rfl rfl ⟨Nat.le_of_ble_eq_true rfl, Nat.le_of_ble_eq_true rfl⟩ rfl hl.1 rfl (Nat.le_of_ble_eq_true rfl) dX7_wets_16 ⟨Nat.le_of_ble_eq_true rfl, Nat.le_of_ble_eq_true rfl⟩ (fun H locs w => ?_)
    refine lv_iconst (v := 1) F.x F.b dX7_wets_19 (by decide) ?_
    refine lv_icmp_eq (tgt := 34) F.x F.b dX7_wets_20 (by decide) (fun c6 => ?_) (fun c6 => ?_)
    · have h := it c6 h
      refine lv_iconst (v := 2) F.x F.b dX7_wets_34 (by decide) ?_
      obtain ⟨z0, z1⟩ := sm2 (sm h)
      exact ei F w hr hlocks rfl z0 (by rw [← z1]) dX7_wets_35
    · have h := ie c6 h
      refine lv_aload_n F.x F.b dX7_wets_23 rfl (lv_at hl 1 rfl) ?_
      refine lv_iload_n F.x F.b dX7_wets_24 rfl (lv_at hl 0 rfl) ?_
      refine lv_bipush (v := 6) F.x F.b dX7_wets_25 (by decide) ?_
      obtain ⟨r7, hc8, h⟩ := bd h
      try dsimp only at h
      refine kVi0 F w (As := [.int r1, .int 6]) (rest := []) (w1 := wMo G.2.1 mo M) (t_X7_of F.1 hc8) m_X7_of v_X7_of q1643 (ci := 11) (q0 := 0) rfl rfl rfl ⟨Nat.le_of_ble_eq_true rfl, Nat.le_of_ble_eq_true rfl⟩ rfl hl.1 rfl (Nat.le_of_ble_eq_true rfl) dX7_wets_27 ⟨Nat.le_of_ble_eq_true rfl, Nat.le_of_ble_eq_true rfl⟩ (fun H locs w => ?_)
      refine lv_iconst (v := 1) F.x F.b dX7_wets_30 (by decide) ?_
      refine lv_icmp_ne (tgt := 36) F.x F.b dX7_wets_31 (by decide) (fun c9 => ?_) (fun c9 => ?_)
      · have h := ie c9 h
        refine lv_aload_n F.x F.b dX7_wets_36 rfl (lv_at hl 1 rfl) ?_
        refine lv_iload_n F.x F.b dX7_wets_37 rfl (lv_at hl 0 rfl) ?_
        refine lv_bipush (v := 6) F.x F.b dX7_wets_38 (by decide) ?_
        refine lv_iconst (v := 1) F.x F.b dX7_wets_40 (by decide) ?_
        obtain ⟨M_10, hc11, h⟩ := bd h
        try dsimp only at h
        refine kVv0 F w (As := [.int r1, .int 6, .int 1]) (rest := []) (w1 := wMo G.2.1 mo M_10) (t_X7_sets F.1 hc11) m_X7_sets v_X7_sets q1647 (ci := 11) (q0 := 0) rfl rfl rfl ⟨Nat.le_of_ble_eq_true rfl, Nat.le_of_ble_eq_true rfl⟩ rfl hl.1 rfl (Nat.le_of_ble_eq_true rfl) dX7_wets_41 ⟨Nat.le_of_ble_eq_true rfl, Nat.le_of_ble_eq_true rfl⟩ (fun H locs w => ?_)
        refine lv_aload_n F.x F.b dX7_wets_44 rfl (lv_at hl 1 rfl) ?_
        refine lv_aload_n F.x F.b dX7_wets_45 rfl (lv_at hl 1 rfl) ?_
        refine lv_bipush (v := 6) F.x F.b dX7_wets_46 (by decide) ?_
        obtain ⟨r12, hc13, h⟩ := bd h
        try dsimp only at h
        refine kVi0 F w (As := [.int 6]) (rest := [.ref (mo 0)]) (w1 := wMo G.2.1 mo M_10) (t_X7_many F.1 hc13) m_X7_many v_X7_many q1679 (ci := 11) (q0 := 0) rfl rfl rfl ⟨Nat.le_of_ble_eq_true rfl, Nat.le_of_ble_eq_true rfl⟩ rfl hl.1 rfl (Nat.le_of_ble_eq_true rfl) dX7_wets_48 ⟨Nat.le_of_ble_eq_true rfl, Nat.le_of_ble_eq_true rfl⟩ (fun H locs w => ?_)
        obtain ⟨⟨r14, M_15⟩, hc16, h⟩ := bd h
        try dsimp only at h
        refine kVi0 F w (As := [.int r12]) (rest := []) (w1 := wMo G.2.1 mo M_15) (t_X7_done F.1 hc16) m_X7_done v_X7_done q1651 (ci := 11) (q0 := 0) rfl rfl rfl ⟨Nat.le_of_ble_eq_true rfl, Nat.le_of_ble_eq_true rfl⟩ rfl hl.1 rfl (Nat.le_of_ble_eq_true rfl) dX7_wets_51 ⟨Nat.le_of_ble_eq_true rfl, Nat.le_of_ble_eq_true rfl⟩ (fun H locs w => ?_)
        obtain ⟨z0, z1⟩ := sm2 (sm h)
        exact ei F w hr hlocks rfl z0 (by rw [← z1]) dX7_wets_54
      · have h := it c9 h
        refine lv_iconst (v := 2) F.x F.b dX7_wets_34 (by decide) ?_
        obtain ⟨z0, z1⟩ := sm2 (sm h)
        exact ei F w hr hlocks rfl z0 (by rw [← z1]) dX7_wets_35
  · have h := it c3 h
    refine lv_iconst (v := 1) F.x F.b dX7_wets_11 (by decide) ?_
    obtain ⟨z0, z1⟩ := sm2 (sm h)
    exact ei F w hr hlocks rfl z0 (by rw [← z1]) dX7_wets_12
set_option maxRecDepth 100000 in
set_option maxHeartbeats 4000000 in
theorem t_X7_moves {G : cG} (g : GOK G) {mo : Nat → Nat} {M : Mem} {x1 x2 : Int32} {r : Int32} {M' : Mem} (h : f_X7_moves M x1 x2 = some (r, M')) : CI G yX7_moves cX7_moves 5 .int 2 44 [.ref (mo 0), .int x1, .int x2] (wMo G.2.1 mo M) (wMo G.2.1 mo M') r := by
  unfold f_X7_moves at h
  refine CI.of g (by decide) rfl (Nat.le_of_ble_eq_true rfl) ?_
  intro p l e s m below meth c A ls F hr hlocks w hl
  generalize ([.ref (mo 0), .int x1, .int x2] : List Value).toArray = args
  have hl : lv_has ls 5 [(0, .ref (mo 0)), (1, .int x1), (2, .int x2)] := hl
  refine lv_aload_n F.x F.b dX7_moves_0 rfl (lv_at hl 0 rfl) ?_
  refine lv_iload_n F.x F.b dX7_moves_1 rfl (lv_at hl 1 rfl) ?_
  obtain ⟨r1, hc2, h⟩ := bd h
  try dsimp only at h
  refine kVi0 F w (As := [.int x1]) (rest := []) (w1 := wMo G.2.1 mo M) (t_X7_placeOf F.1 hc2) m_X7_placeOf v_X7_placeOf q1675 (ci := 11) (q0 := 0) rfl rfl rfl ⟨Nat.le_of_ble_eq_true rfl, Nat.le_of_ble_eq_true rfl⟩ rfl hl.1 rfl (Nat.le_of_ble_eq_true rfl) dX7_moves_2 ⟨Nat.le_of_ble_eq_true rfl, Nat.le_of_ble_eq_true rfl⟩ (fun H locs w => ?_)
  refine lv_istore_n (lv' := [(3, .int r1), (0, .ref (mo 0)), (1, .int x1), (2, .int x2)]) F.x F.b dX7_moves_5 rfl hl (by decide) rfl (fun ls hl => ?_)
  refine lv_iload_n F.x F.b dX7_moves_6 rfl (lv_at hl 0 rfl) ?_
  refine lv_iconst (v := (-1)) F.x F.b dX7_moves_7 (by decide) ?_
  refine lv_icmp_ne (tgt := 13) F.x F.b dX7_moves_8 (by decide) (fun c3 => ?_) (fun c3 => ?_)
  · have h := ie c3 h
    refine lv_iload_n F.x F.b dX7_moves_13 rfl (lv_at hl 3 rfl) ?_
    obtain ⟨r4, hc5, h⟩ := bd h
    try dsimp only at h
    refine kSi F w (t_X7_isBay F.1 hc5) m_X7_isBay v_X7_isBay q1630 (As := [.int x2]) (rest := []) ⟨Nat.le_of_ble_eq_true rfl, Nat.le_of_ble_eq_true rfl⟩ rfl hl.1 rfl (Nat.le_of_ble_eq_true rfl) dX7_moves_14 ⟨Nat.le_of_ble_eq_true rfl, Nat.le_of_ble_eq_true rfl⟩ (fun H locs w => ?_)
    refine lv_if_ne (tgt := 22) F.x F.b dX7_moves_17 (by decide) (fun c6 => ?_) (fun c6 => ?_)
    · have h := ie c6 h
      refine lv_aload_n F.x F.b dX7_moves_22 rfl (lv_at hl 1 rfl) ?_
      refine lv_iload_n F.x F.b dX7_moves_23 rfl (lv_at hl 3 rfl) ?_
      obtain ⟨r7, hc8, h⟩ := bd h
      try dsimp only at h
      refine kVi0 F w (As := [.int x2]) (rest := []) (w1 := wMo G.2.1 mo M) (t_X7_inside F.1 hc8) m_X7_inside v_X7_inside q1639 (ci := 11) (q0 := 0) rfl rfl rfl ⟨Nat.le_of_ble_eq_true rfl, Nat.le_of_ble_eq_true rfl⟩ rfl hl.1 rfl (Nat.le_of_ble_eq_true rfl) dX7_moves_24 ⟨Nat.le_of_ble_eq_true rfl, Nat.le_of_ble_eq_true rfl⟩ (fun H locs w => ?_)
      refine lv_iconst (v := (-1)) F.x F.b dX7_moves_27 (by decide) ?_
      refine lv_icmp_eq (tgt := 33) F.x F.b dX7_moves_28 (by decide) (fun c9 => ?_) (fun c9 => ?_)
      · have h := it c9 h
        refine lv_aload_n F.x F.b dX7_moves_33 rfl (lv_at hl 1 rfl) ?_
        refine lv_iload_n F.x F.b dX7_moves_34 rfl (lv_at hl 0 rfl) ?_
        refine lv_iconst (v := 4) F.x F.b dX7_moves_35 (by decide) ?_
        obtain ⟨r10, hc11, h⟩ := bd h
        try dsimp only at h
        refine kVi0 F w (As := [.int r1, .int 4]) (rest := []) (w1 := wMo G.2.1 mo M) (t_X7_of F.1 hc11) m_X7_of v_X7_of q1643 (ci := 11) (q0 := 0) rfl rfl rfl ⟨Nat.le_of_ble_eq_true rfl, Nat.le_of_ble_eq_true rfl⟩ rfl hl.1 rfl (Nat.le_of_ble_eq_true rfl) dX7_moves_36 ⟨Nat.le_of_ble_eq_true rfl, Nat.le_of_ble_eq_true rfl⟩ (fun H locs w => ?_)
        refine lv_istore (lv' := [(4, .int r10), (3, .int r1), (0, .ref (mo 0)), (1, .int x1), (2, .int x2)]) F.x F.b dX7_moves_39 hl (by decide) rfl (fun ls hl => ?_)
        refine lv_aload_n F.x F.b dX7_moves_41 rfl (lv_at hl 2 rfl) ?_
        refine lv_iload_n F.x F.b dX7_moves_42 rfl (lv_at hl 1 rfl) ?_
        refine lv_iconst (v := 4) F.x F.b dX7_moves_43 (by decide) ?_
        refine lv_iload_n F.x F.b dX7_moves_44 rfl (lv_at hl 4 rfl) ?_
        obtain ⟨M_12, hc13, h⟩ := bd h
        try dsimp only at h
        refine kVv0 F w (As := [.int r1, .int 4, .int x2]) (rest := []) (w1 := wMo G.2.1 mo M_12) (t_X7_sets F.1 hc13) m_X7_sets v_X7_sets q1647 (ci := 11) (q0 := 0) rfl rfl rfl ⟨Nat.le_of_ble_eq_true rfl, Nat.le_of_ble_eq_true rfl⟩ rfl hl.1 rfl (Nat.le_of_ble_eq_true rfl) dX7_moves_45 ⟨Nat.le_of_ble_eq_true rfl, Nat.le_of_ble_eq_true rfl⟩ (fun H locs w => ?_)
        refine lv_aload_n F.x F.b dX7_moves_48 rfl (lv_at hl 2 rfl) ?_
        refine lv_iload F.x F.b dX7_moves_49 (lv_at hl 0 rfl) ?_
        obtain ⟨⟨r14, M_15⟩, hc16, h⟩ := bd h
        try dsimp only at h
        refine kVi0 F w (As := [.int r10]) (rest := []) (w1 := wMo G.2.1 mo M_15) (t_X7_done F.1 hc16) m_X7_done v_X7_done q1651 (ci := 11) (q0 := 0) rfl rfl rfl ⟨Nat.le_of_ble_eq_true rfl, Nat.le_of_ble_eq_true rfl⟩ rfl hl.1 rfl (Nat.le_of_ble_eq_true rfl) dX7_moves_51 ⟨Nat.le_of_ble_eq_true rfl, Nat.le_of_ble_eq_true rfl⟩ (fun H locs w => ?_)
        obtain ⟨z0, z1⟩ := sm2 (sm h)
        exact ei F w hr hlocks rfl z0 (by rw [← z1]) dX7_moves_54
      · have h := ie c9 h
        refine lv_iconst (v := 3) F.x F.b dX7_moves_31 (by decide) ?_
        obtain ⟨z0, z1⟩ := sm2 (sm h)
        exact ei F w hr hlocks rfl z0 (by rw [← z1]) dX7_moves_32
    · have h := it c6 h
      refine lv_iconst (v := 2) F.x F.b dX7_moves_20 (by decide) ?_
      obtain ⟨z0, z1⟩ := sm2 (sm h)
      exact ei F w hr hlocks rfl z0 (by rw [← z1]) dX7_moves_21
  · have h := it c3 h
    refine lv_iconst (v := 1) F.x F.b dX7_moves_11 (by decide) ?_
    obtain ⟨z0, z1⟩ := sm2 (sm h)
    exact ei F w hr hlocks rfl z0 (by rw [← z1]) dX7_moves_12
set_option maxRecDepth 100000 in
set_option maxHeartbeats 4000000 in
theorem t_X7_oneDay {G : cG} (g : GOK G) {mo : Nat → Nat} {M : Mem} {r : Int32} {M' : Mem} (h : f_X7_oneDay M = some (r, M')) : CI G yX7_oneDay cX7_oneDay 4 .int 2 46 [.ref (mo 0)] (wMo G.2.1 mo M) (wMo G.2.1 mo M') r := by
  unfold f_X7_oneDay at h
  refine CI.of g (by decide) rfl (Nat.le_of_ble_eq_true rfl) ?_
  intro p l e s m below meth c A ls F hr hlocks w hl
  generalize ([.ref (mo 0)] : List Value).toArray = args
  have hl : lv_has ls 4 [(0, .ref (mo 0))] := hl
  have L2 : ∀ {k : Mem → Option (Int32 × Mem)} (n : Nat) (x1 : Int32) (M : Mem) (H : Heap) (locs : List Loc) (ls : Array Slot), Wd G A s.heap (wMo G.2.1 mo M) H locs → lv_has ls 4 [(0, .ref (mo 0)), (1, .int x1)] → f_X7_oneDay_L2 k n x1 M = some (r, M') → (∀ (M : Mem) (H : Heap) (locs : List Loc) (ls : Array Slot), Wd G A s.heap (wMo G.2.1 mo M) H locs → lv_has ls 4 [(0, .ref (mo 0))] → k M = some (r, M') → W p l e { frames := 2, cells := 0, slots := 0, locals := 46 } s m args below meth c H locs 0 0 (QI G A (wMo G.2.1 mo M') r below args s) (F0 m 21 ls [])) → W p l e { frames := 2, cells := 0, slots := 0, locals := 46 } s m args below meth c H locs 0 0 (QI G A (wMo G.2.1 mo M') r below args s) (F0 m 2 ls []) := by
    clear h w hl
    intro k n
    induction n with
    | zero =>
      intro x1 M H locs ls w hl h hk
      exact nomatch (show (none : Option (Int32 × Mem)) = some (r, M') from h)
    | succ n ih =>
      intro x1 M H locs ls w hl h hk
      rw [f_X7_oneDay_L2] at h
      refine lv_iload_n F.x F.b dX7_oneDay_2 rfl (lv_at hl 1 rfl) ?_
      refine lv_bipush (v := 24) F.x F.b dX7_oneDay_3 (by decide) ?_
      refine lv_icmp_ge (tgt := 21) F.x F.b dX7_oneDay_5 (by decide) (fun c1 => ?_) (fun c1 => ?_)
      · have h := it c1 h
        exact hk M _ _ _ w (lv_sub hl [0] rfl) h
      · have h := ie c1 h
        refine lv_aload_n F.x F.b dX7_oneDay_8 rfl (lv_at hl 0 rfl) ?_
        refine rg F w cl7 0 (at_Mo_0 _ _ _) 11 (by decide) q1558 rfl (v := .ref (mo 9)) rfl dX7_oneDay_9 ?_
        refine lv_iload_n F.x F.b dX7_oneDay_12 rfl (lv_at hl 1 rfl) ?_
        refine lv_iconst (v := 0) F.x F.b dX7_oneDay_13 (by decide) ?_
        obtain ⟨g2, h⟩ := gd h
        refine ris F w (ws' := wMo G.2.1 mo (wrA M 8 x1 0)) 9 (n := 24) (f := M.2 8) (at_Mo_9 _ _ _) g2 (st_Mo_9 _ _ _ _ _) dX7_oneDay_14 (fun H locs w => ?_)
        refine lv_iinc (v := (x1 + 1)) (lv' := [(1, .int (x1 + 1)), (0, .ref (mo 0))]) F.x F.b dX7_oneDay_15 hl (k := 1) rfl rfl (by decide) rfl (fun ls hl => ?_)
        refine lv_goto (tgt := 2) F.x F.b dX7_oneDay_18 (by decide) ?_
        exact ih (x1 + 1) (wrA M 8 x1 0) _ _ _ w (lv_sub hl [1, 0] rfl) h hk
  have L23 : ∀ {k : Mem → Option (Int32 × Mem)} (n : Nat) (x1 : Int32) (M : Mem) (H : Heap) (locs : List Loc) (ls : Array Slot), Wd G A s.heap (wMo G.2.1 mo M) H locs → lv_has ls 4 [(0, .ref (mo 0)), (1, .int x1)] → f_X7_oneDay_L23 k n x1 M = some (r, M') → (∀ (M : Mem) (H : Heap) (locs : List Loc) (ls : Array Slot), Wd G A s.heap (wMo G.2.1 mo M) H locs → lv_has ls 4 [(0, .ref (mo 0))] → k M = some (r, M') → W p l e { frames := 2, cells := 0, slots := 0, locals := 46 } s m args below meth c H locs 0 0 (QI G A (wMo G.2.1 mo M') r below args s) (F0 m 57 ls [])) → W p l e { frames := 2, cells := 0, slots := 0, locals := 46 } s m args below meth c H locs 0 0 (QI G A (wMo G.2.1 mo M') r below args s) (F0 m 23 ls []) := by
    clear h w hl
    intro k n
    induction n with
    | zero =>
      intro x1 M H locs ls w hl h hk
      exact nomatch (show (none : Option (Int32 × Mem)) = some (r, M') from h)
    | succ n ih =>
      intro x1 M H locs ls w hl h hk
      rw [f_X7_oneDay_L23] at h
      refine lv_iload_n F.x F.b dX7_oneDay_23 rfl (lv_at hl 1 rfl) ?_
      refine lv_aload_n F.x F.b dX7_oneDay_24 rfl (lv_at hl 0 rfl) ?_
      refine rg F w cl7 0 (at_Mo_0 _ _ _) 1 (by decide) q1548 rfl (v := .ref (mo 1)) rfl dX7_oneDay_25 ?_
      refine lv_iconst (v := 1) F.x F.b dX7_oneDay_28 (by decide) ?_
      obtain ⟨g4, h⟩ := gd h
      refine ri F w 1 (n := 148) (f := M.2 0) (at_Mo_1 _ _ _) g4 dX7_oneDay_29 ?_
      refine lv_icmp_ge (tgt := 57) F.x F.b dX7_oneDay_30 (by decide) (fun c5 => ?_) (fun c5 => ?_)
      · have h := it c5 h
        exact hk M _ _ _ w (lv_sub hl [0] rfl) h
      · have h := ie c5 h
        refine lv_aload_n F.x F.b dX7_oneDay_33 rfl (lv_at hl 0 rfl) ?_
        refine rg F w cl7 0 (at_Mo_0 _ _ _) 11 (by decide) q1558 rfl (v := .ref (mo 9)) rfl dX7_oneDay_34 ?_
        refine lv_aload_n F.x F.b dX7_oneDay_37 rfl (lv_at hl 0 rfl) ?_
        refine lv_iload_n F.x F.b dX7_oneDay_38 rfl (lv_at hl 1 rfl) ?_
        refine lv_iconst (v := 4) F.x F.b dX7_oneDay_39 (by decide) ?_
        obtain ⟨r6, hc7, h⟩ := bd h
        try dsimp only at h
        refine kVi0 F w (As := [.int x1, .int 4]) (rest := [.ref (mo 9)]) (w1 := wMo G.2.1 mo M) (t_X7_of F.1 hc7) m_X7_of v_X7_of q1643 (ci := 11) (q0 := 0) rfl rfl rfl ⟨Nat.le_of_ble_eq_true rfl, Nat.le_of_ble_eq_true rfl⟩ rfl hl.1 rfl (Nat.le_of_ble_eq_true rfl) dX7_oneDay_40 ⟨Nat.le_of_ble_eq_true rfl, Nat.le_of_ble_eq_true rfl⟩ (fun H locs w => ?_)
        refine lv_aload_n F.x F.b dX7_oneDay_43 rfl (lv_at hl 0 rfl) ?_
        refine lv_iload_n F.x F.b dX7_oneDay_44 rfl (lv_at hl 1 rfl) ?_
        refine lv_bipush (v := 6) F.x F.b dX7_oneDay_45 (by decide) ?_
        obtain ⟨r8, hc9, h⟩ := bd h
        try dsimp only at h
        refine kVi0 F w (As := [.int x1, .int 6]) (rest := [.int r6, .ref (mo 9)]) (w1 := wMo G.2.1 mo M) (t_X7_of F.1 hc9) m_X7_of v_X7_of q1643 (ci := 11) (q0 := 0) rfl rfl rfl ⟨Nat.le_of_ble_eq_true rfl, Nat.le_of_ble_eq_true rfl⟩ rfl hl.1 rfl (Nat.le_of_ble_eq_true rfl) dX7_oneDay_47 ⟨Nat.le_of_ble_eq_true rfl, Nat.le_of_ble_eq_true rfl⟩ (fun H locs w => ?_)
        obtain ⟨g10, h⟩ := gd h
        refine ris F w (ws' := wMo G.2.1 mo (wrA M 8 r6 r8)) 9 (n := 24) (f := M.2 8) (at_Mo_9 _ _ _) g10 (st_Mo_9 _ _ _ _ _) dX7_oneDay_50 (fun H locs w => ?_)
        refine lv_iinc (v := (x1 + 1)) (lv' := [(1, .int (x1 + 1)), (0, .ref (mo 0))]) F.x F.b dX7_oneDay_51 hl (k := 1) rfl rfl (by decide) rfl (fun ls hl => ?_)
        refine lv_goto (tgt := 23) F.x F.b dX7_oneDay_54 (by decide) ?_
        exact ih (x1 + 1) (wrA M 8 r6 r8) _ _ _ w (lv_sub hl [1, 0] rfl) h hk
  have L59 : ∀ {k : Mem → Option (Int32 × Mem)} (n : Nat) (x1 : Int32) (M : Mem) (H : Heap) (locs : List Loc) (ls : Array Slot), Wd G A s.heap (wMo G.2.1 mo M) H locs → lv_has ls 4 [(0, .ref (mo 0)), (1, .int x1)] → f_X7_oneDay_L59 k n x1 M = some (r, M') → (∀ (M : Mem) (H : Heap) (locs : List Loc) (ls : Array Slot), Wd G A s.heap (wMo G.2.1 mo M) H locs → lv_has ls 4 [(0, .ref (mo 0))] → k M = some (r, M') → W p l e { frames := 2, cells := 0, slots := 0, locals := 46 } s m args below meth c H locs 0 0 (QI G A (wMo G.2.1 mo M') r below args s) (F0 m 145 ls [])) → W p l e { frames := 2, cells := 0, slots := 0, locals := 46 } s m args below meth c H locs 0 0 (QI G A (wMo G.2.1 mo M') r below args s) (F0 m 59 ls []) := by
    clear h w hl
    intro k n
    induction n with
    | zero =>
      intro x1 M H locs ls w hl h hk
      exact nomatch (show (none : Option (Int32 × Mem)) = some (r, M') from h)
    | succ n ih =>
      intro x1 M H locs ls w hl h hk
      rw [f_X7_oneDay_L59] at h
      refine lv_iload_n F.x F.b dX7_oneDay_59 rfl (lv_at hl 1 rfl) ?_
      refine lv_aload_n F.x F.b dX7_oneDay_60 rfl (lv_at hl 0 rfl) ?_
      refine rg F w cl7 0 (at_Mo_0 _ _ _) 1 (by decide) q1548 rfl (v := .ref (mo 1)) rfl dX7_oneDay_61 ?_
      refine lv_iconst (v := 1) F.x F.b dX7_oneDay_64 (by decide) ?_
      obtain ⟨g12, h⟩ := gd h
      refine ri F w 1 (n := 148) (f := M.2 0) (at_Mo_1 _ _ _) g12 dX7_oneDay_65 ?_
      refine lv_icmp_ge (tgt := 145) F.x F.b dX7_oneDay_66 (by decide) (fun c13 => ?_) (fun c13 => ?_)
      · have h := it c13 h
        exact hk M _ _ _ w (lv_sub hl [0] rfl) h
      · have h := ie c13 h
        refine lv_aload_n F.x F.b dX7_oneDay_69 rfl (lv_at hl 0 rfl) ?_
        refine lv_iload_n F.x F.b dX7_oneDay_70 rfl (lv_at hl 1 rfl) ?_
        refine lv_iconst (v := 4) F.x F.b dX7_oneDay_71 (by decide) ?_
        obtain ⟨r14, hc15, h⟩ := bd h
        try dsimp only at h
        refine kVi0 F w (As := [.int x1, .int 4]) (rest := []) (w1 := wMo G.2.1 mo M) (t_X7_of F.1 hc15) m_X7_of v_X7_of q1643 (ci := 11) (q0 := 0) rfl rfl rfl ⟨Nat.le_of_ble_eq_true rfl, Nat.le_of_ble_eq_true rfl⟩ rfl hl.1 rfl (Nat.le_of_ble_eq_true rfl) dX7_oneDay_72 ⟨Nat.le_of_ble_eq_true rfl, Nat.le_of_ble_eq_true rfl⟩ (fun H locs w => ?_)
        refine lv_istore_n (lv' := [(2, .int r14), (0, .ref (mo 0)), (1, .int x1)]) F.x F.b dX7_oneDay_75 rfl hl (by decide) rfl (fun ls hl => ?_)
        refine lv_iload_n F.x F.b dX7_oneDay_76 rfl (lv_at hl 0 rfl) ?_
        refine lv_if_le (tgt := 92) F.x F.b dX7_oneDay_77 (by decide) (fun c16 => ?_) (fun c16 => ?_)
        · have h := it c16 h
          refine lv_iload_n F.x F.b dX7_oneDay_92 rfl (lv_at hl 0 rfl) ?_
          refine lv_iconst (v := 1) F.x F.b dX7_oneDay_93 (by decide) ?_
          refine lv_iadd F.x F.b dX7_oneDay_94 ?_
          refine lv_bipush (v := 24) F.x F.b dX7_oneDay_95 (by decide) ?_
          refine lv_icmp_ge (tgt := 116) F.x F.b dX7_oneDay_97 (by decide) (fun c17 => ?_) (fun c17 => ?_)
          · have h := it c17 h
            refine lv_iconst (v := 0) F.x F.b dX7_oneDay_116 (by decide) ?_
            refine lv_istore_n (lv' := [(3, .int 0), (2, .int r14), (0, .ref (mo 0)), (1, .int x1)]) F.x F.b dX7_oneDay_117 rfl hl (by decide) rfl (fun ls hl => ?_)
            refine lv_aload_n F.x F.b dX7_oneDay_118 rfl (lv_at hl 2 rfl) ?_
            refine lv_iload_n F.x F.b dX7_oneDay_119 rfl (lv_at hl 3 rfl) ?_
            refine lv_iconst (v := 5) F.x F.b dX7_oneDay_120 (by decide) ?_
            obtain ⟨r18, hc19, h⟩ := bd h
            try dsimp only at h
            refine kVi0 F w (As := [.int x1, .int 5]) (rest := []) (w1 := wMo G.2.1 mo M) (t_X7_of F.1 hc19) m_X7_of v_X7_of q1643 (ci := 11) (q0 := 0) rfl rfl rfl ⟨Nat.le_of_ble_eq_true rfl, Nat.le_of_ble_eq_true rfl⟩ rfl hl.1 rfl (Nat.le_of_ble_eq_true rfl) dX7_oneDay_121 ⟨Nat.le_of_ble_eq_true rfl, Nat.le_of_ble_eq_true rfl⟩ (fun H locs w => ?_)
            refine lv_if_ne (tgt := 139) F.x F.b dX7_oneDay_124 (by decide) (fun c20 => ?_) (fun c20 => ?_)
            · have h := ie c20 h
              refine lv_iinc (v := (x1 + 1)) (lv' := [(1, .int (x1 + 1)), (3, .int 0), (2, .int r14), (0, .ref (mo 0))]) F.x F.b dX7_oneDay_139 hl (k := 3) rfl rfl (by decide) rfl (fun ls hl => ?_)
              refine lv_goto (tgt := 59) F.x F.b dX7_oneDay_142 (by decide) ?_
              exact ih (x1 + 1) M _ _ _ w (lv_sub hl [3, 0] rfl) h hk
            · have h := it c20 h
              refine lv_iload_n F.x F.b dX7_oneDay_127 rfl (lv_at hl 0 rfl) ?_
              refine lv_if_eq (tgt := 139) F.x F.b dX7_oneDay_128 (by decide) (fun _ => ?_) (fun c9 => absurd (by decide) c9)
              refine lv_iinc (v := (x1 + 1)) (lv' := [(1, .int (x1 + 1)), (3, .int 0), (2, .int r14), (0, .ref (mo 0))]) F.x F.b dX7_oneDay_139 hl (k := 3) rfl rfl (by decide) rfl (fun ls hl => ?_)
              refine lv_goto (tgt := 59) F.x F.b dX7_oneDay_142 (by decide) ?_
              exact ih (x1 + 1) M _ _ _ w (lv_sub hl [3, 0] rfl) h hk
          · have h := ie c17 h
            refine lv_aload_n F.x F.b dX7_oneDay_100 rfl (lv_at hl 1 rfl) ?_
            refine rg F w cl7 0 (at_Mo_0 _ _ _) 11 (by decide) q1558 rfl (v := .ref (mo 9)) rfl dX7_oneDay_101 ?_
            refine lv_iload_n F.x F.b dX7_oneDay_104 rfl (lv_at hl 0 rfl) ?_
            refine lv_iconst (v := 1) F.x F.b dX7_oneDay_105 (by decide) ?_
            refine lv_iadd F.x F.b dX7_oneDay_106 ?_
            obtain ⟨g21, h⟩ := gd h
            refine ri F w 9 (n := 24) (f := M.2 8) (at_Mo_9 _ _ _) g21 dX7_oneDay_107 ?_
            refine lv_iconst (v := 1) F.x F.b dX7_oneDay_108 (by decide) ?_
            refine lv_icmp_ne (tgt := 116) F.x F.b dX7_oneDay_109 (by decide) (fun c22 => ?_) (fun c22 => ?_)
            · have h := ie c22 h
              refine lv_iconst (v := 0) F.x F.b dX7_oneDay_116 (by decide) ?_
              refine lv_istore_n (lv' := [(3, .int 0), (2, .int r14), (0, .ref (mo 0)), (1, .int x1)]) F.x F.b dX7_oneDay_117 rfl hl (by decide) rfl (fun ls hl => ?_)
              refine lv_aload_n F.x F.b dX7_oneDay_118 rfl (lv_at hl 2 rfl) ?_
              refine lv_iload_n F.x F.b dX7_oneDay_119 rfl (lv_at hl 3 rfl) ?_
              refine lv_iconst (v := 5) F.x F.b dX7_oneDay_120 (by decide) ?_
              obtain ⟨r23, hc24, h⟩ := bd h
              try dsimp only at h
              refine kVi0 F w (As := [.int x1, .int 5]) (rest := []) (w1 := wMo G.2.1 mo M) (t_X7_of F.1 hc24) m_X7_of v_X7_of q1643 (ci := 11) (q0 := 0) rfl rfl rfl ⟨Nat.le_of_ble_eq_true rfl, Nat.le_of_ble_eq_true rfl⟩ rfl hl.1 rfl (Nat.le_of_ble_eq_true rfl) dX7_oneDay_121 ⟨Nat.le_of_ble_eq_true rfl, Nat.le_of_ble_eq_true rfl⟩ (fun H locs w => ?_)
              refine lv_if_ne (tgt := 139) F.x F.b dX7_oneDay_124 (by decide) (fun c25 => ?_) (fun c25 => ?_)
              · have h := ie c25 h
                refine lv_iinc (v := (x1 + 1)) (lv' := [(1, .int (x1 + 1)), (3, .int 0), (2, .int r14), (0, .ref (mo 0))]) F.x F.b dX7_oneDay_139 hl (k := 3) rfl rfl (by decide) rfl (fun ls hl => ?_)
                refine lv_goto (tgt := 59) F.x F.b dX7_oneDay_142 (by decide) ?_
                exact ih (x1 + 1) M _ _ _ w (lv_sub hl [3, 0] rfl) h hk
              · have h := it c25 h
                refine lv_iload_n F.x F.b dX7_oneDay_127 rfl (lv_at hl 0 rfl) ?_
                refine lv_if_eq (tgt := 139) F.x F.b dX7_oneDay_128 (by decide) (fun _ => ?_) (fun c9 => absurd (by decide) c9)
                refine lv_iinc (v := (x1 + 1)) (lv' := [(1, .int (x1 + 1)), (3, .int 0), (2, .int r14), (0, .ref (mo 0))]) F.x F.b dX7_oneDay_139 hl (k := 3) rfl rfl (by decide) rfl (fun ls hl => ?_)
                refine lv_goto (tgt := 59) F.x F.b dX7_oneDay_142 (by decide) ?_
                exact ih (x1 + 1) M _ _ _ w (lv_sub hl [3, 0] rfl) h hk
            · have h := it c22 h
              refine lv_iconst (v := 1) F.x F.b dX7_oneDay_112 (by decide) ?_
              refine lv_goto (tgt := 117) F.x F.b dX7_oneDay_113 (by decide) ?_
              refine lv_istore_n (lv' := [(3, .int 1), (2, .int r14), (0, .ref (mo 0)), (1, .int x1)]) F.x F.b dX7_oneDay_117 rfl hl (by decide) rfl (fun ls hl => ?_)
              refine lv_aload_n F.x F.b dX7_oneDay_118 rfl (lv_at hl 2 rfl) ?_
              refine lv_iload_n F.x F.b dX7_oneDay_119 rfl (lv_at hl 3 rfl) ?_
              refine lv_iconst (v := 5) F.x F.b dX7_oneDay_120 (by decide) ?_
              obtain ⟨r26, hc27, h⟩ := bd h
              try dsimp only at h
              refine kVi0 F w (As := [.int x1, .int 5]) (rest := []) (w1 := wMo G.2.1 mo M) (t_X7_of F.1 hc27) m_X7_of v_X7_of q1643 (ci := 11) (q0 := 0) rfl rfl rfl ⟨Nat.le_of_ble_eq_true rfl, Nat.le_of_ble_eq_true rfl⟩ rfl hl.1 rfl (Nat.le_of_ble_eq_true rfl) dX7_oneDay_121 ⟨Nat.le_of_ble_eq_true rfl, Nat.le_of_ble_eq_true rfl⟩ (fun H locs w => ?_)
              refine lv_if_ne (tgt := 139) F.x F.b dX7_oneDay_124 (by decide) (fun c28 => ?_) (fun c28 => ?_)
              · have h := ie c28 h
                refine lv_iinc (v := (x1 + 1)) (lv' := [(1, .int (x1 + 1)), (3, .int 1), (2, .int r14), (0, .ref (mo 0))]) F.x F.b dX7_oneDay_139 hl (k := 3) rfl rfl (by decide) rfl (fun ls hl => ?_)
                refine lv_goto (tgt := 59) F.x F.b dX7_oneDay_142 (by decide) ?_
                exact ih (x1 + 1) M _ _ _ w (lv_sub hl [3, 0] rfl) h hk
              · have h := it c28 h
                refine lv_iload_n F.x F.b dX7_oneDay_127 rfl (lv_at hl 0 rfl) ?_
                refine lv_if_eq (tgt := 139) F.x F.b dX7_oneDay_128 (by decide) (fun c9 => absurd c9 (by decide)) (fun _ => ?_)
                refine lv_aload_n F.x F.b dX7_oneDay_131 rfl (lv_at hl 2 rfl) ?_
                refine lv_iload_n F.x F.b dX7_oneDay_132 rfl (lv_at hl 3 rfl) ?_
                refine lv_bipush (v := 6) F.x F.b dX7_oneDay_133 (by decide) ?_
                refine lv_iconst (v := 1) F.x F.b dX7_oneDay_135 (by decide) ?_
                obtain ⟨M_29, hc30, h⟩ := bd h
                try dsimp only at h
                refine kVv0 F w (As := [.int x1, .int 6, .int 1]) (rest := []) (w1 := wMo G.2.1 mo M_29) (t_X7_sets F.1 hc30) m_X7_sets v_X7_sets q1647 (ci := 11) (q0 := 0) rfl rfl rfl ⟨Nat.le_of_ble_eq_true rfl, Nat.le_of_ble_eq_true rfl⟩ rfl hl.1 rfl (Nat.le_of_ble_eq_true rfl) dX7_oneDay_136 ⟨Nat.le_of_ble_eq_true rfl, Nat.le_of_ble_eq_true rfl⟩ (fun H locs w => ?_)
                refine lv_iinc (v := (x1 + 1)) (lv' := [(1, .int (x1 + 1)), (3, .int 1), (2, .int r14), (0, .ref (mo 0))]) F.x F.b dX7_oneDay_139 hl (k := 3) rfl rfl (by decide) rfl (fun ls hl => ?_)
                refine lv_goto (tgt := 59) F.x F.b dX7_oneDay_142 (by decide) ?_
                exact ih (x1 + 1) M_29 _ _ _ w (lv_sub hl [3, 0] rfl) h hk
        · have h := ie c16 h
          refine lv_aload_n F.x F.b dX7_oneDay_80 rfl (lv_at hl 1 rfl) ?_
          refine rg F w cl7 0 (at_Mo_0 _ _ _) 11 (by decide) q1558 rfl (v := .ref (mo 9)) rfl dX7_oneDay_81 ?_
          refine lv_iload_n F.x F.b dX7_oneDay_84 rfl (lv_at hl 0 rfl) ?_
          refine lv_iconst (v := 1) F.x F.b dX7_oneDay_85 (by decide) ?_
          refine lv_isub F.x F.b dX7_oneDay_86 ?_
          obtain ⟨g31, h⟩ := gd h
          refine ri F w 9 (n := 24) (f := M.2 8) (at_Mo_9 _ _ _) g31 dX7_oneDay_87 ?_
          refine lv_iconst (v := 1) F.x F.b dX7_oneDay_88 (by decide) ?_
          refine lv_icmp_eq (tgt := 112) F.x F.b dX7_oneDay_89 (by decide) (fun c32 => ?_) (fun c32 => ?_)
          · have h := it c32 h
            refine lv_iconst (v := 1) F.x F.b dX7_oneDay_112 (by decide) ?_
            refine lv_goto (tgt := 117) F.x F.b dX7_oneDay_113 (by decide) ?_
            refine lv_istore_n (lv' := [(3, .int 1), (2, .int r14), (0, .ref (mo 0)), (1, .int x1)]) F.x F.b dX7_oneDay_117 rfl hl (by decide) rfl (fun ls hl => ?_)
            refine lv_aload_n F.x F.b dX7_oneDay_118 rfl (lv_at hl 2 rfl) ?_
            refine lv_iload_n F.x F.b dX7_oneDay_119 rfl (lv_at hl 3 rfl) ?_
            refine lv_iconst (v := 5) F.x F.b dX7_oneDay_120 (by decide) ?_
            obtain ⟨r33, hc34, h⟩ := bd h
            try dsimp only at h
            refine kVi0 F w (As := [.int x1, .int 5]) (rest := []) (w1 := wMo G.2.1 mo M) (t_X7_of F.1 hc34) m_X7_of v_X7_of q1643 (ci := 11) (q0 := 0) rfl rfl rfl ⟨Nat.le_of_ble_eq_true rfl, Nat.le_of_ble_eq_true rfl⟩ rfl hl.1 rfl (Nat.le_of_ble_eq_true rfl) dX7_oneDay_121 ⟨Nat.le_of_ble_eq_true rfl, Nat.le_of_ble_eq_true rfl⟩ (fun H locs w => ?_)
            refine lv_if_ne (tgt := 139) F.x F.b dX7_oneDay_124 (by decide) (fun c35 => ?_) (fun c35 => ?_)
            · have h := ie c35 h
              refine lv_iinc (v := (x1 + 1)) (lv' := [(1, .int (x1 + 1)), (3, .int 1), (2, .int r14), (0, .ref (mo 0))]) F.x F.b dX7_oneDay_139 hl (k := 3) rfl rfl (by decide) rfl (fun ls hl => ?_)
              refine lv_goto (tgt := 59) F.x F.b dX7_oneDay_142 (by decide) ?_
              exact ih (x1 + 1) M _ _ _ w (lv_sub hl [3, 0] rfl) h hk
            · have h := it c35 h
              refine lv_iload_n F.x F.b dX7_oneDay_127 rfl (lv_at hl 0 rfl) ?_
              refine lv_if_eq (tgt := 139) F.x F.b dX7_oneDay_128 (by decide) (fun c9 => absurd c9 (by decide)) (fun _ => ?_)
              refine lv_aload_n F.x F.b dX7_oneDay_131 rfl (lv_at hl 2 rfl) ?_
              refine lv_iload_n F.x F.b dX7_oneDay_132 rfl (lv_at hl 3 rfl) ?_
              refine lv_bipush (v := 6) F.x F.b dX7_oneDay_133 (by decide) ?_
              refine lv_iconst (v := 1) F.x F.b dX7_oneDay_135 (by decide) ?_
              obtain ⟨M_36, hc37, h⟩ := bd h
              try dsimp only at h
              refine kVv0 F w (As := [.int x1, .int 6, .int 1]) (rest := []) (w1 := wMo G.2.1 mo M_36) (t_X7_sets F.1 hc37) m_X7_sets v_X7_sets q1647 (ci := 11) (q0 := 0) rfl rfl rfl ⟨Nat.le_of_ble_eq_true rfl, Nat.le_of_ble_eq_true rfl⟩ rfl hl.1 rfl (Nat.le_of_ble_eq_true rfl) dX7_oneDay_136 ⟨Nat.le_of_ble_eq_true rfl, Nat.le_of_ble_eq_true rfl⟩ (fun H locs w => ?_)
              refine lv_iinc (v := (x1 + 1)) (lv' := [(1, .int (x1 + 1)), (3, .int 1), (2, .int r14), (0, .ref (mo 0))]) F.x F.b dX7_oneDay_139 hl (k := 3) rfl rfl (by decide) rfl (fun ls hl => ?_)
              refine lv_goto (tgt := 59) F.x F.b dX7_oneDay_142 (by decide) ?_
              exact ih (x1 + 1) M_36 _ _ _ w (lv_sub hl [3, 0] rfl) h hk
          · have h := ie c32 h
            refine lv_iload_n F.x F.b dX7_oneDay_92 rfl (lv_at hl 0 rfl) ?_
            refine lv_iconst (v := 1) F.x F.b dX7_oneDay_93 (by decide) ?_
            refine lv_iadd F.x F.b dX7_oneDay_94 ?_
            refine lv_bipush (v := 24) F.x F.b dX7_oneDay_95 (by decide) ?_
            refine lv_icmp_ge (tgt := 116) F.x F.b dX7_oneDay_97 (by decide) (fun c38 => ?_) (fun c38 => ?_)
            · have h := it c38 h
              refine lv_iconst (v := 0) F.x F.b dX7_oneDay_116 (by decide) ?_
              refine lv_istore_n (lv' := [(3, .int 0), (2, .int r14), (0, .ref (mo 0)), (1, .int x1)]) F.x F.b dX7_oneDay_117 rfl hl (by decide) rfl (fun ls hl => ?_)
              refine lv_aload_n F.x F.b dX7_oneDay_118 rfl (lv_at hl 2 rfl) ?_
              refine lv_iload_n F.x F.b dX7_oneDay_119 rfl (lv_at hl 3 rfl) ?_
              refine lv_iconst (v := 5) F.x F.b dX7_oneDay_120 (by decide) ?_
              obtain ⟨r39, hc40, h⟩ := bd h
              try dsimp only at h
              refine kVi0 F w (As := [.int x1, .int 5]) (rest := []) (w1 := wMo G.2.1 mo M) (t_X7_of F.1 hc40) m_X7_of v_X7_of q1643 (ci := 11) (q0 := 0) rfl rfl rfl ⟨Nat.le_of_ble_eq_true rfl, Nat.le_of_ble_eq_true rfl⟩ rfl hl.1 rfl (Nat.le_of_ble_eq_true rfl) dX7_oneDay_121 ⟨Nat.le_of_ble_eq_true rfl, Nat.le_of_ble_eq_true rfl⟩ (fun H locs w => ?_)
              refine lv_if_ne (tgt := 139) F.x F.b dX7_oneDay_124 (by decide) (fun c41 => ?_) (fun c41 => ?_)
              · have h := ie c41 h
                refine lv_iinc (v := (x1 + 1)) (lv' := [(1, .int (x1 + 1)), (3, .int 0), (2, .int r14), (0, .ref (mo 0))]) F.x F.b dX7_oneDay_139 hl (k := 3) rfl rfl (by decide) rfl (fun ls hl => ?_)
                refine lv_goto (tgt := 59) F.x F.b dX7_oneDay_142 (by decide) ?_
                exact ih (x1 + 1) M _ _ _ w (lv_sub hl [3, 0] rfl) h hk
              · have h := it c41 h
                refine lv_iload_n F.x F.b dX7_oneDay_127 rfl (lv_at hl 0 rfl) ?_
                refine lv_if_eq (tgt := 139) F.x F.b dX7_oneDay_128 (by decide) (fun _ => ?_) (fun c9 => absurd (by decide) c9)
                refine lv_iinc (v := (x1 + 1)) (lv' := [(1, .int (x1 + 1)), (3, .int 0), (2, .int r14), (0, .ref (mo 0))]) F.x F.b dX7_oneDay_139 hl (k := 3) rfl rfl (by decide) rfl (fun ls hl => ?_)
                refine lv_goto (tgt := 59) F.x F.b dX7_oneDay_142 (by decide) ?_
                exact ih (x1 + 1) M _ _ _ w (lv_sub hl [3, 0] rfl) h hk
            · have h := ie c38 h
              refine lv_aload_n F.x F.b dX7_oneDay_100 rfl (lv_at hl 1 rfl) ?_
              refine rg F w cl7 0 (at_Mo_0 _ _ _) 11 (by decide) q1558 rfl (v := .ref (mo 9)) rfl dX7_oneDay_101 ?_
              refine lv_iload_n F.x F.b dX7_oneDay_104 rfl (lv_at hl 0 rfl) ?_
              refine lv_iconst (v := 1) F.x F.b dX7_oneDay_105 (by decide) ?_
              refine lv_iadd F.x F.b dX7_oneDay_106 ?_
              obtain ⟨g42, h⟩ := gd h
              refine ri F w 9 (n := 24) (f := M.2 8) (at_Mo_9 _ _ _) g42 dX7_oneDay_107 ?_
              refine lv_iconst (v := 1) F.x F.b dX7_oneDay_108 (by decide) ?_
              refine lv_icmp_ne (tgt := 116) F.x F.b dX7_oneDay_109 (by decide) (fun c43 => ?_) (fun c43 => ?_)
              · have h := ie c43 h
                refine lv_iconst (v := 0) F.x F.b dX7_oneDay_116 (by decide) ?_
                refine lv_istore_n (lv' := [(3, .int 0), (2, .int r14), (0, .ref (mo 0)), (1, .int x1)]) F.x F.b dX7_oneDay_117 rfl hl (by decide) rfl (fun ls hl => ?_)
                refine lv_aload_n F.x F.b dX7_oneDay_118 rfl (lv_at hl 2 rfl) ?_
                refine lv_iload_n F.x F.b dX7_oneDay_119 rfl (lv_at hl 3 rfl) ?_
                refine lv_iconst (v := 5) F.x F.b dX7_oneDay_120 (by decide) ?_
                obtain ⟨r44, hc45, h⟩ := bd h
                try dsimp only at h
                refine kVi0 F w (As := [.int x1, .int 5]) (rest := []) (w1 := wMo G.2.1 mo M) (t_X7_of F.1 hc45) m_X7_of v_X7_of q1643 (ci := 11) (q0 := 0) rfl rfl rfl ⟨Nat.le_of_ble_eq_true rfl, Nat.le_of_ble_eq_true rfl⟩ rfl hl.1 rfl (Nat.le_of_ble_eq_true rfl) dX7_oneDay_121 ⟨Nat.le_of_ble_eq_true rfl, Nat.le_of_ble_eq_true rfl⟩ (fun H locs w => ?_)
                refine lv_if_ne (tgt := 139) F.x F.b dX7_oneDay_124 (by decide) (fun c46 => ?_) (fun c46 => ?_)
                · have h := ie c46 h
                  refine lv_iinc (v := (x1 + 1)) (lv' := [(1, .int (x1 + 1)), (3, .int 0), (2, .int r14), (0, .ref (mo 0))]) F.x F.b dX7_oneDay_139 hl (k := 3) rfl rfl (by decide) rfl (fun ls hl => ?_)
                  refine lv_goto (tgt := 59) F.x F.b dX7_oneDay_142 (by decide) ?_
                  exact ih (x1 + 1) M _ _ _ w (lv_sub hl [3, 0] rfl) h hk
                · have h := it c46 h
                  refine lv_iload_n F.x F.b dX7_oneDay_127 rfl (lv_at hl 0 rfl) ?_
                  refine lv_if_eq (tgt := 139) F.x F.b dX7_oneDay_128 (by decide) (fun _ => ?_) (fun c9 => absurd (by decide) c9)
                  refine lv_iinc (v := (x1 + 1)) (lv' := [(1, .int (x1 + 1)), (3, .int 0), (2, .int r14), (0, .ref (mo 0))]) F.x F.b dX7_oneDay_139 hl (k := 3) rfl rfl (by decide) rfl (fun ls hl => ?_)
                  refine lv_goto (tgt := 59) F.x F.b dX7_oneDay_142 (by decide) ?_
                  exact ih (x1 + 1) M _ _ _ w (lv_sub hl [3, 0] rfl) h hk
              · have h := it c43 h
                refine lv_iconst (v := 1) F.x F.b dX7_oneDay_112 (by decide) ?_
                refine lv_goto (tgt := 117) F.x F.b dX7_oneDay_113 (by decide) ?_
                refine lv_istore_n (lv' := [(3, .int 1), (2, .int r14), (0, .ref (mo 0)), (1, .int x1)]) F.x F.b dX7_oneDay_117 rfl hl (by decide) rfl (fun ls hl => ?_)
                refine lv_aload_n F.x F.b dX7_oneDay_118 rfl (lv_at hl 2 rfl) ?_
                refine lv_iload_n F.x F.b dX7_oneDay_119 rfl (lv_at hl 3 rfl) ?_
                refine lv_iconst (v := 5) F.x F.b dX7_oneDay_120 (by decide) ?_
                obtain ⟨r47, hc48, h⟩ := bd h
                try dsimp only at h
                refine kVi0 F w (As := [.int x1, .int 5]) (rest := []) (w1 := wMo G.2.1 mo M) (t_X7_of F.1 hc48) m_X7_of v_X7_of q1643 (ci := 11) (q0 := 0) rfl rfl rfl ⟨Nat.le_of_ble_eq_true rfl, Nat.le_of_ble_eq_true rfl⟩ rfl hl.1 rfl (Nat.le_of_ble_eq_true rfl) dX7_oneDay_121 ⟨Nat.le_of_ble_eq_true rfl, Nat.le_of_ble_eq_true rfl⟩ (fun H locs w => ?_)
                refine lv_if_ne (tgt := 139) F.x F.b dX7_oneDay_124 (by decide) (fun c49 => ?_) (fun c49 => ?_)
                · have h := ie c49 h
                  refine lv_iinc (v := (x1 + 1)) (lv' := [(1, .int (x1 + 1)), (3, .int 1), (2, .int r14), (0, .ref (mo 0))]) F.x F.b dX7_oneDay_139 hl (k := 3) rfl rfl (by decide) rfl (fun ls hl => ?_)
                  refine lv_goto (tgt := 59) F.x F.b dX7_oneDay_142 (by decide) ?_
                  exact ih (x1 + 1) M _ _ _ w (lv_sub hl [3, 0] rfl) h hk
                · have h := it c49 h
                  refine lv_iload_n F.x F.b dX7_oneDay_127 rfl (lv_at hl 0 rfl) ?_
                  refine lv_if_eq (tgt := 139) F.x F.b dX7_oneDay_128 (by decide) (fun c9 => absurd c9 (by decide)) (fun _ => ?_)
                  refine lv_aload_n F.x F.b dX7_oneDay_131 rfl (lv_at hl 2 rfl) ?_
                  refine lv_iload_n F.x F.b dX7_oneDay_132 rfl (lv_at hl 3 rfl) ?_
                  refine lv_bipush (v := 6) F.x F.b dX7_oneDay_133 (by decide) ?_
                  refine lv_iconst (v := 1) F.x F.b dX7_oneDay_135 (by decide) ?_
                  obtain ⟨M_50, hc51, h⟩ := bd h
                  try dsimp only at h
                  refine kVv0 F w (As := [.int x1, .int 6, .int 1]) (rest := []) (w1 := wMo G.2.1 mo M_50) (t_X7_sets F.1 hc51) m_X7_sets v_X7_sets q1647 (ci := 11) (q0 := 0) rfl rfl rfl ⟨Nat.le_of_ble_eq_true rfl, Nat.le_of_ble_eq_true rfl⟩ rfl hl.1 rfl (Nat.le_of_ble_eq_true rfl) dX7_oneDay_136 ⟨Nat.le_of_ble_eq_true rfl, Nat.le_of_ble_eq_true rfl⟩ (fun H locs w => ?_)
                  refine lv_iinc (v := (x1 + 1)) (lv' := [(1, .int (x1 + 1)), (3, .int 1), (2, .int r14), (0, .ref (mo 0))]) F.x F.b dX7_oneDay_139 hl (k := 3) rfl rfl (by decide) rfl (fun ls hl => ?_)
                  refine lv_goto (tgt := 59) F.x F.b dX7_oneDay_142 (by decide) ?_
                  exact ih (x1 + 1) M_50 _ _ _ w (lv_sub hl [3, 0] rfl) h hk
  have L156 : ∀ {k : Int32 → Mem → Option (Int32 × Mem)} (n : Nat) (x1 : Int32) (x2 : Int32) (M : Mem) (H : Heap) (locs : List Loc) (ls : Array Slot), Wd G A s.heap (wMo G.2.1 mo M) H locs → lv_has ls 4 [(0, .ref (mo 0)), (1, .int x1), (2, .int x2)] → f_X7_oneDay_L156 k n x1 x2 M = some (r, M') → (∀ (x1 : Int32) (M : Mem) (H : Heap) (locs : List Loc) (ls : Array Slot), Wd G A s.heap (wMo G.2.1 mo M) H locs → lv_has ls 4 [(0, .ref (mo 0)), (1, .int x1)] → k x1 M = some (r, M') → W p l e { frames := 2, cells := 0, slots := 0, locals := 46 } s m args below meth c H locs 0 0 (QI G A (wMo G.2.1 mo M') r below args s) (F0 m 217 ls [])) → W p l e { frames := 2, cells := 0, slots := 0, locals := 46 } s m args below meth c H locs 0 0 (QI G A (wMo G.2.1 mo M') r below args s) (F0 m 156 ls []) := by
    clear h w hl
    intro k n
    induction n with
    | zero =>
      intro x1 x2 M H locs ls w hl h hk
      exact nomatch (show (none : Option (Int32 × Mem)) = some (r, M') from h)
    | succ n ih =>
      intro x1 x2 M H locs ls w hl h hk
      rw [f_X7_oneDay_L156] at h
      refine lv_iload_n F.x F.b dX7_oneDay_156 rfl (lv_at hl 2 rfl) ?_
      refine lv_if_lt (tgt := 217) F.x F.b dX7_oneDay_157 (by decide) (fun c54 => ?_) (fun c54 => ?_)
      · have h := it c54 h
        exact hk x1 M _ _ _ w (lv_sub hl [0, 1] rfl) h
      · have h := ie c54 h
        refine lv_aload_n F.x F.b dX7_oneDay_160 rfl (lv_at hl 0 rfl) ?_
        refine rg F w cl7 0 (at_Mo_0 _ _ _) 11 (by decide) q1558 rfl (v := .ref (mo 9)) rfl dX7_oneDay_161 ?_
        refine lv_aload_n F.x F.b dX7_oneDay_164 rfl (lv_at hl 0 rfl) ?_
        refine lv_iload_n F.x F.b dX7_oneDay_165 rfl (lv_at hl 2 rfl) ?_
        refine lv_iconst (v := 4) F.x F.b dX7_oneDay_166 (by decide) ?_
        obtain ⟨r55, hc56, h⟩ := bd h
        try dsimp only at h
        refine kVi0 F w (As := [.int x2, .int 4]) (rest := [.ref (mo 9)]) (w1 := wMo G.2.1 mo M) (t_X7_of F.1 hc56) m_X7_of v_X7_of q1643 (ci := 11) (q0 := 0) rfl rfl rfl ⟨Nat.le_of_ble_eq_true rfl, Nat.le_of_ble_eq_true rfl⟩ rfl hl.1 rfl (Nat.le_of_ble_eq_true rfl) dX7_oneDay_167 ⟨Nat.le_of_ble_eq_true rfl, Nat.le_of_ble_eq_true rfl⟩ (fun H locs w => ?_)
        obtain ⟨g57, h⟩ := gd h
        refine ri F w 9 (n := 24) (f := M.2 8) (at_Mo_9 _ _ _) g57 dX7_oneDay_170 ?_
        refine lv_if_ne (tgt := 177) F.x F.b dX7_oneDay_171 (by decide) (fun c58 => ?_) (fun c58 => ?_)
        · have h := ie c58 h
          refine lv_aload_n F.x F.b dX7_oneDay_177 rfl (lv_at hl 0 rfl) ?_
          refine lv_iload_n F.x F.b dX7_oneDay_178 rfl (lv_at hl 2 rfl) ?_
          refine lv_iconst (v := 2) F.x F.b dX7_oneDay_179 (by decide) ?_
          refine lv_aload_n F.x F.b dX7_oneDay_180 rfl (lv_at hl 0 rfl) ?_
          refine lv_iload_n F.x F.b dX7_oneDay_181 rfl (lv_at hl 2 rfl) ?_
          refine lv_iconst (v := 2) F.x F.b dX7_oneDay_182 (by decide) ?_
          obtain ⟨r59, hc60, h⟩ := bd h
          try dsimp only at h
          refine kVi0 F w (As := [.int x2, .int 2]) (rest := [.int 2, .int x2, .ref (mo 0)]) (w1 := wMo G.2.1 mo M) (t_X7_of F.1 hc60) m_X7_of v_X7_of q1643 (ci := 11) (q0 := 0) rfl rfl rfl ⟨Nat.le_of_ble_eq_true rfl, Nat.le_of_ble_eq_true rfl⟩ rfl hl.1 rfl (Nat.le_of_ble_eq_true rfl) dX7_oneDay_183 ⟨Nat.le_of_ble_eq_true rfl, Nat.le_of_ble_eq_true rfl⟩ (fun H locs w => ?_)
          refine lv_iconst (v := 1) F.x F.b dX7_oneDay_186 (by decide) ?_
          refine lv_isub F.x F.b dX7_oneDay_187 ?_
          obtain ⟨M_61, hc62, h⟩ := bd h
          try dsimp only at h
          refine kVv0 F w (As := [.int x2, .int 2, .int (r59 - 1)]) (rest := []) (w1 := wMo G.2.1 mo M_61) (t_X7_sets F.1 hc62) m_X7_sets v_X7_sets q1647 (ci := 11) (q0 := 0) rfl rfl rfl ⟨Nat.le_of_ble_eq_true rfl, Nat.le_of_ble_eq_true rfl⟩ rfl hl.1 rfl (Nat.le_of_ble_eq_true rfl) dX7_oneDay_188 ⟨Nat.le_of_ble_eq_true rfl, Nat.le_of_ble_eq_true rfl⟩ (fun H locs w => ?_)
          refine lv_aload_n F.x F.b dX7_oneDay_191 rfl (lv_at hl 0 rfl) ?_
          refine lv_iload_n F.x F.b dX7_oneDay_192 rfl (lv_at hl 2 rfl) ?_
          refine lv_iconst (v := 2) F.x F.b dX7_oneDay_193 (by decide) ?_
          obtain ⟨r63, hc64, h⟩ := bd h
          try dsimp only at h
          refine kVi0 F w (As := [.int x2, .int 2]) (rest := []) (w1 := wMo G.2.1 mo M_61) (t_X7_of F.1 hc64) m_X7_of v_X7_of q1643 (ci := 11) (q0 := 0) rfl rfl rfl ⟨Nat.le_of_ble_eq_true rfl, Nat.le_of_ble_eq_true rfl⟩ rfl hl.1 rfl (Nat.le_of_ble_eq_true rfl) dX7_oneDay_194 ⟨Nat.le_of_ble_eq_true rfl, Nat.le_of_ble_eq_true rfl⟩ (fun H locs w => ?_)
          refine lv_if_le (tgt := 203) F.x F.b dX7_oneDay_197 (by decide) (fun c65 => ?_) (fun c65 => ?_)
          · have h := it c65 h
            refine lv_aload_n F.x F.b dX7_oneDay_203 rfl (lv_at hl 0 rfl) ?_
            refine lv_iload_n F.x F.b dX7_oneDay_204 rfl (lv_at hl 2 rfl) ?_
            obtain ⟨M_66, hc67, h⟩ := bd h
            try dsimp only at h
            refine kVv0 F w (As := [.int x2]) (rest := []) (w1 := wMo G.2.1 mo M_66) (t_X7_leaves F.1 hc67) m_X7_leaves v_X7_leaves q1837 (ci := 11) (q0 := 0) rfl rfl rfl ⟨Nat.le_of_ble_eq_true rfl, Nat.le_of_ble_eq_true rfl⟩ rfl hl.1 rfl (Nat.le_of_ble_eq_true rfl) dX7_oneDay_205 ⟨Nat.le_of_ble_eq_true rfl, Nat.le_of_ble_eq_true rfl⟩ (fun H locs w => ?_)
            refine lv_iinc (v := (x1 + 1)) (lv' := [(1, .int (x1 + 1)), (0, .ref (mo 0)), (2, .int x2)]) F.x F.b dX7_oneDay_208 hl (k := 1) rfl rfl (by decide) rfl (fun ls hl => ?_)
            refine lv_iinc (v := (x2 + (-1))) (lv' := [(2, .int (x2 + (-1))), (1, .int (x1 + 1)), (0, .ref (mo 0))]) F.x F.b dX7_oneDay_211 hl (k := 2) rfl rfl (by decide) rfl (fun ls hl => ?_)
            refine lv_goto (tgt := 156) F.x F.b dX7_oneDay_214 (by decide) ?_
            exact ih (x1 + 1) (x2 + (-1)) M_66 _ _ _ w (lv_sub hl [2, 1, 0] rfl) h hk
          · have h := ie c65 h
            refine lv_goto (tgt := 211) F.x F.b dX7_oneDay_200 (by decide) ?_
            refine lv_iinc (v := (x2 + (-1))) (lv' := [(2, .int (x2 + (-1))), (0, .ref (mo 0)), (1, .int x1)]) F.x F.b dX7_oneDay_211 hl (k := 2) rfl rfl (by decide) rfl (fun ls hl => ?_)
            refine lv_goto (tgt := 156) F.x F.b dX7_oneDay_214 (by decide) ?_
            exact ih x1 (x2 + (-1)) M_61 _ _ _ w (lv_sub hl [1, 2, 0] rfl) h hk
        · have h := it c58 h
          refine lv_goto (tgt := 211) F.x F.b dX7_oneDay_174 (by decide) ?_
          refine lv_iinc (v := (x2 + (-1))) (lv' := [(2, .int (x2 + (-1))), (0, .ref (mo 0)), (1, .int x1)]) F.x F.b dX7_oneDay_211 hl (k := 2) rfl rfl (by decide) rfl (fun ls hl => ?_)
          refine lv_goto (tgt := 156) F.x F.b dX7_oneDay_214 (by decide) ?_
          exact ih x1 (x2 + (-1)) M _ _ _ w (lv_sub hl [1, 2, 0] rfl) h hk
  refine lv_iconst (v := 0) F.x F.b dX7_oneDay_0 (by decide) ?_
  refine lv_istore_n (lv' := [(1, .int 0), (0, .ref (mo 0))]) F.x F.b dX7_oneDay_1 rfl hl (by decide) rfl (fun ls hl => ?_)
  refine L2 _ 0 M _ _ _ w (lv_sub hl [1, 0] rfl) h ?_
  intro M_3 H locs ls w hl h
  try dsimp only at h
  refine lv_iconst (v := 0) F.x F.b dX7_oneDay_21 (by decide) ?_
  refine lv_istore_n (lv' := [(1, .int 0), (0, .ref (mo 0))]) F.x F.b dX7_oneDay_22 rfl hl (by decide) rfl (fun ls hl => ?_)
  refine L23 _ 0 M_3 _ _ _ w (lv_sub hl [1, 0] rfl) h ?_
  intro M_11 H locs ls w hl h
  try dsimp only at h
  refine lv_iconst (v := 0) F.x F.b dX7_oneDay_57 (by decide) ?_
  refine lv_istore_n (lv' := [(1, .int 0), (0, .ref (mo 0))]) F.x F.b dX7_oneDay_58 rfl hl (by decide) rfl (fun ls hl => ?_)
  refine L59 _ 0 M_11 _ _ _ w (lv_sub hl [1, 0] rfl) h ?_
  intro M_52 H locs ls w hl h
  try dsimp only at h
  refine lv_iconst (v := 0) F.x F.b dX7_oneDay_145 (by decide) ?_
  refine lv_istore_n (lv' := [(1, .int 0), (0, .ref (mo 0))]) F.x F.b dX7_oneDay_146 rfl hl (by decide) rfl (fun ls hl => ?_)
  refine lv_aload_n F.x F.b dX7_oneDay_147 rfl (lv_at hl 1 rfl) ?_
  refine rg F w cl7 0 (at_Mo_0 _ _ _) 1 (by decide) q1548 rfl (v := .ref (mo 1)) rfl dX7_oneDay_148 ?_
  refine lv_iconst (v := 1) F.x F.b dX7_oneDay_151 (by decide) ?_
  obtain ⟨g53, h⟩ := gd h
  refine ri F w 1 (n := 148) (f := M_52.2 0) (at_Mo_1 _ _ _) g53 dX7_oneDay_152 ?_
  refine lv_iconst (v := 1) F.x F.b dX7_oneDay_153 (by decide) ?_
  refine lv_isub F.x F.b dX7_oneDay_154 ?_
  refine lv_istore_n (lv' := [(2, .int ((M_52.2 0 (Int32.toNatClampNeg 1)) - 1)), (1, .int 0), (0, .ref (mo 0))]) F.x F.b dX7_oneDay_155 rfl hl (by decide) rfl (fun ls hl => ?_)
  refine L156 _ 0 ((M_52.2 0 (Int32.toNatClampNeg 1)) - 1) M_52 _ _ _ w (lv_sub hl [2, 1, 0] rfl) h ?_
  intro y68_1 M_68 H locs ls w hl h
  try dsimp only at h
  refine lv_aload_n F.x F.b dX7_oneDay_217 rfl (lv_at hl 0 rfl) ?_
  refine rg F w cl7 0 (at_Mo_0 _ _ _) 1 (by decide) q1548 rfl (v := .ref (mo 1)) rfl dX7_oneDay_218 ?_
  refine lv_iconst (v := 3) F.x F.b dX7_oneDay_221 (by decide) ?_
  refine lv_dup2_11 F.x F.b dX7_oneDay_222 rfl rfl ?_
  obtain ⟨g69, h⟩ := gd h
  refine ri F w 1 (n := 148) (f := M_68.2 0) (at_Mo_1 _ _ _) g69 dX7_oneDay_223 ?_
  refine lv_iconst (v := 1) F.x F.b dX7_oneDay_224 (by decide) ?_
  refine lv_iadd F.x F.b dX7_oneDay_225 ?_
  obtain ⟨g70, h⟩ := gd h
  refine ris F w (ws' := wMo G.2.1 mo (wrA M_68 0 3 ((M_68.2 0 (Int32.toNatClampNeg 3)) + 1))) 1 (n := 148) (f := M_68.2 0) (at_Mo_1 _ _ _) g70 (st_Mo_1 _ _ _ _ _) dX7_oneDay_226 (fun H locs w => ?_)
  refine lv_aload_n F.x F.b dX7_oneDay_227 rfl (lv_at hl 0 rfl) ?_
  refine rg F w cl7 0 (at_Mo_0 _ _ _) 1 (by decide) q1548 rfl (v := .ref (mo 1)) rfl dX7_oneDay_228 ?_
  refine lv_bipush (v := 6) F.x F.b dX7_oneDay_231 (by decide) ?_
  refine lv_dup2_11 F.x F.b dX7_oneDay_233 rfl rfl ?_
  obtain ⟨g71, h⟩ := gd h
  refine ri F w 1 (n := 148) (f := (wrA M_68 0 3 ((M_68.2 0 (Int32.toNatClampNeg 3)) + 1)).2 0) (at_Mo_1 _ _ _) g71 dX7_oneDay_234 ?_
  refine lv_iload_n F.x F.b dX7_oneDay_235 rfl (lv_at hl 1 rfl) ?_
  refine lv_iadd F.x F.b dX7_oneDay_236 ?_
  obtain ⟨g72, h⟩ := gd h
  refine ris F w (ws' := wMo G.2.1 mo (wrA (wrA M_68 0 3 ((M_68.2 0 (Int32.toNatClampNeg 3)) + 1)) 0 6 (((wrA M_68 0 3 ((M_68.2 0 (Int32.toNatClampNeg 3)) + 1)).2 0 (Int32.toNatClampNeg 6)) + y68_1))) 1 (n := 148) (f := (wrA M_68 0 3 ((M_68.2 0 (Int32.toNatClampNeg 3)) + 1)).2 0) (at_Mo_1 _ _ _) g72 (st_Mo_1 _ _ _ _ _) dX7_oneDay_237 (fun H locs w => ?_)
  refine lv_iload_n F.x F.b dX7_oneDay_238 rfl (lv_at hl 1 rfl) ?_
  obtain ⟨z0, z1⟩ := sm2 (sm h)
  exact ei F w hr hlocks rfl z0 (by rw [← z1]) dX7_oneDay_239
set_option maxRecDepth 100000 in
set_option maxHeartbeats 4000000 in
theorem t_X7_passes {G : cG} (g : GOK G) {mo : Nat → Nat} {M : Mem} {x1 : Int32} {r : Int32} {M' : Mem} (h : f_X7_passes M x1 = some (r, M')) : CI G yX7_passes cX7_passes 4 .int 3 69 [.ref (mo 0), .int x1] (wMo G.2.1 mo M) (wMo G.2.1 mo M') r := by
  unfold f_X7_passes at h
  refine CI.of g (by decide) rfl (Nat.le_of_ble_eq_true rfl) ?_
  intro p l e s m below meth c A ls F hr hlocks w hl
  generalize ([.ref (mo 0), .int x1] : List Value).toArray = args
  have hl : lv_has ls 4 [(0, .ref (mo 0)), (1, .int x1)] := hl
  have L16 : ∀ (x1 : Int32) {k : Int32 → Mem → Option (Int32 × Mem)} (n : Nat) (x2 : Int32) (x3 : Int32) (M : Mem) (H : Heap) (locs : List Loc) (ls : Array Slot), Wd G A s.heap (wMo G.2.1 mo M) H locs → lv_has ls 4 [(0, .ref (mo 0)), (1, .int x1), (2, .int x2), (3, .int x3)] → f_X7_passes_L16 x1 k n x2 x3 M = some (r, M') → (∀ (x2 : Int32) (M : Mem) (H : Heap) (locs : List Loc) (ls : Array Slot), Wd G A s.heap (wMo G.2.1 mo M) H locs → lv_has ls 4 [(0, .ref (mo 0)), (2, .int x2)] → k x2 M = some (r, M') → W p l e { frames := 3, cells := 0, slots := 0, locals := 69 } s m args below meth c H locs 0 0 (QI G A (wMo G.2.1 mo M') r below args s) (F0 m 34 ls [])) → W p l e { frames := 3, cells := 0, slots := 0, locals := 69 } s m args below meth c H locs 0 0 (QI G A (wMo G.2.1 mo M') r below args s) (F0 m 16 ls []) := by
    clear h w hl
    intro x1 k n
    induction n with
    | zero =>
      intro x2 x3 M H locs ls w hl h hk
      exact nomatch (show (none : Option (Int32 × Mem)) = some (r, M') from h)
    | succ n ih =>
      intro x2 x3 M H locs ls w hl h hk
      rw [f_X7_passes_L16] at h
      refine lv_iload_n F.x F.b dX7_passes_16 rfl (lv_at hl 3 rfl) ?_
      refine lv_iload_n F.x F.b dX7_passes_17 rfl (lv_at hl 1 rfl) ?_
      refine lv_icmp_ge (tgt := 34) F.x F.b dX7_passes_18 (by decide) (fun c4 => ?_) (fun c4 => ?_)
      · have h := it c4 h
        exact hk x2 M _ _ _ w (lv_sub hl [0, 2] rfl) h
      · have h := ie c4 h
        refine lv_iload_n F.x F.b dX7_passes_21 rfl (lv_at hl 2 rfl) ?_
        refine lv_aload_n F.x F.b dX7_passes_22 rfl (lv_at hl 0 rfl) ?_
        obtain ⟨⟨r5, M_6⟩, hc7, h⟩ := bd h
        try dsimp only at h
        refine kVi0 F w (As := []) (rest := [.int x2]) (w1 := wMo G.2.1 mo M_6) (t_X7_oneDay F.1 hc7) m_X7_oneDay v_X7_oneDay q1833 (ci := 11) (q0 := 0) rfl rfl rfl ⟨Nat.le_of_ble_eq_true rfl, Nat.le_of_ble_eq_true rfl⟩ rfl hl.1 rfl (Nat.le_of_ble_eq_true rfl) dX7_passes_23 ⟨Nat.le_of_ble_eq_true rfl, Nat.le_of_ble_eq_true rfl⟩ (fun H locs w => ?_)
        refine lv_iadd F.x F.b dX7_passes_26 ?_
        refine lv_istore_n (lv' := [(2, .int (x2 + r5)), (0, .ref (mo 0)), (1, .int x1), (3, .int x3)]) F.x F.b dX7_passes_27 rfl hl (by decide) rfl (fun ls hl => ?_)
        refine lv_iinc (v := (x3 + 1)) (lv' := [(3, .int (x3 + 1)), (2, .int (x2 + r5)), (0, .ref (mo 0)), (1, .int x1)]) F.x F.b dX7_passes_28 hl (k := 3) rfl rfl (by decide) rfl (fun ls hl => ?_)
        refine lv_goto (tgt := 16) F.x F.b dX7_passes_31 (by decide) ?_
        exact ih (x2 + r5) (x3 + 1) M_6 _ _ _ w (lv_sub hl [2, 3, 1, 0] rfl) h hk
  refine lv_iload_n F.x F.b dX7_passes_0 rfl (lv_at hl 1 rfl) ?_
  refine lv_iconst (v := 1) F.x F.b dX7_passes_1 (by decide) ?_
  refine lv_bipush (v := 30) F.x F.b dX7_passes_2 (by decide) ?_
  obtain ⟨r1, hc2, h⟩ := bd h
  try dsimp only at h
  refine kSi F w (t_X7_in F.1 hc2) m_X7_in v_X7_in q1633 (As := [.int x1, .int 1, .int 30]) (rest := []) ⟨Nat.le_of_ble_eq_true rfl, Nat.le_of_ble_eq_true rfl⟩ rfl hl.1 rfl (Nat.le_of_ble_eq_true rfl) dX7_passes_4 ⟨Nat.le_of_ble_eq_true rfl, Nat.le_of_ble_eq_true rfl⟩ (fun H locs w => ?_)
  refine lv_if_ne (tgt := 12) F.x F.b dX7_passes_7 (by decide) (fun c3 => ?_) (fun c3 => ?_)
  · have h := ie c3 h
    refine lv_iconst (v := 0) F.x F.b dX7_passes_12 (by decide) ?_
    refine lv_istore_n (lv' := [(2, .int 0), (0, .ref (mo 0)), (1, .int x1)]) F.x F.b dX7_passes_13 rfl hl (by decide) rfl (fun ls hl => ?_)
    refine lv_iconst (v := 0) F.x F.b dX7_passes_14 (by decide) ?_
    refine lv_istore_n (lv' := [(3, .int 0), (2, .int 0), (0, .ref (mo 0)), (1, .int x1)]) F.x F.b dX7_passes_15 rfl hl (by decide) rfl (fun ls hl => ?_)
    refine L16 x1 _ 0 0 M _ _ _ w (lv_sub hl [2, 3, 1, 0] rfl) h ?_
    intro y8_2 M_8 H locs ls w hl h
    try dsimp only at h
    refine lv_aload_n F.x F.b dX7_passes_34 rfl (lv_at hl 0 rfl) ?_
    refine lv_iload_n F.x F.b dX7_passes_35 rfl (lv_at hl 1 rfl) ?_
    obtain ⟨⟨r9, M_10⟩, hc11, h⟩ := bd h
    try dsimp only at h
    refine kVi0 F w (As := [.int y8_2]) (rest := []) (w1 := wMo G.2.1 mo M_10) (t_X7_done F.1 hc11) m_X7_done v_X7_done q1651 (ci := 11) (q0 := 0) rfl rfl rfl ⟨Nat.le_of_ble_eq_true rfl, Nat.le_of_ble_eq_true rfl⟩ rfl hl.1 rfl (Nat.le_of_ble_eq_true rfl) dX7_passes_36 ⟨Nat.le_of_ble_eq_true rfl, Nat.le_of_ble_eq_true rfl⟩ (fun H locs w => ?_)
    obtain ⟨z0, z1⟩ := sm2 (sm h)
    exact ei F w hr hlocks rfl z0 (by rw [← z1]) dX7_passes_39
  · have h := it c3 h
    refine lv_iconst (v := 1) F.x F.b dX7_passes_10 (by decide) ?_
    obtain ⟨z0, z1⟩ := sm2 (sm h)
    exact ei F w hr hlocks rfl z0 (by rw [← z1]) dX7_passes_11
set_option maxRecDepth 100000 in
set_option maxHeartbeats 4000000 in
theorem t_X7_joins {G : cG} (g : GOK G) {mo : Nat → Nat} {M : Mem} {x1 : Int32} {r : Int32} {M' : Mem} (h : f_X7_joins M x1 = some (r, M')) : CI G yX7_joins cX7_joins 2 .int 2 44 [.ref (mo 0), .int x1] (wMo G.2.1 mo M) (wMo G.2.1 mo M') r := by
  unfold f_X7_joins at h
  refine CI.of g (by decide) rfl (Nat.le_of_ble_eq_true rfl) ?_
  intro p l e s m below meth c A ls F hr hlocks w hl
  generalize ([.ref (mo 0), .int x1] : List Value).toArray = args
  have hl : lv_has ls 2 [(0, .ref (mo 0)), (1, .int x1)] := hl
  refine lv_aload_n F.x F.b dX7_joins_0 rfl (lv_at hl 0 rfl) ?_
  refine lv_iload_n F.x F.b dX7_joins_1 rfl (lv_at hl 1 rfl) ?_
  obtain ⟨r1, hc2, h⟩ := bd h
  try dsimp only at h
  refine kVi0 F w (As := [.int x1]) (rest := []) (w1 := wMo G.2.1 mo M) (t_X7_placeOf F.1 hc2) m_X7_placeOf v_X7_placeOf q1675 (ci := 11) (q0 := 0) rfl rfl rfl ⟨Nat.le_of_ble_eq_true rfl, Nat.le_of_ble_eq_true rfl⟩ rfl hl.1 rfl (Nat.le_of_ble_eq_true rfl) dX7_joins_2 ⟨Nat.le_of_ble_eq_true rfl, Nat.le_of_ble_eq_true rfl⟩ (fun H locs w => ?_)
  refine lv_iconst (v := (-1)) F.x F.b dX7_joins_5 (by decide) ?_
  refine lv_icmp_ne (tgt := 11) F.x F.b dX7_joins_6 (by decide) (fun c3 => ?_) (fun c3 => ?_)
  · have h := ie c3 h
    refine lv_aload_n F.x F.b dX7_joins_11 rfl (lv_at hl 0 rfl) ?_
    refine lv_iload_n F.x F.b dX7_joins_12 rfl (lv_at hl 1 rfl) ?_
    obtain ⟨r4, hc5, h⟩ := bd h
    try dsimp only at h
    refine kVi0 F w (As := [.int x1]) (rest := []) (w1 := wMo G.2.1 mo M) (t_X7_waits F.1 hc5) m_X7_waits v_X7_waits q1841 (ci := 11) (q0 := 0) rfl rfl rfl ⟨Nat.le_of_ble_eq_true rfl, Nat.le_of_ble_eq_true rfl⟩ rfl hl.1 rfl (Nat.le_of_ble_eq_true rfl) dX7_joins_13 ⟨Nat.le_of_ble_eq_true rfl, Nat.le_of_ble_eq_true rfl⟩ (fun H locs w => ?_)
    refine lv_iconst (v := (-1)) F.x F.b dX7_joins_16 (by decide) ?_
    refine lv_icmp_eq (tgt := 22) F.x F.b dX7_joins_17 (by decide) (fun c6 => ?_) (fun c6 => ?_)
    · have h := it c6 h
      refine lv_aload_n F.x F.b dX7_joins_22 rfl (lv_at hl 0 rfl) ?_
      refine rg F w cl7 0 (at_Mo_0 _ _ _) 1 (by decide) q1548 rfl (v := .ref (mo 1)) rfl dX7_joins_23 ?_
      refine lv_sipush (v := 132) F.x F.b dX7_joins_26 (by decide) ?_
      refine lv_aload_n F.x F.b dX7_joins_29 rfl (lv_at hl 0 rfl) ?_
      refine rg F w cl7 0 (at_Mo_0 _ _ _) 1 (by decide) q1548 rfl (v := .ref (mo 1)) rfl dX7_joins_30 ?_
      refine lv_bipush (v := 7) F.x F.b dX7_joins_33 (by decide) ?_
      obtain ⟨g7, h⟩ := gd h
      refine ri F w 1 (n := 148) (f := M.2 0) (at_Mo_1 _ _ _) g7 dX7_joins_35 ?_
      refine lv_iadd F.x F.b dX7_joins_36 ?_
      refine lv_iload_n F.x F.b dX7_joins_37 rfl (lv_at hl 1 rfl) ?_
      obtain ⟨g8, h⟩ := gd h
      refine ris F w (ws' := wMo G.2.1 mo (wrA M 0 (132 + (M.2 0 (Int32.toNatClampNeg 7))) x1)) 1 (n := 148) (f := M.2 0) (at_Mo_1 _ _ _) g8 (st_Mo_1 _ _ _ _ _) dX7_joins_38 (fun H locs w => ?_)
      refine lv_aload_n F.x F.b dX7_joins_39 rfl (lv_at hl 0 rfl) ?_
      refine rg F w cl7 0 (at_Mo_0 _ _ _) 1 (by decide) q1548 rfl (v := .ref (mo 1)) rfl dX7_joins_40 ?_
      refine lv_bipush (v := 7) F.x F.b dX7_joins_43 (by decide) ?_
      refine lv_dup2_11 F.x F.b dX7_joins_45 rfl rfl ?_
      obtain ⟨g9, h⟩ := gd h
      refine ri F w 1 (n := 148) (f := (wrA M 0 (132 + (M.2 0 (Int32.toNatClampNeg 7))) x1).2 0) (at_Mo_1 _ _ _) g9 dX7_joins_46 ?_
      refine lv_iconst (v := 1) F.x F.b dX7_joins_47 (by decide) ?_
      refine lv_iadd F.x F.b dX7_joins_48 ?_
      obtain ⟨g10, h⟩ := gd h
      refine ris F w (ws' := wMo G.2.1 mo (wrA (wrA M 0 (132 + (M.2 0 (Int32.toNatClampNeg 7))) x1) 0 7 (((wrA M 0 (132 + (M.2 0 (Int32.toNatClampNeg 7))) x1).2 0 (Int32.toNatClampNeg 7)) + 1))) 1 (n := 148) (f := (wrA M 0 (132 + (M.2 0 (Int32.toNatClampNeg 7))) x1).2 0) (at_Mo_1 _ _ _) g10 (st_Mo_1 _ _ _ _ _) dX7_joins_49 (fun H locs w => ?_)
      refine lv_aload_n F.x F.b dX7_joins_50 rfl (lv_at hl 0 rfl) ?_
      refine lv_aload_n F.x F.b dX7_joins_51 rfl (lv_at hl 0 rfl) ?_
      refine rg F w cl7 0 (at_Mo_0 _ _ _) 1 (by decide) q1548 rfl (v := .ref (mo 1)) rfl dX7_joins_52 ?_
      refine lv_bipush (v := 7) F.x F.b dX7_joins_55 (by decide) ?_
      obtain ⟨g11, h⟩ := gd h
      refine ri F w 1 (n := 148) (f := (wrA (wrA M 0 (132 + (M.2 0 (Int32.toNatClampNeg 7))) x1) 0 7 (((wrA M 0 (132 + (M.2 0 (Int32.toNatClampNeg 7))) x1).2 0 (Int32.toNatClampNeg 7)) + 1)).2 0) (at_Mo_1 _ _ _) g11 dX7_joins_57 ?_
      obtain ⟨⟨r12, M_13⟩, hc14, h⟩ := bd h
      try dsimp only at h
      refine kVi0 F w (As := [.int ((wrA (wrA M 0 (132 + (M.2 0 (Int32.toNatClampNeg 7))) x1) 0 7 (((wrA M 0 (132 + (M.2 0 (Int32.toNatClampNeg 7))) x1).2 0 (Int32.toNatClampNeg 7)) + 1)).2 0 (Int32.toNatClampNeg 7))]) (rest := []) (w1 := wMo G.2.1 mo M_13) (t_X7_done F.1 hc14) m_X7_done v_X7_done q1651 (ci := 11) (q0 := 0) rfl rfl rfl ⟨Nat.le_of_ble_eq_true rfl, Nat.le_of_ble_eq_true rfl⟩ rfl hl.1 rfl (Nat.le_of_ble_eq_true rfl) dX7_joins_58 ⟨Nat.le_of_ble_eq_true rfl, Nat.le_of_ble_eq_true rfl⟩ (fun H locs w => ?_)
      obtain ⟨z0, z1⟩ := sm2 (sm h)
      exact ei F w hr hlocks rfl z0 (by rw [← z1]) dX7_joins_61
    · have h := ie c6 h
      refine lv_iconst (v := 2) F.x F.b dX7_joins_20 (by decide) ?_
      obtain ⟨z0, z1⟩ := sm2 (sm h)
      exact ei F w hr hlocks rfl z0 (by rw [← z1]) dX7_joins_21
  · have h := it c3 h
    refine lv_iconst (v := 1) F.x F.b dX7_joins_9 (by decide) ?_
    obtain ⟨z0, z1⟩ := sm2 (sm h)
    exact ei F w hr hlocks rfl z0 (by rw [← z1]) dX7_joins_10
set_option maxRecDepth 100000 in
set_option maxHeartbeats 4000000 in
theorem t_X7_audits {G : cG} (g : GOK G) {mo : Nat → Nat} {M : Mem} {r : Int32} {M' : Mem} (h : f_X7_audits M = some (r, M')) : CI G yX7_audits cX7_audits 2 .int 2 44 [.ref (mo 0)] (wMo G.2.1 mo M) (wMo G.2.1 mo M') r := by
  unfold f_X7_audits at h
  refine CI.of g (by decide) rfl (Nat.le_of_ble_eq_true rfl) ?_
  intro p l e s m below meth c A ls F hr hlocks w hl
  generalize ([.ref (mo 0)] : List Value).toArray = args
  have hl : lv_has ls 2 [(0, .ref (mo 0))] := hl
  refine lv_aload_n F.x F.b dX7_audits_0 rfl (lv_at hl 0 rfl) ?_
  refine rg F w cl7 0 (at_Mo_0 _ _ _) 1 (by decide) q1548 rfl (v := .ref (mo 1)) rfl dX7_audits_1 ?_
  refine lv_bipush (v := 7) F.x F.b dX7_audits_4 (by decide) ?_
  obtain ⟨g1, h⟩ := gd h
  refine ri F w 1 (n := 148) (f := M.2 0) (at_Mo_1 _ _ _) g1 dX7_audits_6 ?_
  refine lv_if_ne (tgt := 12) F.x F.b dX7_audits_7 (by decide) (fun c2 => ?_) (fun c2 => ?_)
  · have h := ie c2 h
    refine lv_aload_n F.x F.b dX7_audits_12 rfl (lv_at hl 0 rfl) ?_
    refine rg F w cl7 0 (at_Mo_0 _ _ _) 1 (by decide) q1548 rfl (v := .ref (mo 1)) rfl dX7_audits_13 ?_
    refine lv_sipush (v := 132) F.x F.b dX7_audits_16 (by decide) ?_
    obtain ⟨g3, h⟩ := gd h
    refine ri F w 1 (n := 148) (f := M.2 0) (at_Mo_1 _ _ _) g3 dX7_audits_19 ?_
    refine lv_istore_n (lv' := [(1, .int (M.2 0 (Int32.toNatClampNeg 132))), (0, .ref (mo 0))]) F.x F.b dX7_audits_20 rfl hl (by decide) rfl (fun ls hl => ?_)
    refine lv_aload_n F.x F.b dX7_audits_21 rfl (lv_at hl 1 rfl) ?_
    refine lv_iconst (v := 0) F.x F.b dX7_audits_22 (by decide) ?_
    obtain ⟨M_4, hc5, h⟩ := bd h
    try dsimp only at h
    refine kVv0 F w (As := [.int 0]) (rest := []) (w1 := wMo G.2.1 mo M_4) (t_X7_unqueues F.1 hc5) m_X7_unqueues v_X7_unqueues q1845 (ci := 11) (q0 := 0) rfl rfl rfl ⟨Nat.le_of_ble_eq_true rfl, Nat.le_of_ble_eq_true rfl⟩ rfl hl.1 rfl (Nat.le_of_ble_eq_true rfl) dX7_audits_23 ⟨Nat.le_of_ble_eq_true rfl, Nat.le_of_ble_eq_true rfl⟩ (fun H locs w => ?_)
    refine lv_aload_n F.x F.b dX7_audits_26 rfl (lv_at hl 1 rfl) ?_
    refine lv_aload_n F.x F.b dX7_audits_27 rfl (lv_at hl 1 rfl) ?_
    refine lv_iload_n F.x F.b dX7_audits_28 rfl (lv_at hl 0 rfl) ?_
    obtain ⟨r6, hc7, h⟩ := bd h
    try dsimp only at h
    refine kVi0 F w (As := [.int (M.2 0 (Int32.toNatClampNeg 132))]) (rest := [.ref (mo 0)]) (w1 := wMo G.2.1 mo M_4) (t_X7_placeOf F.1 hc7) m_X7_placeOf v_X7_placeOf q1675 (ci := 11) (q0 := 0) rfl rfl rfl ⟨Nat.le_of_ble_eq_true rfl, Nat.le_of_ble_eq_true rfl⟩ rfl hl.1 rfl (Nat.le_of_ble_eq_true rfl) dX7_audits_29 ⟨Nat.le_of_ble_eq_true rfl, Nat.le_of_ble_eq_true rfl⟩ (fun H locs w => ?_)
    refine lv_iconst (v := 5) F.x F.b dX7_audits_32 (by decide) ?_
    refine lv_iconst (v := 0) F.x F.b dX7_audits_33 (by decide) ?_
    obtain ⟨M_8, hc9, h⟩ := bd h
    try dsimp only at h
    refine kVv0 F w (As := [.int r6, .int 5, .int 0]) (rest := []) (w1 := wMo G.2.1 mo M_8) (t_X7_sets F.1 hc9) m_X7_sets v_X7_sets q1647 (ci := 11) (q0 := 0) rfl rfl rfl ⟨Nat.le_of_ble_eq_true rfl, Nat.le_of_ble_eq_true rfl⟩ rfl hl.1 rfl (Nat.le_of_ble_eq_true rfl) dX7_audits_34 ⟨Nat.le_of_ble_eq_true rfl, Nat.le_of_ble_eq_true rfl⟩ (fun H locs w => ?_)
    refine lv_aload_n F.x F.b dX7_audits_37 rfl (lv_at hl 1 rfl) ?_
    refine lv_iload_n F.x F.b dX7_audits_38 rfl (lv_at hl 0 rfl) ?_
    obtain ⟨⟨r10, M_11⟩, hc12, h⟩ := bd h
    try dsimp only at h
    refine kVi0 F w (As := [.int (M.2 0 (Int32.toNatClampNeg 132))]) (rest := []) (w1 := wMo G.2.1 mo M_11) (t_X7_done F.1 hc12) m_X7_done v_X7_done q1651 (ci := 11) (q0 := 0) rfl rfl rfl ⟨Nat.le_of_ble_eq_true rfl, Nat.le_of_ble_eq_true rfl⟩ rfl hl.1 rfl (Nat.le_of_ble_eq_true rfl) dX7_audits_39 ⟨Nat.le_of_ble_eq_true rfl, Nat.le_of_ble_eq_true rfl⟩ (fun H locs w => ?_)
    obtain ⟨z0, z1⟩ := sm2 (sm h)
    exact ei F w hr hlocks rfl z0 (by rw [← z1]) dX7_audits_42
  · have h := it c2 h
    refine lv_iconst (v := 1) F.x F.b dX7_audits_10 (by decide) ?_
    obtain ⟨z0, z1⟩ := sm2 (sm h)
    exact ei F w hr hlocks rfl z0 (by rw [← z1]) dX7_audits_11
set_option maxRecDepth 100000 in
set_option maxHeartbeats 4000000 in
theorem t_X7_deposits {G : cG} (g : GOK G) {mo : Nat → Nat} {M : Mem} {x1 : Int32} {r : Int32} {M' : Mem} (h : f_X7_deposits M x1 = some (r, M')) : CI G yX7_deposits cX7_deposits 2 .int 1 22 [.ref (mo 0), .int x1] (wMo G.2.1 mo M) (wMo G.2.1 mo M') r := by
  unfold f_X7_deposits at h
  refine CI.of g (by decide) rfl (Nat.le_of_ble_eq_true rfl) ?_
  intro p l e s m below meth c A ls F hr hlocks w hl
  generalize ([.ref (mo 0), .int x1] : List Value).toArray = args
  have hl : lv_has ls 2 [(0, .ref (mo 0)), (1, .int x1)] := hl
  refine lv_iload_n F.x F.b dX7_deposits_0 rfl (lv_at hl 1 rfl) ?_
  refine lv_iconst (v := 1) F.x F.b dX7_deposits_1 (by decide) ?_
  refine lv_sipush (v := 999) F.x F.b dX7_deposits_2 (by decide) ?_
  obtain ⟨r1, hc2, h⟩ := bd h
  try dsimp only at h
  refine kSi F w (t_X7_in F.1 hc2) m_X7_in v_X7_in q1633 (As := [.int x1, .int 1, .int 999]) (rest := []) ⟨Nat.le_of_ble_eq_true rfl, Nat.le_of_ble_eq_true rfl⟩ rfl hl.1 rfl (Nat.le_of_ble_eq_true rfl) dX7_deposits_5 ⟨Nat.le_of_ble_eq_true rfl, Nat.le_of_ble_eq_true rfl⟩ (fun H locs w => ?_)
  refine lv_if_ne (tgt := 13) F.x F.b dX7_deposits_8 (by decide) (fun c3 => ?_) (fun c3 => ?_)
  · have h := ie c3 h
    refine lv_aload_n F.x F.b dX7_deposits_13 rfl (lv_at hl 0 rfl) ?_
    refine rg F w cl7 0 (at_Mo_0 _ _ _) 1 (by decide) q1548 rfl (v := .ref (mo 1)) rfl dX7_deposits_14 ?_
    refine lv_iconst (v := 4) F.x F.b dX7_deposits_17 (by decide) ?_
    obtain ⟨g4, h⟩ := gd h
    refine ri F w 1 (n := 148) (f := M.2 0) (at_Mo_1 _ _ _) g4 dX7_deposits_18 ?_
    refine lv_iload_n F.x F.b dX7_deposits_19 rfl (lv_at hl 1 rfl) ?_
    refine lv_iadd F.x F.b dX7_deposits_20 ?_
    refine lv_sipush (v := 9999) F.x F.b dX7_deposits_21 (by decide) ?_
    refine lv_icmp_le (tgt := 29) F.x F.b dX7_deposits_24 (by decide) (fun c5 => ?_) (fun c5 => ?_)
    · have h := it c5 h
      refine lv_aload_n F.x F.b dX7_deposits_29 rfl (lv_at hl 0 rfl) ?_
      refine rg F w cl7 0 (at_Mo_0 _ _ _) 1 (by decide) q1548 rfl (v := .ref (mo 1)) rfl dX7_deposits_30 ?_
      refine lv_iconst (v := 4) F.x F.b dX7_deposits_33 (by decide) ?_
      refine lv_dup2_11 F.x F.b dX7_deposits_34 rfl rfl ?_
      obtain ⟨g6, h⟩ := gd h
      refine ri F w 1 (n := 148) (f := M.2 0) (at_Mo_1 _ _ _) g6 dX7_deposits_35 ?_
      refine lv_iload_n F.x F.b dX7_deposits_36 rfl (lv_at hl 1 rfl) ?_
      refine lv_iadd F.x F.b dX7_deposits_37 ?_
      obtain ⟨g7, h⟩ := gd h
      refine ris F w (ws' := wMo G.2.1 mo (wrA M 0 4 ((M.2 0 (Int32.toNatClampNeg 4)) + x1))) 1 (n := 148) (f := M.2 0) (at_Mo_1 _ _ _) g7 (st_Mo_1 _ _ _ _ _) dX7_deposits_38 (fun H locs w => ?_)
      refine lv_aload_n F.x F.b dX7_deposits_39 rfl (lv_at hl 0 rfl) ?_
      refine lv_aload_n F.x F.b dX7_deposits_40 rfl (lv_at hl 0 rfl) ?_
      refine rg F w cl7 0 (at_Mo_0 _ _ _) 1 (by decide) q1548 rfl (v := .ref (mo 1)) rfl dX7_deposits_41 ?_
      refine lv_iconst (v := 4) F.x F.b dX7_deposits_44 (by decide) ?_
      obtain ⟨g8, h⟩ := gd h
      refine ri F w 1 (n := 148) (f := (wrA M 0 4 ((M.2 0 (Int32.toNatClampNeg 4)) + x1)).2 0) (at_Mo_1 _ _ _) g8 dX7_deposits_45 ?_
      obtain ⟨⟨r9, M_10⟩, hc11, h⟩ := bd h
      try dsimp only at h
      refine kVi0 F w (As := [.int ((wrA M 0 4 ((M.2 0 (Int32.toNatClampNeg 4)) + x1)).2 0 (Int32.toNatClampNeg 4))]) (rest := []) (w1 := wMo G.2.1 mo M_10) (t_X7_done F.1 hc11) m_X7_done v_X7_done q1651 (ci := 11) (q0 := 0) rfl rfl rfl ⟨Nat.le_of_ble_eq_true rfl, Nat.le_of_ble_eq_true rfl⟩ rfl hl.1 rfl (Nat.le_of_ble_eq_true rfl) dX7_deposits_46 ⟨Nat.le_of_ble_eq_true rfl, Nat.le_of_ble_eq_true rfl⟩ (fun H locs w => ?_)
      obtain ⟨z0, z1⟩ := sm2 (sm h)
      exact ei F w hr hlocks rfl z0 (by rw [← z1]) dX7_deposits_49
    · have h := ie c5 h
      refine lv_iconst (v := 2) F.x F.b dX7_deposits_27 (by decide) ?_
      obtain ⟨z0, z1⟩ := sm2 (sm h)
      exact ei F w hr hlocks rfl z0 (by rw [← z1]) dX7_deposits_28
  · have h := it c3 h
    refine lv_iconst (v := 1) F.x F.b dX7_deposits_11 (by decide) ?_
    obtain ⟨z0, z1⟩ := sm2 (sm h)
    exact ei F w hr hlocks rfl z0 (by rw [← z1]) dX7_deposits_12
set_option maxRecDepth 100000 in
set_option maxHeartbeats 4000000 in
theorem t_X7_releases {G : cG} (g : GOK G) {mo : Nat → Nat} {M : Mem} {x1 : Int32} {r : Int32} {M' : Mem} (h : f_X7_releases M x1 = some (r, M')) : CI G yX7_releases cX7_releases 4 .int 3 64 [.ref (mo 0), .int x1] (wMo G.2.1 mo M) (wMo G.2.1 mo M') r := by
  unfold f_X7_releases at h
  refine CI.of g (by decide) rfl (Nat.le_of_ble_eq_true rfl) ?_
  intro p l e s m below meth c A ls F hr hlocks w hl
  generalize ([.ref (mo 0), .int x1] : List Value).toArray = args
  have hl : lv_has ls 4 [(0, .ref (mo 0)), (1, .int x1)] := hl
  refine lv_aload_n F.x F.b dX7_releases_0 rfl (lv_at hl 0 rfl) ?_
  refine lv_iload_n F.x F.b dX7_releases_1 rfl (lv_at hl 1 rfl) ?_
  obtain ⟨r1, hc2, h⟩ := bd h
  try dsimp only at h
  refine kVi0 F w (As := [.int x1]) (rest := []) (w1 := wMo G.2.1 mo M) (t_X7_placeOf F.1 hc2) m_X7_placeOf v_X7_placeOf q1675 (ci := 11) (q0 := 0) rfl rfl rfl ⟨Nat.le_of_ble_eq_true rfl, Nat.le_of_ble_eq_true rfl⟩ rfl hl.1 rfl (Nat.le_of_ble_eq_true rfl) dX7_releases_2 ⟨Nat.le_of_ble_eq_true rfl, Nat.le_of_ble_eq_true rfl⟩ (fun H locs w => ?_)
  refine lv_istore_n (lv' := [(2, .int r1), (0, .ref (mo 0)), (1, .int x1)]) F.x F.b dX7_releases_5 rfl hl (by decide) rfl (fun ls hl => ?_)
  refine lv_iload_n F.x F.b dX7_releases_6 rfl (lv_at hl 0 rfl) ?_
  refine lv_iconst (v := (-1)) F.x F.b dX7_releases_7 (by decide) ?_
  refine lv_icmp_ne (tgt := 13) F.x F.b dX7_releases_8 (by decide) (fun c3 => ?_) (fun c3 => ?_)
  · have h := ie c3 h
    refine lv_aload_n F.x F.b dX7_releases_13 rfl (lv_at hl 1 rfl) ?_
    refine lv_iload_n F.x F.b dX7_releases_14 rfl (lv_at hl 0 rfl) ?_
    obtain ⟨r4, hc5, h⟩ := bd h
    try dsimp only at h
    refine kVi0 F w (As := [.int r1]) (rest := []) (w1 := wMo G.2.1 mo M) (t_X7_owed F.1 hc5) m_X7_owed v_X7_owed q1812 (ci := 11) (q0 := 0) rfl rfl rfl ⟨Nat.le_of_ble_eq_true rfl, Nat.le_of_ble_eq_true rfl⟩ rfl hl.1 rfl (Nat.le_of_ble_eq_true rfl) dX7_releases_15 ⟨Nat.le_of_ble_eq_true rfl, Nat.le_of_ble_eq_true rfl⟩ (fun H locs w => ?_)
    refine lv_istore_n (lv' := [(3, .int r4), (2, .int r1), (0, .ref (mo 0)), (1, .int x1)]) F.x F.b dX7_releases_18 rfl hl (by decide) rfl (fun ls hl => ?_)
    refine lv_aload_n F.x F.b dX7_releases_19 rfl (lv_at hl 2 rfl) ?_
    refine rg F w cl7 0 (at_Mo_0 _ _ _) 1 (by decide) q1548 rfl (v := .ref (mo 1)) rfl dX7_releases_20 ?_
    refine lv_iconst (v := 4) F.x F.b dX7_releases_23 (by decide) ?_
    obtain ⟨g6, h⟩ := gd h
    refine ri F w 1 (n := 148) (f := M.2 0) (at_Mo_1 _ _ _) g6 dX7_releases_24 ?_
    refine lv_iload_n F.x F.b dX7_releases_25 rfl (lv_at hl 0 rfl) ?_
    refine lv_icmp_ge (tgt := 31) F.x F.b dX7_releases_26 (by decide) (fun c7 => ?_) (fun c7 => ?_)
    · have h := it c7 h
      refine lv_aload_n F.x F.b dX7_releases_31 rfl (lv_at hl 2 rfl) ?_
      refine rg F w cl7 0 (at_Mo_0 _ _ _) 1 (by decide) q1548 rfl (v := .ref (mo 1)) rfl dX7_releases_32 ?_
      refine lv_iconst (v := 4) F.x F.b dX7_releases_35 (by decide) ?_
      refine lv_dup2_11 F.x F.b dX7_releases_36 rfl rfl ?_
      obtain ⟨g8, h⟩ := gd h
      refine ri F w 1 (n := 148) (f := M.2 0) (at_Mo_1 _ _ _) g8 dX7_releases_37 ?_
      refine lv_iload_n F.x F.b dX7_releases_38 rfl (lv_at hl 0 rfl) ?_
      refine lv_isub F.x F.b dX7_releases_39 ?_
      obtain ⟨g9, h⟩ := gd h
      refine ris F w (ws' := wMo G.2.1 mo (wrA M 0 4 ((M.2 0 (Int32.toNatClampNeg 4)) - r4))) 1 (n := 148) (f := M.2 0) (at_Mo_1 _ _ _) g9 (st_Mo_1 _ _ _ _ _) dX7_releases_40 (fun H locs w => ?_)
      refine lv_aload_n F.x F.b dX7_releases_41 rfl (lv_at hl 2 rfl) ?_
      refine rg F w cl7 0 (at_Mo_0 _ _ _) 1 (by decide) q1548 rfl (v := .ref (mo 1)) rfl dX7_releases_42 ?_
      refine lv_iconst (v := 5) F.x F.b dX7_releases_45 (by decide) ?_
      refine lv_dup2_11 F.x F.b dX7_releases_46 rfl rfl ?_
      obtain ⟨g10, h⟩ := gd h
      refine ri F w 1 (n := 148) (f := (wrA M 0 4 ((M.2 0 (Int32.toNatClampNeg 4)) - r4)).2 0) (at_Mo_1 _ _ _) g10 dX7_releases_47 ?_
      refine lv_iload_n F.x F.b dX7_releases_48 rfl (lv_at hl 0 rfl) ?_
      refine lv_iadd F.x F.b dX7_releases_49 ?_
      obtain ⟨g11, h⟩ := gd h
      refine ris F w (ws' := wMo G.2.1 mo (wrA (wrA M 0 4 ((M.2 0 (Int32.toNatClampNeg 4)) - r4)) 0 5 (((wrA M 0 4 ((M.2 0 (Int32.toNatClampNeg 4)) - r4)).2 0 (Int32.toNatClampNeg 5)) + r4))) 1 (n := 148) (f := (wrA M 0 4 ((M.2 0 (Int32.toNatClampNeg 4)) - r4)).2 0) (at_Mo_1 _ _ _) g11 (st_Mo_1 _ _ _ _ _) dX7_releases_50 (fun H locs w => ?_)
      refine lv_aload_n F.x F.b dX7_releases_51 rfl (lv_at hl 2 rfl) ?_
      refine lv_iload_n F.x F.b dX7_releases_52 rfl (lv_at hl 1 rfl) ?_
      obtain ⟨M_12, hc13, h⟩ := bd h
      try dsimp only at h
      refine kVv0 F w (As := [.int r1]) (rest := []) (w1 := wMo G.2.1 mo M_12) (t_X7_leaves F.1 hc13) m_X7_leaves v_X7_leaves q1837 (ci := 11) (q0 := 0) rfl rfl rfl ⟨Nat.le_of_ble_eq_true rfl, Nat.le_of_ble_eq_true rfl⟩ rfl hl.1 rfl (Nat.le_of_ble_eq_true rfl) dX7_releases_53 ⟨Nat.le_of_ble_eq_true rfl, Nat.le_of_ble_eq_true rfl⟩ (fun H locs w => ?_)
      refine lv_aload_n F.x F.b dX7_releases_56 rfl (lv_at hl 2 rfl) ?_
      refine lv_iload_n F.x F.b dX7_releases_57 rfl (lv_at hl 0 rfl) ?_
      obtain ⟨⟨r14, M_15⟩, hc16, h⟩ := bd h
      try dsimp only at h
      refine kVi0 F w (As := [.int r4]) (rest := []) (w1 := wMo G.2.1 mo M_15) (t_X7_done F.1 hc16) m_X7_done v_X7_done q1651 (ci := 11) (q0 := 0) rfl rfl rfl ⟨Nat.le_of_ble_eq_true rfl, Nat.le_of_ble_eq_true rfl⟩ rfl hl.1 rfl (Nat.le_of_ble_eq_true rfl) dX7_releases_58 ⟨Nat.le_of_ble_eq_true rfl, Nat.le_of_ble_eq_true rfl⟩ (fun H locs w => ?_)
      obtain ⟨z0, z1⟩ := sm2 (sm h)
      exact ei F w hr hlocks rfl z0 (by rw [← z1]) dX7_releases_61
    · have h := ie c7 h
      refine lv_iconst (v := 2) F.x F.b dX7_releases_29 (by decide) ?_
      obtain ⟨z0, z1⟩ := sm2 (sm h)
      exact ei F w hr hlocks rfl z0 (by rw [← z1]) dX7_releases_30
  · have h := it c3 h
    refine lv_iconst (v := 1) F.x F.b dX7_releases_11 (by decide) ?_
    obtain ⟨z0, z1⟩ := sm2 (sm h)
    exact ei F w hr hlocks rfl z0 (by rw [← z1]) dX7_releases_12
set_option maxRecDepth 100000 in
set_option maxHeartbeats 4000000 in
theorem t_X7_addLot {G : cG} (g : GOK G) {mo : Nat → Nat} {M : Mem} {x1 x2 x3 x4 : Int32} {r : Int32} {M' : Mem} (h : f_X7_addLot M x1 x2 x3 x4 = some (r, M')) : CI G yX7_addLot cX7_addLot 5 .int 3 69 [.ref (mo 0), .int x1, .int x2, .int x3, .int x4] (wMo G.2.1 mo M) (wMo G.2.1 mo M') r := by
  unfold f_X7_addLot at h
  refine CI.of g (by decide) rfl (Nat.le_of_ble_eq_true rfl) ?_
  intro p l e s m below meth c A ls F hr hlocks w hl
  generalize ([.ref (mo 0), .int x1, .int x2, .int x3, .int x4] : List Value).toArray = args
  have hl : lv_has ls 5 [(0, .ref (mo 0)), (1, .int x1), (2, .int x2), (3, .int x3), (4, .int x4)] := hl
  refine lv_aload_n F.x F.b dX7_addLot_0 rfl (lv_at hl 0 rfl) ?_
  obtain ⟨M_1, hc2, h⟩ := bd h
  try dsimp only at h
  refine kVv0 F w (As := []) (rest := []) (w1 := wMo G.2.1 mo M_1) (t_X7_remembers F.1 hc2) m_X7_remembers v_X7_remembers q1622 (ci := 11) (q0 := 0) rfl rfl rfl ⟨Nat.le_of_ble_eq_true rfl, Nat.le_of_ble_eq_true rfl⟩ rfl hl.1 rfl (Nat.le_of_ble_eq_true rfl) dX7_addLot_1 ⟨Nat.le_of_ble_eq_true rfl, Nat.le_of_ble_eq_true rfl⟩ (fun H locs w => ?_)
  refine lv_aload_n F.x F.b dX7_addLot_4 rfl (lv_at hl 0 rfl) ?_
  refine lv_aload_n F.x F.b dX7_addLot_5 rfl (lv_at hl 0 rfl) ?_
  refine lv_iload_n F.x F.b dX7_addLot_6 rfl (lv_at hl 1 rfl) ?_
  refine lv_iload_n F.x F.b dX7_addLot_7 rfl (lv_at hl 2 rfl) ?_
  refine lv_iload_n F.x F.b dX7_addLot_8 rfl (lv_at hl 3 rfl) ?_
  refine lv_iload F.x F.b dX7_addLot_9 (lv_at hl 4 rfl) ?_
  obtain ⟨⟨r3, M_4⟩, hc5, h⟩ := bd h
  try dsimp only at h
  refine kVi0 F w (As := [.int x1, .int x2, .int x3, .int x4]) (rest := [.ref (mo 0)]) (w1 := wMo G.2.1 mo M_4) (t_X7_adds F.1 hc5) m_X7_adds v_X7_adds q1626 (ci := 11) (q0 := 0) rfl rfl rfl ⟨Nat.le_of_ble_eq_true rfl, Nat.le_of_ble_eq_true rfl⟩ rfl hl.1 rfl (Nat.le_of_ble_eq_true rfl) dX7_addLot_11 ⟨Nat.le_of_ble_eq_true rfl, Nat.le_of_ble_eq_true rfl⟩ (fun H locs w => ?_)
  obtain ⟨⟨r6, M_7⟩, hc8, h⟩ := bd h
  try dsimp only at h
  refine kVi0 F w (As := [.int r3]) (rest := []) (w1 := wMo G.2.1 mo M_7) (t_X7_ends F.1 hc8) m_X7_ends v_X7_ends q1655 (ci := 11) (q0 := 0) rfl rfl rfl ⟨Nat.le_of_ble_eq_true rfl, Nat.le_of_ble_eq_true rfl⟩ rfl hl.1 rfl (Nat.le_of_ble_eq_true rfl) dX7_addLot_14 ⟨Nat.le_of_ble_eq_true rfl, Nat.le_of_ble_eq_true rfl⟩ (fun H locs w => ?_)
  obtain ⟨z0, z1⟩ := sm2 (sm h)
  exact ei F w hr hlocks rfl z0 (by rw [← z1]) dX7_addLot_17
set_option maxRecDepth 100000 in
set_option maxHeartbeats 4000000 in
theorem t_X7_seal {G : cG} (g : GOK G) {mo : Nat → Nat} {M : Mem} {x1 : Int32} {r : Int32} {M' : Mem} (h : f_X7_seal M x1 = some (r, M')) : CI G yX7_seal cX7_seal 2 .int 3 67 [.ref (mo 0), .int x1] (wMo G.2.1 mo M) (wMo G.2.1 mo M') r := by
  unfold f_X7_seal at h
  refine CI.of g (by decide) rfl (Nat.le_of_ble_eq_true rfl) ?_
  intro p l e s m below meth c A ls F hr hlocks w hl
  generalize ([.ref (mo 0), .int x1] : List Value).toArray = args
  have hl : lv_has ls 2 [(0, .ref (mo 0)), (1, .int x1)] := hl
  refine lv_aload_n F.x F.b dX7_seal_0 rfl (lv_at hl 0 rfl) ?_
  obtain ⟨M_1, hc2, h⟩ := bd h
  try dsimp only at h
  refine kVv0 F w (As := []) (rest := []) (w1 := wMo G.2.1 mo M_1) (t_X7_remembers F.1 hc2) m_X7_remembers v_X7_remembers q1622 (ci := 11) (q0 := 0) rfl rfl rfl ⟨Nat.le_of_ble_eq_true rfl, Nat.le_of_ble_eq_true rfl⟩ rfl hl.1 rfl (Nat.le_of_ble_eq_true rfl) dX7_seal_1 ⟨Nat.le_of_ble_eq_true rfl, Nat.le_of_ble_eq_true rfl⟩ (fun H locs w => ?_)
  refine lv_aload_n F.x F.b dX7_seal_4 rfl (lv_at hl 0 rfl) ?_
  refine lv_aload_n F.x F.b dX7_seal_5 rfl (lv_at hl 0 rfl) ?_
  refine lv_iload_n F.x F.b dX7_seal_6 rfl (lv_at hl 1 rfl) ?_
  obtain ⟨⟨r3, M_4⟩, hc5, h⟩ := bd h
  try dsimp only at h
  refine kVi0 F w (As := [.int x1]) (rest := [.ref (mo 0)]) (w1 := wMo G.2.1 mo M_4) (t_X7_seals F.1 hc5) m_X7_seals v_X7_seals q1671 (ci := 11) (q0 := 0) rfl rfl rfl ⟨Nat.le_of_ble_eq_true rfl, Nat.le_of_ble_eq_true rfl⟩ rfl hl.1 rfl (Nat.le_of_ble_eq_true rfl) dX7_seal_7 ⟨Nat.le_of_ble_eq_true rfl, Nat.le_of_ble_eq_true rfl⟩ (fun H locs w => ?_)
  obtain ⟨⟨r6, M_7⟩, hc8, h⟩ := bd h
  try dsimp only at h
  refine kVi0 F w (As := [.int r3]) (rest := []) (w1 := wMo G.2.1 mo M_7) (t_X7_ends F.1 hc8) m_X7_ends v_X7_ends q1655 (ci := 11) (q0 := 0) rfl rfl rfl ⟨Nat.le_of_ble_eq_true rfl, Nat.le_of_ble_eq_true rfl⟩ rfl hl.1 rfl (Nat.le_of_ble_eq_true rfl) dX7_seal_10 ⟨Nat.le_of_ble_eq_true rfl, Nat.le_of_ble_eq_true rfl⟩ (fun H locs w => ?_)
  obtain ⟨z0, z1⟩ := sm2 (sm h)
  exact ei F w hr hlocks rfl z0 (by rw [← z1]) dX7_seal_13
set_option maxRecDepth 100000 in
set_option maxHeartbeats 4000000 in
theorem t_X7_open {G : cG} (g : GOK G) {mo : Nat → Nat} {M : Mem} {x1 : Int32} {r : Int32} {M' : Mem} (h : f_X7_open M x1 = some (r, M')) : CI G yX7_open cX7_open 2 .int 3 67 [.ref (mo 0), .int x1] (wMo G.2.1 mo M) (wMo G.2.1 mo M') r := by
  unfold f_X7_open at h
  refine CI.of g (by decide) rfl (Nat.le_of_ble_eq_true rfl) ?_
  intro p l e s m below meth c A ls F hr hlocks w hl
  generalize ([.ref (mo 0), .int x1] : List Value).toArray = args
  have hl : lv_has ls 2 [(0, .ref (mo 0)), (1, .int x1)] := hl
  refine lv_aload_n F.x F.b dX7_open_0 rfl (lv_at hl 0 rfl) ?_
  obtain ⟨M_1, hc2, h⟩ := bd h
  try dsimp only at h
  refine kVv0 F w (As := []) (rest := []) (w1 := wMo G.2.1 mo M_1) (t_X7_remembers F.1 hc2) m_X7_remembers v_X7_remembers q1622 (ci := 11) (q0 := 0) rfl rfl rfl ⟨Nat.le_of_ble_eq_true rfl, Nat.le_of_ble_eq_true rfl⟩ rfl hl.1 rfl (Nat.le_of_ble_eq_true rfl) dX7_open_1 ⟨Nat.le_of_ble_eq_true rfl, Nat.le_of_ble_eq_true rfl⟩ (fun H locs w => ?_)
  refine lv_aload_n F.x F.b dX7_open_4 rfl (lv_at hl 0 rfl) ?_
  refine lv_aload_n F.x F.b dX7_open_5 rfl (lv_at hl 0 rfl) ?_
  refine lv_iload_n F.x F.b dX7_open_6 rfl (lv_at hl 1 rfl) ?_
  obtain ⟨⟨r3, M_4⟩, hc5, h⟩ := bd h
  try dsimp only at h
  refine kVi0 F w (As := [.int x1]) (rest := [.ref (mo 0)]) (w1 := wMo G.2.1 mo M_4) (t_X7_opens F.1 hc5) m_X7_opens v_X7_opens q1687 (ci := 11) (q0 := 0) rfl rfl rfl ⟨Nat.le_of_ble_eq_true rfl, Nat.le_of_ble_eq_true rfl⟩ rfl hl.1 rfl (Nat.le_of_ble_eq_true rfl) dX7_open_7 ⟨Nat.le_of_ble_eq_true rfl, Nat.le_of_ble_eq_true rfl⟩ (fun H locs w => ?_)
  obtain ⟨⟨r6, M_7⟩, hc8, h⟩ := bd h
  try dsimp only at h
  refine kVi0 F w (As := [.int r3]) (rest := []) (w1 := wMo G.2.1 mo M_7) (t_X7_ends F.1 hc8) m_X7_ends v_X7_ends q1655 (ci := 11) (q0 := 0) rfl rfl rfl ⟨Nat.le_of_ble_eq_true rfl, Nat.le_of_ble_eq_true rfl⟩ rfl hl.1 rfl (Nat.le_of_ble_eq_true rfl) dX7_open_10 ⟨Nat.le_of_ble_eq_true rfl, Nat.le_of_ble_eq_true rfl⟩ (fun H locs w => ?_)
  obtain ⟨z0, z1⟩ := sm2 (sm h)
  exact ei F w hr hlocks rfl z0 (by rw [← z1]) dX7_open_13
set_option maxRecDepth 100000 in
set_option maxHeartbeats 4000000 in
theorem t_X7_wet {G : cG} (g : GOK G) {mo : Nat → Nat} {M : Mem} {x1 : Int32} {r : Int32} {M' : Mem} (h : f_X7_wet M x1 = some (r, M')) : CI G yX7_wet cX7_wet 2 .int 3 67 [.ref (mo 0), .int x1] (wMo G.2.1 mo M) (wMo G.2.1 mo M') r := by
  unfold f_X7_wet at h
  refine CI.of g (by decide) rfl (Nat.le_of_ble_eq_true rfl) ?_
  intro p l e s m below meth c A ls F hr hlocks w hl
  generalize ([.ref (mo 0), .int x1] : List Value).toArray = args
  have hl : lv_has ls 2 [(0, .ref (mo 0)), (1, .int x1)] := hl
  refine lv_aload_n F.x F.b dX7_wet_0 rfl (lv_at hl 0 rfl) ?_
  obtain ⟨M_1, hc2, h⟩ := bd h
  try dsimp only at h
  refine kVv0 F w (As := []) (rest := []) (w1 := wMo G.2.1 mo M_1) (t_X7_remembers F.1 hc2) m_X7_remembers v_X7_remembers q1622 (ci := 11) (q0 := 0) rfl rfl rfl ⟨Nat.le_of_ble_eq_true rfl, Nat.le_of_ble_eq_true rfl⟩ rfl hl.1 rfl (Nat.le_of_ble_eq_true rfl) dX7_wet_1 ⟨Nat.le_of_ble_eq_true rfl, Nat.le_of_ble_eq_true rfl⟩ (fun H locs w => ?_)
  refine lv_aload_n F.x F.b dX7_wet_4 rfl (lv_at hl 0 rfl) ?_
  refine lv_aload_n F.x F.b dX7_wet_5 rfl (lv_at hl 0 rfl) ?_
  refine lv_iload_n F.x F.b dX7_wet_6 rfl (lv_at hl 1 rfl) ?_
  obtain ⟨⟨r3, M_4⟩, hc5, h⟩ := bd h
  try dsimp only at h
  refine kVi0 F w (As := [.int x1]) (rest := [.ref (mo 0)]) (w1 := wMo G.2.1 mo M_4) (t_X7_wets F.1 hc5) m_X7_wets v_X7_wets q1695 (ci := 11) (q0 := 0) rfl rfl rfl ⟨Nat.le_of_ble_eq_true rfl, Nat.le_of_ble_eq_true rfl⟩ rfl hl.1 rfl (Nat.le_of_ble_eq_true rfl) dX7_wet_7 ⟨Nat.le_of_ble_eq_true rfl, Nat.le_of_ble_eq_true rfl⟩ (fun H locs w => ?_)
  obtain ⟨⟨r6, M_7⟩, hc8, h⟩ := bd h
  try dsimp only at h
  refine kVi0 F w (As := [.int r3]) (rest := []) (w1 := wMo G.2.1 mo M_7) (t_X7_ends F.1 hc8) m_X7_ends v_X7_ends q1655 (ci := 11) (q0 := 0) rfl rfl rfl ⟨Nat.le_of_ble_eq_true rfl, Nat.le_of_ble_eq_true rfl⟩ rfl hl.1 rfl (Nat.le_of_ble_eq_true rfl) dX7_wet_10 ⟨Nat.le_of_ble_eq_true rfl, Nat.le_of_ble_eq_true rfl⟩ (fun H locs w => ?_)
  obtain ⟨z0, z1⟩ := sm2 (sm h)
  exact ei F w hr hlocks rfl z0 (by rw [← z1]) dX7_wet_13
set_option maxRecDepth 100000 in
set_option maxHeartbeats 4000000 in
theorem t_X7_move {G : cG} (g : GOK G) {mo : Nat → Nat} {M : Mem} {x1 x2 : Int32} {r : Int32} {M' : Mem} (h : f_X7_move M x1 x2 = some (r, M')) : CI G yX7_move cX7_move 3 .int 3 68 [.ref (mo 0), .int x1, .int x2] (wMo G.2.1 mo M) (wMo G.2.1 mo M') r := by
  unfold f_X7_move at h
  refine CI.of g (by decide) rfl (Nat.le_of_ble_eq_true rfl) ?_
  intro p l e s m below meth c A ls F hr hlocks w hl
  generalize ([.ref (mo 0), .int x1, .int x2] : List Value).toArray = args
  have hl : lv_has ls 3 [(0, .ref (mo 0)), (1, .int x1), (2, .int x2)] := hl
  refine lv_aload_n F.x F.b dX7_move_0 rfl (lv_at hl 0 rfl) ?_
  obtain ⟨M_1, hc2, h⟩ := bd h
  try dsimp only at h
  refine kVv0 F w (As := []) (rest := []) (w1 := wMo G.2.1 mo M_1) (t_X7_remembers F.1 hc2) m_X7_remembers v_X7_remembers q1622 (ci := 11) (q0 := 0) rfl rfl rfl ⟨Nat.le_of_ble_eq_true rfl, Nat.le_of_ble_eq_true rfl⟩ rfl hl.1 rfl (Nat.le_of_ble_eq_true rfl) dX7_move_1 ⟨Nat.le_of_ble_eq_true rfl, Nat.le_of_ble_eq_true rfl⟩ (fun H locs w => ?_)
  refine lv_aload_n F.x F.b dX7_move_4 rfl (lv_at hl 0 rfl) ?_
  refine lv_aload_n F.x F.b dX7_move_5 rfl (lv_at hl 0 rfl) ?_
  refine lv_iload_n F.x F.b dX7_move_6 rfl (lv_at hl 1 rfl) ?_
  refine lv_iload_n F.x F.b dX7_move_7 rfl (lv_at hl 2 rfl) ?_
  obtain ⟨⟨r3, M_4⟩, hc5, h⟩ := bd h
  try dsimp only at h
  refine kVi0 F w (As := [.int x1, .int x2]) (rest := [.ref (mo 0)]) (w1 := wMo G.2.1 mo M_4) (t_X7_moves F.1 hc5) m_X7_moves v_X7_moves q1703 (ci := 11) (q0 := 0) rfl rfl rfl ⟨Nat.le_of_ble_eq_true rfl, Nat.le_of_ble_eq_true rfl⟩ rfl hl.1 rfl (Nat.le_of_ble_eq_true rfl) dX7_move_8 ⟨Nat.le_of_ble_eq_true rfl, Nat.le_of_ble_eq_true rfl⟩ (fun H locs w => ?_)
  obtain ⟨⟨r6, M_7⟩, hc8, h⟩ := bd h
  try dsimp only at h
  refine kVi0 F w (As := [.int r3]) (rest := []) (w1 := wMo G.2.1 mo M_7) (t_X7_ends F.1 hc8) m_X7_ends v_X7_ends q1655 (ci := 11) (q0 := 0) rfl rfl rfl ⟨Nat.le_of_ble_eq_true rfl, Nat.le_of_ble_eq_true rfl⟩ rfl hl.1 rfl (Nat.le_of_ble_eq_true rfl) dX7_move_11 ⟨Nat.le_of_ble_eq_true rfl, Nat.le_of_ble_eq_true rfl⟩ (fun H locs w => ?_)
  obtain ⟨z0, z1⟩ := sm2 (sm h)
  exact ei F w hr hlocks rfl z0 (by rw [← z1]) dX7_move_14
set_option maxRecDepth 100000 in
set_option maxHeartbeats 4000000 in
theorem t_X7_lotCount {G : cG} (g : GOK G) {mo : Nat → Nat} {M : Mem} {r : Int32} {M' : Mem} (h : f_X7_lotCount M = some (r, M')) : CI G yX7_lotCount cX7_lotCount 1 .int 0 0 [.ref (mo 0)] (wMo G.2.1 mo M) (wMo G.2.1 mo M') r := by
  unfold f_X7_lotCount at h
  refine CI.of g (by decide) rfl (Nat.le_of_ble_eq_true rfl) ?_
  intro p l e s m below meth c A ls F hr hlocks w hl
  generalize ([.ref (mo 0)] : List Value).toArray = args
  have hl : lv_has ls 1 [(0, .ref (mo 0))] := hl
  refine lv_aload_n F.x F.b dX7_lotCount_0 rfl (lv_at hl 0 rfl) ?_
  refine lv_iconst (v := 0) F.x F.b dX7_lotCount_1 (by decide) ?_
  refine rp F w (ws' := wMo G.2.1 mo (wrI M 0 0)) cl7 0 (at_Mo_0 _ _ _) 0 (by decide) q1547 rfl rfl rfl rfl (Nat.le_of_ble_eq_true rfl) (pt_Mo_0_0 _ _ _ _) dX7_lotCount_2 (fun H locs w => ?_)
  refine lv_aload_n F.x F.b dX7_lotCount_5 rfl (lv_at hl 0 rfl) ?_
  refine rg F w cl7 0 (at_Mo_0 _ _ _) 1 (by decide) q1548 rfl (v := .ref (mo 1)) rfl dX7_lotCount_6 ?_
  refine lv_iconst (v := 1) F.x F.b dX7_lotCount_9 (by decide) ?_
  obtain ⟨g1, h⟩ := gd h
  refine ri F w 1 (n := 148) (f := (wrI M 0 0).2 0) (at_Mo_1 _ _ _) g1 dX7_lotCount_10 ?_
  obtain ⟨z0, z1⟩ := sm2 (sm h)
  exact ei F w hr hlocks rfl z0 (by rw [← z1]) dX7_lotCount_11

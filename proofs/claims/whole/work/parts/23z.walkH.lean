/-! printed by wip/whole/tools/emit.py: the walks -/
set_option maxRecDepth 100000 in
set_option maxHeartbeats 4000000 in
theorem t_X7_fails {G : cG} (g : GOK G) {mo : Nat → Nat} {M : Mem} {x1 : Int32} {r : Int32} {M' : Mem} (h : f_X7_fails M x1 = some (r, M')) : CI G yX7_fails cX7_fails 2 .int 0 0 [.ref (mo 0), .int x1] (wMo G.2.1 mo M) (wMo G.2.1 mo M') r := by
  unfold f_X7_fails at h
  refine CI.of g (by decide) rfl (Nat.le_of_ble_eq_true rfl) ?_
  intro p l e s m below meth c A ls F hr hlocks w hl
  generalize ([.ref (mo 0), .int x1] : List Value).toArray = args
  have hl : lv_has ls 2 [(0, .ref (mo 0)), (1, .int x1)] := hl
  refine lv_aload_n F.x F.b dX7_fails_0 rfl (lv_at hl 0 rfl) ?_
  refine lv_iload_n F.x F.b dX7_fails_1 rfl (lv_at hl 1 rfl) ?_
  refine rp F w (ws' := wMo G.2.1 mo (wrI M 0 x1)) cl7 0 (at_Mo_0 _ _ _) 0 (by decide) q1547 rfl rfl rfl rfl (Nat.le_of_ble_eq_true rfl) (pt_Mo_0_0 _ _ _ _) dX7_fails_2 (fun H locs w => ?_)
  refine lv_iconst (v := 0) F.x F.b dX7_fails_5 (by decide) ?_
  obtain ⟨z0, z1⟩ := sm2 (sm h)
  exact ei F w hr hlocks rfl z0 (by rw [← z1]) dX7_fails_6
set_option maxRecDepth 100000 in
set_option maxHeartbeats 4000000 in
theorem t_X7_in {G : cG} (g : GOK G) {x0 x1 x2 : Int32} {r : Int32} (h : f_X7_in x0 x1 x2 = some r) : CI G yX7_in cX7_in 3 .boolean 0 0 [.int x0, .int x1, .int x2] ([]) ([]) r := by
  unfold f_X7_in at h
  refine CI.of g (by decide) rfl (Nat.le_of_ble_eq_true rfl) ?_
  intro p l e s m below meth c A ls F hr hlocks w hl
  generalize ([.int x0, .int x1, .int x2] : List Value).toArray = args
  have hl : lv_has ls 3 [(0, .int x0), (1, .int x1), (2, .int x2)] := hl
  refine lv_iload_n F.x F.b dX7_in_0 rfl (lv_at hl 0 rfl) ?_
  refine lv_iload_n F.x F.b dX7_in_1 rfl (lv_at hl 1 rfl) ?_
  refine lv_icmp_lt (tgt := 14) F.x F.b dX7_in_2 (by decide) (fun c1 => ?_) (fun c1 => ?_)
  · have h := it c1 h
    refine lv_iconst (v := 0) F.x F.b dX7_in_14 (by decide) ?_
    have z0 := sm h
    exact ei F w hr hlocks rfl z0 rfl dX7_in_15
  · have h := ie c1 h
    refine lv_iload_n F.x F.b dX7_in_5 rfl (lv_at hl 0 rfl) ?_
    refine lv_iload_n F.x F.b dX7_in_6 rfl (lv_at hl 2 rfl) ?_
    refine lv_icmp_gt (tgt := 14) F.x F.b dX7_in_7 (by decide) (fun c2 => ?_) (fun c2 => ?_)
    · have h := it c2 h
      refine lv_iconst (v := 0) F.x F.b dX7_in_14 (by decide) ?_
      have z0 := sm h
      exact ei F w hr hlocks rfl z0 rfl dX7_in_15
    · have h := ie c2 h
      refine lv_iconst (v := 1) F.x F.b dX7_in_10 (by decide) ?_
      refine lv_goto (tgt := 15) F.x F.b dX7_in_11 (by decide) ?_
      have z0 := sm h
      exact ei F w hr hlocks rfl z0 rfl dX7_in_15
set_option maxRecDepth 100000 in
set_option maxHeartbeats 4000000 in
theorem t_X7_done {G : cG} (g : GOK G) {mo : Nat → Nat} {M : Mem} {x1 : Int32} {r : Int32} {M' : Mem} (h : f_X7_done M x1 = some (r, M')) : CI G yX7_done cX7_done 2 .int 0 0 [.ref (mo 0), .int x1] (wMo G.2.1 mo M) (wMo G.2.1 mo M') r := by
  unfold f_X7_done at h
  refine CI.of g (by decide) rfl (Nat.le_of_ble_eq_true rfl) ?_
  intro p l e s m below meth c A ls F hr hlocks w hl
  generalize ([.ref (mo 0), .int x1] : List Value).toArray = args
  have hl : lv_has ls 2 [(0, .ref (mo 0)), (1, .int x1)] := hl
  refine lv_aload_n F.x F.b dX7_done_0 rfl (lv_at hl 0 rfl) ?_
  refine lv_iload_n F.x F.b dX7_done_1 rfl (lv_at hl 1 rfl) ?_
  refine rp F w (ws' := wMo G.2.1 mo (wrI M 7 x1)) cl7 0 (at_Mo_0 _ _ _) 17 (by decide) q1564 rfl rfl rfl rfl (Nat.le_of_ble_eq_true rfl) (pt_Mo_0_17 _ _ _ _) dX7_done_2 (fun H locs w => ?_)
  refine lv_iconst (v := 0) F.x F.b dX7_done_5 (by decide) ?_
  obtain ⟨z0, z1⟩ := sm2 (sm h)
  exact ei F w hr hlocks rfl z0 (by rw [← z1]) dX7_done_6
set_option maxRecDepth 100000 in
set_option maxHeartbeats 4000000 in
theorem t_X7_addsStep {G : cG} (g : GOK G) {mo : Nat → Nat} {M : Mem} {x1 x2 : Int32} {r : Int32} {M' : Mem} (h : f_X7_addsStep M x1 x2 = some (r, M')) : CI G yX7_addsStep cX7_addsStep 5 .int 1 22 [.ref (mo 0), .int x1, .int x2] (wMo G.2.1 mo M) (wMo G.2.1 mo M') r := by
  unfold f_X7_addsStep at h
  refine CI.of g (by decide) rfl (Nat.le_of_ble_eq_true rfl) ?_
  intro p l e s m below meth c A ls F hr hlocks w hl
  generalize ([.ref (mo 0), .int x1, .int x2] : List Value).toArray = args
  have hl : lv_has ls 5 [(0, .ref (mo 0)), (1, .int x1), (2, .int x2)] := hl
  have L33 : ∀ (x1 : Int32) (x2 : Int32) (x3 : Int32) (M : Mem) {k : Option (Int32 × Mem)} (n : Nat) (x4 : Int32) (H : Heap) (locs : List Loc) (ls : Array Slot), Wd G A s.heap (wMo G.2.1 mo M) H locs → lv_has ls 5 [(0, .ref (mo 0)), (1, .int x1), (2, .int x2), (3, .int x3), (4, .int x4)] → f_X7_addsStep_L33 x1 x2 x3 M k n x4 = some (r, M') → (∀ (H : Heap) (locs : List Loc) (ls : Array Slot), Wd G A s.heap (wMo G.2.1 mo M) H locs → lv_has ls 5 [(0, .ref (mo 0)), (1, .int x1), (2, .int x2), (3, .int x3)] → k = some (r, M') → W p l e { frames := 1, cells := 0, slots := 0, locals := 22 } s m args below meth c H locs 0 0 (QI G A (wMo G.2.1 mo M') r below args s) (F0 m 63 ls [])) → W p l e { frames := 1, cells := 0, slots := 0, locals := 22 } s m args below meth c H locs 0 0 (QI G A (wMo G.2.1 mo M') r below args s) (F0 m 33 ls []) := by
    clear h w hl
    intro x1 x2 x3 M k n
    induction n with
    | zero =>
      intro x4 H locs ls w hl h hk
      exact nomatch (show (none : Option (Int32 × Mem)) = some (r, M') from h)
    | succ n ih =>
      intro x4 H locs ls w hl h hk
      rw [f_X7_addsStep_L33] at h
      refine lv_iload F.x F.b dX7_addsStep_33 (lv_at hl 4 rfl) ?_
      refine lv_iload_n F.x F.b dX7_addsStep_35 rfl (lv_at hl 3 rfl) ?_
      refine lv_icmp_ge (tgt := 63) F.x F.b dX7_addsStep_36 (by decide) (fun c8 => ?_) (fun c8 => ?_)
      · have h := it c8 h
        exact hk _ _ _ w (lv_sub hl [0, 1, 2, 3] rfl) h
      · have h := ie c8 h
        refine lv_aload_n F.x F.b dX7_addsStep_39 rfl (lv_at hl 0 rfl) ?_
        refine rg F w cl7 0 (at_Mo_0 _ _ _) 1 (by decide) q1548 rfl (v := .ref (mo 1)) rfl dX7_addsStep_40 ?_
        refine lv_bipush (v := 120) F.x F.b dX7_addsStep_43 (by decide) ?_
        refine lv_iconst (v := 2) F.x F.b dX7_addsStep_45 (by decide) ?_
        refine lv_iload F.x F.b dX7_addsStep_46 (lv_at hl 4 rfl) ?_
        refine lv_imul F.x F.b dX7_addsStep_48 ?_
        refine lv_iadd F.x F.b dX7_addsStep_49 ?_
        obtain ⟨g9, h⟩ := gd h
        refine ri F w 1 (n := 148) (f := M.2 0) (at_Mo_1 _ _ _) g9 dX7_addsStep_50 ?_
        refine lv_iload_n F.x F.b dX7_addsStep_51 rfl (lv_at hl 1 rfl) ?_
        refine lv_icmp_ne (tgt := 57) F.x F.b dX7_addsStep_52 (by decide) (fun c10 => ?_) (fun c10 => ?_)
        · have h := ie c10 h
          refine lv_iinc (v := (x4 + 1)) (lv' := [(4, .int (x4 + 1)), (0, .ref (mo 0)), (1, .int x1), (2, .int x2), (3, .int x3)]) F.x F.b dX7_addsStep_57 hl (k := 4) rfl rfl (by decide) rfl (fun ls hl => ?_)
          refine lv_goto (tgt := 33) F.x F.b dX7_addsStep_60 (by decide) ?_
          exact ih (x4 + 1) _ _ _ w (lv_sub hl [1, 2, 3, 4, 0] rfl) h hk
        · have h := it c10 h
          refine lv_iconst (v := 2) F.x F.b dX7_addsStep_55 (by decide) ?_
          obtain ⟨z0, z1⟩ := sm2 (sm h)
          exact ei F w hr hlocks rfl z0 (by rw [← z1]) dX7_addsStep_56
  have L71 : ∀ (x1 : Int32) (x2 : Int32) {k : Int32 → Mem → Option (Int32 × Mem)} (n : Nat) (x3 : Int32) (M : Mem) (H : Heap) (locs : List Loc) (ls : Array Slot), Wd G A s.heap (wMo G.2.1 mo M) H locs → lv_has ls 5 [(0, .ref (mo 0)), (1, .int x1), (2, .int x2), (3, .int x3)] → f_X7_addsStep_L71 x1 x2 k n x3 M = some (r, M') → (∀ (x3 : Int32) (M : Mem) (H : Heap) (locs : List Loc) (ls : Array Slot), Wd G A s.heap (wMo G.2.1 mo M) H locs → lv_has ls 5 [(0, .ref (mo 0)), (1, .int x1), (2, .int x2), (3, .int x3)] → k x3 M = some (r, M') → W p l e { frames := 1, cells := 0, slots := 0, locals := 22 } s m args below meth c H locs 0 0 (QI G A (wMo G.2.1 mo M') r below args s) (F0 m 148 ls [])) → W p l e { frames := 1, cells := 0, slots := 0, locals := 22 } s m args below meth c H locs 0 0 (QI G A (wMo G.2.1 mo M') r below args s) (F0 m 71 ls []) := by
    clear h w hl
    intro x1 x2 k n
    induction n with
    | zero =>
      intro x3 M H locs ls w hl h hk
      exact nomatch (show (none : Option (Int32 × Mem)) = some (r, M') from h)
    | succ n ih =>
      intro x3 M H locs ls w hl h hk
      rw [f_X7_addsStep_L71] at h
      refine lv_iload_n F.x F.b dX7_addsStep_71 rfl (lv_at hl 3 rfl) ?_
      refine lv_if_le (tgt := 148) F.x F.b dX7_addsStep_72 (by decide) (fun c13 => ?_) (fun c13 => ?_)
      · have h := it c13 h
        exact hk x3 M _ _ _ w (lv_sub hl [0, 1, 2, 3] rfl) h
      · have h := ie c13 h
        refine lv_aload_n F.x F.b dX7_addsStep_75 rfl (lv_at hl 0 rfl) ?_
        refine rg F w cl7 0 (at_Mo_0 _ _ _) 1 (by decide) q1548 rfl (v := .ref (mo 1)) rfl dX7_addsStep_76 ?_
        refine lv_bipush (v := 120) F.x F.b dX7_addsStep_79 (by decide) ?_
        refine lv_iconst (v := 2) F.x F.b dX7_addsStep_81 (by decide) ?_
        refine lv_iload_n F.x F.b dX7_addsStep_82 rfl (lv_at hl 3 rfl) ?_
        refine lv_imul F.x F.b dX7_addsStep_83 ?_
        refine lv_iadd F.x F.b dX7_addsStep_84 ?_
        refine lv_iconst (v := 2) F.x F.b dX7_addsStep_85 (by decide) ?_
        refine lv_isub F.x F.b dX7_addsStep_86 ?_
        obtain ⟨g14, h⟩ := gd h
        refine ri F w 1 (n := 148) (f := M.2 0) (at_Mo_1 _ _ _) g14 dX7_addsStep_87 ?_
        refine lv_iload_n F.x F.b dX7_addsStep_88 rfl (lv_at hl 1 rfl) ?_
        refine lv_icmp_le (tgt := 148) F.x F.b dX7_addsStep_89 (by decide) (fun c15 => ?_) (fun c15 => ?_)
        · have h := it c15 h
          exact hk x3 M _ _ _ w (lv_sub hl [0, 1, 2, 3] rfl) h
        · have h := ie c15 h
          refine lv_aload_n F.x F.b dX7_addsStep_92 rfl (lv_at hl 0 rfl) ?_
          refine rg F w cl7 0 (at_Mo_0 _ _ _) 1 (by decide) q1548 rfl (v := .ref (mo 1)) rfl dX7_addsStep_93 ?_
          refine lv_bipush (v := 120) F.x F.b dX7_addsStep_96 (by decide) ?_
          refine lv_iconst (v := 2) F.x F.b dX7_addsStep_98 (by decide) ?_
          refine lv_iload_n F.x F.b dX7_addsStep_99 rfl (lv_at hl 3 rfl) ?_
          refine lv_imul F.x F.b dX7_addsStep_100 ?_
          refine lv_iadd F.x F.b dX7_addsStep_101 ?_
          refine lv_aload_n F.x F.b dX7_addsStep_102 rfl (lv_at hl 0 rfl) ?_
          refine rg F w cl7 0 (at_Mo_0 _ _ _) 1 (by decide) q1548 rfl (v := .ref (mo 1)) rfl dX7_addsStep_103 ?_
          refine lv_bipush (v := 120) F.x F.b dX7_addsStep_106 (by decide) ?_
          refine lv_iconst (v := 2) F.x F.b dX7_addsStep_108 (by decide) ?_
          refine lv_iload_n F.x F.b dX7_addsStep_109 rfl (lv_at hl 3 rfl) ?_
          refine lv_imul F.x F.b dX7_addsStep_110 ?_
          refine lv_iadd F.x F.b dX7_addsStep_111 ?_
          refine lv_iconst (v := 2) F.x F.b dX7_addsStep_112 (by decide) ?_
          refine lv_isub F.x F.b dX7_addsStep_113 ?_
          obtain ⟨g16, h⟩ := gd h
          refine ri F w 1 (n := 148) (f := M.2 0) (at_Mo_1 _ _ _) g16 dX7_addsStep_114 ?_
          obtain ⟨g17, h⟩ := gd h
          refine ris F w (ws' := wMo G.2.1 mo (wrA M 0 (120 + (2 * x3)) (M.2 0 (Int32.toNatClampNeg ((120 + (2 * x3)) - 2))))) 1 (n := 148) (f := M.2 0) (at_Mo_1 _ _ _) g17 (st_Mo_1 _ _ _ _ _) dX7_addsStep_115 (fun H locs w => ?_)
          refine lv_aload_n F.x F.b dX7_addsStep_116 rfl (lv_at hl 0 rfl) ?_
          refine rg F w cl7 0 (at_Mo_0 _ _ _) 1 (by decide) q1548 rfl (v := .ref (mo 1)) rfl dX7_addsStep_117 ?_
          refine lv_bipush (v := 120) F.x F.b dX7_addsStep_120 (by decide) ?_
          refine lv_iconst (v := 2) F.x F.b dX7_addsStep_122 (by decide) ?_
          refine lv_iload_n F.x F.b dX7_addsStep_123 rfl (lv_at hl 3 rfl) ?_
          refine lv_imul F.x F.b dX7_addsStep_124 ?_
          refine lv_iadd F.x F.b dX7_addsStep_125 ?_
          refine lv_iconst (v := 1) F.x F.b dX7_addsStep_126 (by decide) ?_
          refine lv_iadd F.x F.b dX7_addsStep_127 ?_
          refine lv_aload_n F.x F.b dX7_addsStep_128 rfl (lv_at hl 0 rfl) ?_
          refine rg F w cl7 0 (at_Mo_0 _ _ _) 1 (by decide) q1548 rfl (v := .ref (mo 1)) rfl dX7_addsStep_129 ?_
          refine lv_bipush (v := 120) F.x F.b dX7_addsStep_132 (by decide) ?_
          refine lv_iconst (v := 2) F.x F.b dX7_addsStep_134 (by decide) ?_
          refine lv_iload_n F.x F.b dX7_addsStep_135 rfl (lv_at hl 3 rfl) ?_
          refine lv_imul F.x F.b dX7_addsStep_136 ?_
          refine lv_iadd F.x F.b dX7_addsStep_137 ?_
          refine lv_iconst (v := 1) F.x F.b dX7_addsStep_138 (by decide) ?_
          refine lv_isub F.x F.b dX7_addsStep_139 ?_
          obtain ⟨g18, h⟩ := gd h
          refine ri F w 1 (n := 148) (f := (wrA M 0 (120 + (2 * x3)) (M.2 0 (Int32.toNatClampNeg ((120 + (2 * x3)) - 2)))).2 0) (at_Mo_1 _ _ _) g18 dX7_addsStep_140 ?_
          obtain ⟨g19, h⟩ := gd h
          refine ris F w (ws' := wMo G.2.1 mo (wrA (wrA M 0 (120 + (2 * x3)) (M.2 0 (Int32.toNatClampNeg ((120 + (2 * x3)) - 2)))) 0 ((120 + (2 * x3)) + 1) ((wrA M 0 (120 + (2 * x3)) (M.2 0 (Int32.toNatClampNeg ((120 + (2 * x3)) - 2)))).2 0 (Int32.toNatClampNeg ((120 + (2 * x3)) - 1))))) 1 (n := 148) (f := (wrA M 0 (120 + (2 * x3)) (M.2 0 (Int32.toNatClampNeg ((120 + (2 * x3)) - 2)))).2 0) (at_Mo_1 _ _ _) g19 (st_Mo_1 _ _ _ _ _) dX7_addsStep_141 (fun H locs w => ?_)
          refine lv_iinc (v := (x3 + (-1))) (lv' := [(3, .int (x3 + (-1))), (0, .ref (mo 0)), (1, .int x1), (2, .int x2)]) F.x F.b dX7_addsStep_142 hl (k := 3) rfl rfl (by decide) rfl (fun ls hl => ?_)
          refine lv_goto (tgt := 71) F.x F.b dX7_addsStep_145 (by decide) ?_
          exact ih (x3 + (-1)) (wrA (wrA M 0 (120 + (2 * x3)) (M.2 0 (Int32.toNatClampNeg ((120 + (2 * x3)) - 2)))) 0 ((120 + (2 * x3)) + 1) ((wrA M 0 (120 + (2 * x3)) (M.2 0 (Int32.toNatClampNeg ((120 + (2 * x3)) - 2)))).2 0 (Int32.toNatClampNeg ((120 + (2 * x3)) - 1)))) _ _ _ w (lv_sub hl [1, 2, 3, 0] rfl) h hk
  refine lv_iload_n F.x F.b dX7_addsStep_0 rfl (lv_at hl 1 rfl) ?_
  refine lv_iconst (v := 0) F.x F.b dX7_addsStep_1 (by decide) ?_
  refine lv_sipush (v := 9999) F.x F.b dX7_addsStep_2 (by decide) ?_
  obtain ⟨r1, hc2, h⟩ := bd h
  try dsimp only at h
  refine kSi F w (t_X7_in F.1 hc2) m_X7_in v_X7_in q1633 (As := [.int x1, .int 0, .int 9999]) (rest := []) ⟨Nat.le_of_ble_eq_true rfl, Nat.le_of_ble_eq_true rfl⟩ rfl hl.1 rfl (Nat.le_of_ble_eq_true rfl) dX7_addsStep_5 ⟨Nat.le_of_ble_eq_true rfl, Nat.le_of_ble_eq_true rfl⟩ (fun H locs w => ?_)
  refine lv_if_eq (tgt := 21) F.x F.b dX7_addsStep_8 (by decide) (fun c3 => ?_) (fun c3 => ?_)
  · have h := it c3 h
    refine lv_iconst (v := 1) F.x F.b dX7_addsStep_21 (by decide) ?_
    obtain ⟨z0, z1⟩ := sm2 (sm h)
    exact ei F w hr hlocks rfl z0 (by rw [← z1]) dX7_addsStep_22
  · have h := ie c3 h
    refine lv_iload_n F.x F.b dX7_addsStep_11 rfl (lv_at hl 2 rfl) ?_
    refine lv_iconst (v := 0) F.x F.b dX7_addsStep_12 (by decide) ?_
    refine lv_bipush (v := 100) F.x F.b dX7_addsStep_13 (by decide) ?_
    obtain ⟨r4, hc5, h⟩ := bd h
    try dsimp only at h
    refine kSi F w (t_X7_in F.1 hc5) m_X7_in v_X7_in q1633 (As := [.int x2, .int 0, .int 100]) (rest := []) ⟨Nat.le_of_ble_eq_true rfl, Nat.le_of_ble_eq_true rfl⟩ rfl hl.1 rfl (Nat.le_of_ble_eq_true rfl) dX7_addsStep_15 ⟨Nat.le_of_ble_eq_true rfl, Nat.le_of_ble_eq_true rfl⟩ (fun H locs w => ?_)
    refine lv_if_ne (tgt := 23) F.x F.b dX7_addsStep_18 (by decide) (fun c6 => ?_) (fun c6 => ?_)
    · have h := ie c6 h
      refine lv_aload_n F.x F.b dX7_addsStep_23 rfl (lv_at hl 0 rfl) ?_
      refine rg F w cl7 0 (at_Mo_0 _ _ _) 1 (by decide) q1548 rfl (v := .ref (mo 1)) rfl dX7_addsStep_24 ?_
      refine lv_iconst (v := 2) F.x F.b dX7_addsStep_27 (by decide) ?_
      obtain ⟨g7, h⟩ := gd h
      refine ri F w 1 (n := 148) (f := M.2 0) (at_Mo_1 _ _ _) g7 dX7_addsStep_28 ?_
      refine lv_istore_n (lv' := [(3, .int (M.2 0 (Int32.toNatClampNeg 2))), (0, .ref (mo 0)), (1, .int x1), (2, .int x2)]) F.x F.b dX7_addsStep_29 rfl hl (by decide) rfl (fun ls hl => ?_)
      refine lv_iconst (v := 0) F.x F.b dX7_addsStep_30 (by decide) ?_
      refine lv_istore (lv' := [(4, .int 0), (3, .int (M.2 0 (Int32.toNatClampNeg 2))), (0, .ref (mo 0)), (1, .int x1), (2, .int x2)]) F.x F.b dX7_addsStep_31 hl (by decide) rfl (fun ls hl => ?_)
      refine L33 x1 x2 (M.2 0 (Int32.toNatClampNeg 2)) M _ 0 _ _ _ w (lv_sub hl [2, 3, 4, 1, 0] rfl) h ?_
      intro  H locs ls w hl h
      try dsimp only at h
      refine lv_iload_n F.x F.b dX7_addsStep_63 rfl (lv_at hl 3 rfl) ?_
      refine lv_bipush (v := 6) F.x F.b dX7_addsStep_64 (by decide) ?_
      refine lv_icmp_ne (tgt := 71) F.x F.b dX7_addsStep_66 (by decide) (fun c12 => ?_) (fun c12 => ?_)
      · have h := ie c12 h
        refine L71 x1 x2 _ (M.2 0 (Int32.toNatClampNeg 2)) M _ _ _ w (lv_sub hl [0, 1, 2, 3] rfl) h ?_
        intro y20_3 M_20 H locs ls w hl h
        try dsimp only at h
        refine lv_aload_n F.x F.b dX7_addsStep_148 rfl (lv_at hl 0 rfl) ?_
        refine rg F w cl7 0 (at_Mo_0 _ _ _) 1 (by decide) q1548 rfl (v := .ref (mo 1)) rfl dX7_addsStep_149 ?_
        refine lv_bipush (v := 120) F.x F.b dX7_addsStep_152 (by decide) ?_
        refine lv_iconst (v := 2) F.x F.b dX7_addsStep_154 (by decide) ?_
        refine lv_iload_n F.x F.b dX7_addsStep_155 rfl (lv_at hl 3 rfl) ?_
        refine lv_imul F.x F.b dX7_addsStep_156 ?_
        refine lv_iadd F.x F.b dX7_addsStep_157 ?_
        refine lv_iload_n F.x F.b dX7_addsStep_158 rfl (lv_at hl 1 rfl) ?_
        obtain ⟨g21, h⟩ := gd h
        refine ris F w (ws' := wMo G.2.1 mo (wrA M_20 0 (120 + (2 * y20_3)) x1)) 1 (n := 148) (f := M_20.2 0) (at_Mo_1 _ _ _) g21 (st_Mo_1 _ _ _ _ _) dX7_addsStep_159 (fun H locs w => ?_)
        refine lv_aload_n F.x F.b dX7_addsStep_160 rfl (lv_at hl 0 rfl) ?_
        refine rg F w cl7 0 (at_Mo_0 _ _ _) 1 (by decide) q1548 rfl (v := .ref (mo 1)) rfl dX7_addsStep_161 ?_
        refine lv_bipush (v := 120) F.x F.b dX7_addsStep_164 (by decide) ?_
        refine lv_iconst (v := 2) F.x F.b dX7_addsStep_166 (by decide) ?_
        refine lv_iload_n F.x F.b dX7_addsStep_167 rfl (lv_at hl 3 rfl) ?_
        refine lv_imul F.x F.b dX7_addsStep_168 ?_
        refine lv_iadd F.x F.b dX7_addsStep_169 ?_
        refine lv_iconst (v := 1) F.x F.b dX7_addsStep_170 (by decide) ?_
        refine lv_iadd F.x F.b dX7_addsStep_171 ?_
        refine lv_iload_n F.x F.b dX7_addsStep_172 rfl (lv_at hl 2 rfl) ?_
        obtain ⟨g22, h⟩ := gd h
        refine ris F w (ws' := wMo G.2.1 mo (wrA (wrA M_20 0 (120 + (2 * y20_3)) x1) 0 ((120 + (2 * y20_3)) + 1) x2)) 1 (n := 148) (f := (wrA M_20 0 (120 + (2 * y20_3)) x1).2 0) (at_Mo_1 _ _ _) g22 (st_Mo_1 _ _ _ _ _) dX7_addsStep_173 (fun H locs w => ?_)
        refine lv_aload_n F.x F.b dX7_addsStep_174 rfl (lv_at hl 0 rfl) ?_
        refine rg F w cl7 0 (at_Mo_0 _ _ _) 1 (by decide) q1548 rfl (v := .ref (mo 1)) rfl dX7_addsStep_175 ?_
        refine lv_iconst (v := 2) F.x F.b dX7_addsStep_178 (by decide) ?_
        refine lv_dup2_11 F.x F.b dX7_addsStep_179 rfl rfl ?_
        obtain ⟨g23, h⟩ := gd h
        refine ri F w 1 (n := 148) (f := (wrA (wrA M_20 0 (120 + (2 * y20_3)) x1) 0 ((120 + (2 * y20_3)) + 1) x2).2 0) (at_Mo_1 _ _ _) g23 dX7_addsStep_180 ?_
        refine lv_iconst (v := 1) F.x F.b dX7_addsStep_181 (by decide) ?_
        refine lv_iadd F.x F.b dX7_addsStep_182 ?_
        obtain ⟨g24, h⟩ := gd h
        refine ris F w (ws' := wMo G.2.1 mo (wrA (wrA (wrA M_20 0 (120 + (2 * y20_3)) x1) 0 ((120 + (2 * y20_3)) + 1) x2) 0 2 (((wrA (wrA M_20 0 (120 + (2 * y20_3)) x1) 0 ((120 + (2 * y20_3)) + 1) x2).2 0 (Int32.toNatClampNeg 2)) + 1))) 1 (n := 148) (f := (wrA (wrA M_20 0 (120 + (2 * y20_3)) x1) 0 ((120 + (2 * y20_3)) + 1) x2).2 0) (at_Mo_1 _ _ _) g24 (st_Mo_1 _ _ _ _ _) dX7_addsStep_183 (fun H locs w => ?_)
        refine lv_aload_n F.x F.b dX7_addsStep_184 rfl (lv_at hl 0 rfl) ?_
        refine lv_aload_n F.x F.b dX7_addsStep_185 rfl (lv_at hl 0 rfl) ?_
        refine rg F w cl7 0 (at_Mo_0 _ _ _) 1 (by decide) q1548 rfl (v := .ref (mo 1)) rfl dX7_addsStep_186 ?_
        refine lv_iconst (v := 2) F.x F.b dX7_addsStep_189 (by decide) ?_
        obtain ⟨g25, h⟩ := gd h
        refine ri F w 1 (n := 148) (f := (wrA (wrA (wrA M_20 0 (120 + (2 * y20_3)) x1) 0 ((120 + (2 * y20_3)) + 1) x2) 0 2 (((wrA (wrA M_20 0 (120 + (2 * y20_3)) x1) 0 ((120 + (2 * y20_3)) + 1) x2).2 0 (Int32.toNatClampNeg 2)) + 1)).2 0) (at_Mo_1 _ _ _) g25 dX7_addsStep_190 ?_
        obtain ⟨⟨r26, M_27⟩, hc28, h⟩ := bd h
        try dsimp only at h
        refine kVi0 F w (As := [.int ((wrA (wrA (wrA M_20 0 (120 + (2 * y20_3)) x1) 0 ((120 + (2 * y20_3)) + 1) x2) 0 2 (((wrA (wrA M_20 0 (120 + (2 * y20_3)) x1) 0 ((120 + (2 * y20_3)) + 1) x2).2 0 (Int32.toNatClampNeg 2)) + 1)).2 0 (Int32.toNatClampNeg 2))]) (rest := []) (w1 := wMo G.2.1 mo M_27) (t_X7_done F.1 hc28) m_X7_done v_X7_done q1651 (ci := 11) (q0 := 0) rfl rfl rfl ⟨Nat.le_of_ble_eq_true rfl, Nat.le_of_ble_eq_true rfl⟩ rfl hl.1 rfl (Nat.le_of_ble_eq_true rfl) dX7_addsStep_191 ⟨Nat.le_of_ble_eq_true rfl, Nat.le_of_ble_eq_true rfl⟩ (fun H locs w => ?_)
        obtain ⟨z0, z1⟩ := sm2 (sm h)
        exact ei F w hr hlocks rfl z0 (by rw [← z1]) dX7_addsStep_194
      · have h := it c12 h
        refine lv_iconst (v := 3) F.x F.b dX7_addsStep_69 (by decide) ?_
        obtain ⟨z0, z1⟩ := sm2 (sm h)
        exact ei F w hr hlocks rfl z0 (by rw [← z1]) dX7_addsStep_70
    · have h := it c6 h
      refine lv_iconst (v := 1) F.x F.b dX7_addsStep_21 (by decide) ?_
      obtain ⟨z0, z1⟩ := sm2 (sm h)
      exact ei F w hr hlocks rfl z0 (by rw [← z1]) dX7_addsStep_22
set_option maxRecDepth 100000 in
set_option maxHeartbeats 4000000 in
theorem t_X7_removesStep {G : cG} (g : GOK G) {mo : Nat → Nat} {M : Mem} {x1 : Int32} {r : Int32} {M' : Mem} (h : f_X7_removesStep M x1 = some (r, M')) : CI G yX7_removesStep cX7_removesStep 5 .int 1 21 [.ref (mo 0), .int x1] (wMo G.2.1 mo M) (wMo G.2.1 mo M') r := by
  unfold f_X7_removesStep at h
  refine CI.of g (by decide) rfl (Nat.le_of_ble_eq_true rfl) ?_
  intro p l e s m below meth c A ls F hr hlocks w hl
  generalize ([.ref (mo 0), .int x1] : List Value).toArray = args
  have hl : lv_has ls 5 [(0, .ref (mo 0)), (1, .int x1)] := hl
  have L2 : ∀ (x1 : Int32) (M : Mem) {k : Int32 → Option (Int32 × Mem)} (n : Nat) (x2 : Int32) (H : Heap) (locs : List Loc) (ls : Array Slot), Wd G A s.heap (wMo G.2.1 mo M) H locs → lv_has ls 5 [(0, .ref (mo 0)), (1, .int x1), (2, .int x2)] → f_X7_removesStep_L2 x1 M k n x2 = some (r, M') → (∀ (x2 : Int32) (H : Heap) (locs : List Loc) (ls : Array Slot), Wd G A s.heap (wMo G.2.1 mo M) H locs → lv_has ls 5 [(0, .ref (mo 0)), (2, .int x2)] → k x2 = some (r, M') → W p l e { frames := 1, cells := 0, slots := 0, locals := 21 } s m args below meth c H locs 0 0 (QI G A (wMo G.2.1 mo M') r below args s) (F0 m 33 ls [])) → W p l e { frames := 1, cells := 0, slots := 0, locals := 21 } s m args below meth c H locs 0 0 (QI G A (wMo G.2.1 mo M') r below args s) (F0 m 2 ls []) := by
    clear h w hl
    intro x1 M k n
    induction n with
    | zero =>
      intro x2 H locs ls w hl h hk
      exact nomatch (show (none : Option (Int32 × Mem)) = some (r, M') from h)
    | succ n ih =>
      intro x2 H locs ls w hl h hk
      rw [f_X7_removesStep_L2] at h
      refine lv_iload_n F.x F.b dX7_removesStep_2 rfl (lv_at hl 2 rfl) ?_
      refine lv_aload_n F.x F.b dX7_removesStep_3 rfl (lv_at hl 0 rfl) ?_
      refine rg F w cl7 0 (at_Mo_0 _ _ _) 1 (by decide) q1548 rfl (v := .ref (mo 1)) rfl dX7_removesStep_4 ?_
      refine lv_iconst (v := 2) F.x F.b dX7_removesStep_7 (by decide) ?_
      obtain ⟨g1, h⟩ := gd h
      refine ri F w 1 (n := 148) (f := M.2 0) (at_Mo_1 _ _ _) g1 dX7_removesStep_8 ?_
      refine lv_icmp_ge (tgt := 33) F.x F.b dX7_removesStep_9 (by decide) (fun c2 => ?_) (fun c2 => ?_)
      · have h := it c2 h
        exact hk x2 _ _ _ w (lv_sub hl [0, 2] rfl) h
      · have h := ie c2 h
        refine lv_aload_n F.x F.b dX7_removesStep_12 rfl (lv_at hl 0 rfl) ?_
        refine rg F w cl7 0 (at_Mo_0 _ _ _) 1 (by decide) q1548 rfl (v := .ref (mo 1)) rfl dX7_removesStep_13 ?_
        refine lv_bipush (v := 120) F.x F.b dX7_removesStep_16 (by decide) ?_
        refine lv_iconst (v := 2) F.x F.b dX7_removesStep_18 (by decide) ?_
        refine lv_iload_n F.x F.b dX7_removesStep_19 rfl (lv_at hl 2 rfl) ?_
        refine lv_imul F.x F.b dX7_removesStep_20 ?_
        refine lv_iadd F.x F.b dX7_removesStep_21 ?_
        obtain ⟨g3, h⟩ := gd h
        refine ri F w 1 (n := 148) (f := M.2 0) (at_Mo_1 _ _ _) g3 dX7_removesStep_22 ?_
        refine lv_iload_n F.x F.b dX7_removesStep_23 rfl (lv_at hl 1 rfl) ?_
        refine lv_icmp_eq (tgt := 33) F.x F.b dX7_removesStep_24 (by decide) (fun c4 => ?_) (fun c4 => ?_)
        · have h := it c4 h
          exact hk x2 _ _ _ w (lv_sub hl [0, 2] rfl) h
        · have h := ie c4 h
          refine lv_iinc (v := (x2 + 1)) (lv' := [(2, .int (x2 + 1)), (0, .ref (mo 0)), (1, .int x1)]) F.x F.b dX7_removesStep_27 hl (k := 2) rfl rfl (by decide) rfl (fun ls hl => ?_)
          refine lv_goto (tgt := 2) F.x F.b dX7_removesStep_30 (by decide) ?_
          exact ih (x2 + 1) _ _ _ w (lv_sub hl [1, 2, 0] rfl) h hk
  have L74 : ∀ (x3 : Int32) {k : Mem → Option (Int32 × Mem)} (n : Nat) (x4 : Int32) (M : Mem) (H : Heap) (locs : List Loc) (ls : Array Slot), Wd G A s.heap (wMo G.2.1 mo M) H locs → lv_has ls 5 [(0, .ref (mo 0)), (3, .int x3), (4, .int x4)] → f_X7_removesStep_L74 x3 k n x4 M = some (r, M') → (∀ (M : Mem) (H : Heap) (locs : List Loc) (ls : Array Slot), Wd G A s.heap (wMo G.2.1 mo M) H locs → lv_has ls 5 [(0, .ref (mo 0)), (3, .int x3)] → k M = some (r, M') → W p l e { frames := 1, cells := 0, slots := 0, locals := 21 } s m args below meth c H locs 0 0 (QI G A (wMo G.2.1 mo M') r below args s) (F0 m 115 ls [])) → W p l e { frames := 1, cells := 0, slots := 0, locals := 21 } s m args below meth c H locs 0 0 (QI G A (wMo G.2.1 mo M') r below args s) (F0 m 74 ls []) := by
    clear h w hl
    intro x3 k n
    induction n with
    | zero =>
      intro x4 M H locs ls w hl h hk
      exact nomatch (show (none : Option (Int32 × Mem)) = some (r, M') from h)
    | succ n ih =>
      intro x4 M H locs ls w hl h hk
      rw [f_X7_removesStep_L74] at h
      refine lv_iload F.x F.b dX7_removesStep_74 (lv_at hl 2 rfl) ?_
      refine lv_iconst (v := 2) F.x F.b dX7_removesStep_76 (by decide) ?_
      refine lv_aload_n F.x F.b dX7_removesStep_77 rfl (lv_at hl 0 rfl) ?_
      refine rg F w cl7 0 (at_Mo_0 _ _ _) 1 (by decide) q1548 rfl (v := .ref (mo 1)) rfl dX7_removesStep_78 ?_
      refine lv_iconst (v := 2) F.x F.b dX7_removesStep_81 (by decide) ?_
      obtain ⟨g11, h⟩ := gd h
      refine ri F w 1 (n := 148) (f := M.2 0) (at_Mo_1 _ _ _) g11 dX7_removesStep_82 ?_
      refine lv_imul F.x F.b dX7_removesStep_83 ?_
      refine lv_icmp_ge (tgt := 115) F.x F.b dX7_removesStep_84 (by decide) (fun c12 => ?_) (fun c12 => ?_)
      · have h := it c12 h
        exact hk M _ _ _ w (lv_sub hl [0, 1] rfl) h
      · have h := ie c12 h
        refine lv_aload_n F.x F.b dX7_removesStep_87 rfl (lv_at hl 0 rfl) ?_
        refine rg F w cl7 0 (at_Mo_0 _ _ _) 1 (by decide) q1548 rfl (v := .ref (mo 1)) rfl dX7_removesStep_88 ?_
        refine lv_bipush (v := 120) F.x F.b dX7_removesStep_91 (by decide) ?_
        refine lv_iload F.x F.b dX7_removesStep_93 (lv_at hl 2 rfl) ?_
        refine lv_iadd F.x F.b dX7_removesStep_95 ?_
        refine lv_aload_n F.x F.b dX7_removesStep_96 rfl (lv_at hl 0 rfl) ?_
        refine rg F w cl7 0 (at_Mo_0 _ _ _) 1 (by decide) q1548 rfl (v := .ref (mo 1)) rfl dX7_removesStep_97 ?_
        refine lv_bipush (v := 120) F.x F.b dX7_removesStep_100 (by decide) ?_
        refine lv_iload F.x F.b dX7_removesStep_102 (lv_at hl 2 rfl) ?_
        refine lv_iadd F.x F.b dX7_removesStep_104 ?_
        refine lv_iconst (v := 2) F.x F.b dX7_removesStep_105 (by decide) ?_
        refine lv_iadd F.x F.b dX7_removesStep_106 ?_
        obtain ⟨g13, h⟩ := gd h
        refine ri F w 1 (n := 148) (f := M.2 0) (at_Mo_1 _ _ _) g13 dX7_removesStep_107 ?_
        obtain ⟨g14, h⟩ := gd h
        refine ris F w (ws' := wMo G.2.1 mo (wrA M 0 (120 + x4) (M.2 0 (Int32.toNatClampNeg ((120 + x4) + 2))))) 1 (n := 148) (f := M.2 0) (at_Mo_1 _ _ _) g14 (st_Mo_1 _ _ _ _ _) dX7_removesStep_108 (fun H locs w => ?_)
        refine lv_iinc (v := (x4 + 1)) (lv' := [(4, .int (x4 + 1)), (0, .ref (mo 0)), (3, .int x3)]) F.x F.b dX7_removesStep_109 hl (k := 2) rfl rfl (by decide) rfl (fun ls hl => ?_)
        refine lv_goto (tgt := 74) F.x F.b dX7_removesStep_112 (by decide) ?_
        exact ih (x4 + 1) (wrA M 0 (120 + x4) (M.2 0 (Int32.toNatClampNeg ((120 + x4) + 2)))) _ _ _ w (lv_sub hl [1, 2, 0] rfl) h hk
  refine lv_iconst (v := 0) F.x F.b dX7_removesStep_0 (by decide) ?_
  refine lv_istore_n (lv' := [(2, .int 0), (0, .ref (mo 0)), (1, .int x1)]) F.x F.b dX7_removesStep_1 rfl hl (by decide) rfl (fun ls hl => ?_)
  refine L2 x1 M _ 0 _ _ _ w (lv_sub hl [1, 2, 0] rfl) h ?_
  intro y5_2 H locs ls w hl h
  try dsimp only at h
  refine lv_iload_n F.x F.b dX7_removesStep_33 rfl (lv_at hl 1 rfl) ?_
  refine lv_aload_n F.x F.b dX7_removesStep_34 rfl (lv_at hl 0 rfl) ?_
  refine rg F w cl7 0 (at_Mo_0 _ _ _) 1 (by decide) q1548 rfl (v := .ref (mo 1)) rfl dX7_removesStep_35 ?_
  refine lv_iconst (v := 2) F.x F.b dX7_removesStep_38 (by decide) ?_
  obtain ⟨g6, h⟩ := gd h
  refine ri F w 1 (n := 148) (f := M.2 0) (at_Mo_1 _ _ _) g6 dX7_removesStep_39 ?_
  refine lv_icmp_ne (tgt := 45) F.x F.b dX7_removesStep_40 (by decide) (fun c7 => ?_) (fun c7 => ?_)
  · have h := ie c7 h
    refine lv_aload_n F.x F.b dX7_removesStep_45 rfl (lv_at hl 0 rfl) ?_
    refine rg F w cl7 0 (at_Mo_0 _ _ _) 1 (by decide) q1548 rfl (v := .ref (mo 1)) rfl dX7_removesStep_46 ?_
    refine lv_bipush (v := 120) F.x F.b dX7_removesStep_49 (by decide) ?_
    refine lv_iconst (v := 2) F.x F.b dX7_removesStep_51 (by decide) ?_
    refine lv_iload_n F.x F.b dX7_removesStep_52 rfl (lv_at hl 1 rfl) ?_
    refine lv_imul F.x F.b dX7_removesStep_53 ?_
    refine lv_iadd F.x F.b dX7_removesStep_54 ?_
    refine lv_iconst (v := 1) F.x F.b dX7_removesStep_55 (by decide) ?_
    refine lv_iadd F.x F.b dX7_removesStep_56 ?_
    obtain ⟨g8, h⟩ := gd h
    refine ri F w 1 (n := 148) (f := M.2 0) (at_Mo_1 _ _ _) g8 dX7_removesStep_57 ?_
    refine lv_istore_n (lv' := [(3, .int (M.2 0 (Int32.toNatClampNeg ((120 + (2 * y5_2)) + 1)))), (0, .ref (mo 0)), (2, .int y5_2)]) F.x F.b dX7_removesStep_58 rfl hl (by decide) rfl (fun ls hl => ?_)
    refine lv_aload_n F.x F.b dX7_removesStep_59 rfl (lv_at hl 1 rfl) ?_
    refine rg F w cl7 0 (at_Mo_0 _ _ _) 1 (by decide) q1548 rfl (v := .ref (mo 1)) rfl dX7_removesStep_60 ?_
    refine lv_iconst (v := 2) F.x F.b dX7_removesStep_63 (by decide) ?_
    refine lv_dup2_11 F.x F.b dX7_removesStep_64 rfl rfl ?_
    obtain ⟨g9, h⟩ := gd h
    refine ri F w 1 (n := 148) (f := M.2 0) (at_Mo_1 _ _ _) g9 dX7_removesStep_65 ?_
    refine lv_iconst (v := 1) F.x F.b dX7_removesStep_66 (by decide) ?_
    refine lv_isub F.x F.b dX7_removesStep_67 ?_
    obtain ⟨g10, h⟩ := gd h
    refine ris F w (ws' := wMo G.2.1 mo (wrA M 0 2 ((M.2 0 (Int32.toNatClampNeg 2)) - 1))) 1 (n := 148) (f := M.2 0) (at_Mo_1 _ _ _) g10 (st_Mo_1 _ _ _ _ _) dX7_removesStep_68 (fun H locs w => ?_)
    refine lv_iconst (v := 2) F.x F.b dX7_removesStep_69 (by decide) ?_
    refine lv_iload_n F.x F.b dX7_removesStep_70 rfl (lv_at hl 2 rfl) ?_
    refine lv_imul F.x F.b dX7_removesStep_71 ?_
    refine lv_istore (lv' := [(4, .int (2 * y5_2)), (3, .int (M.2 0 (Int32.toNatClampNeg ((120 + (2 * y5_2)) + 1)))), (0, .ref (mo 0)), (2, .int y5_2)]) F.x F.b dX7_removesStep_72 hl (by decide) rfl (fun ls hl => ?_)
    refine L74 (M.2 0 (Int32.toNatClampNeg ((120 + (2 * y5_2)) + 1))) _ (2 * y5_2) (wrA M 0 2 ((M.2 0 (Int32.toNatClampNeg 2)) - 1)) _ _ _ w (lv_sub hl [2, 1, 0] rfl) h ?_
    intro M_15 H locs ls w hl h
    try dsimp only at h
    refine lv_aload_n F.x F.b dX7_removesStep_115 rfl (lv_at hl 0 rfl) ?_
    refine rg F w cl7 0 (at_Mo_0 _ _ _) 1 (by decide) q1548 rfl (v := .ref (mo 1)) rfl dX7_removesStep_116 ?_
    refine lv_bipush (v := 120) F.x F.b dX7_removesStep_119 (by decide) ?_
    refine lv_iconst (v := 2) F.x F.b dX7_removesStep_121 (by decide) ?_
    refine lv_aload_n F.x F.b dX7_removesStep_122 rfl (lv_at hl 0 rfl) ?_
    refine rg F w cl7 0 (at_Mo_0 _ _ _) 1 (by decide) q1548 rfl (v := .ref (mo 1)) rfl dX7_removesStep_123 ?_
    refine lv_iconst (v := 2) F.x F.b dX7_removesStep_126 (by decide) ?_
    obtain ⟨g16, h⟩ := gd h
    refine ri F w 1 (n := 148) (f := M_15.2 0) (at_Mo_1 _ _ _) g16 dX7_removesStep_127 ?_
    refine lv_imul F.x F.b dX7_removesStep_128 ?_
    refine lv_iadd F.x F.b dX7_removesStep_129 ?_
    refine lv_iconst (v := 0) F.x F.b dX7_removesStep_130 (by decide) ?_
    obtain ⟨g17, h⟩ := gd h
    refine ris F w (ws' := wMo G.2.1 mo (wrA M_15 0 (120 + (2 * (M_15.2 0 (Int32.toNatClampNeg 2)))) 0)) 1 (n := 148) (f := M_15.2 0) (at_Mo_1 _ _ _) g17 (st_Mo_1 _ _ _ _ _) dX7_removesStep_131 (fun H locs w => ?_)
    refine lv_aload_n F.x F.b dX7_removesStep_132 rfl (lv_at hl 0 rfl) ?_
    refine rg F w cl7 0 (at_Mo_0 _ _ _) 1 (by decide) q1548 rfl (v := .ref (mo 1)) rfl dX7_removesStep_133 ?_
    refine lv_bipush (v := 120) F.x F.b dX7_removesStep_136 (by decide) ?_
    refine lv_iconst (v := 2) F.x F.b dX7_removesStep_138 (by decide) ?_
    refine lv_aload_n F.x F.b dX7_removesStep_139 rfl (lv_at hl 0 rfl) ?_
    refine rg F w cl7 0 (at_Mo_0 _ _ _) 1 (by decide) q1548 rfl (v := .ref (mo 1)) rfl dX7_removesStep_140 ?_
    refine lv_iconst (v := 2) F.x F.b dX7_removesStep_143 (by decide) ?_
    obtain ⟨g18, h⟩ := gd h
    refine ri F w 1 (n := 148) (f := (wrA M_15 0 (120 + (2 * (M_15.2 0 (Int32.toNatClampNeg 2)))) 0).2 0) (at_Mo_1 _ _ _) g18 dX7_removesStep_144 ?_
    refine lv_imul F.x F.b dX7_removesStep_145 ?_
    refine lv_iadd F.x F.b dX7_removesStep_146 ?_
    refine lv_iconst (v := 1) F.x F.b dX7_removesStep_147 (by decide) ?_
    refine lv_iadd F.x F.b dX7_removesStep_148 ?_
    refine lv_iconst (v := 0) F.x F.b dX7_removesStep_149 (by decide) ?_
    obtain ⟨g19, h⟩ := gd h
    refine ris F w (ws' := wMo G.2.1 mo (wrA (wrA M_15 0 (120 + (2 * (M_15.2 0 (Int32.toNatClampNeg 2)))) 0) 0 ((120 + (2 * ((wrA M_15 0 (120 + (2 * (M_15.2 0 (Int32.toNatClampNeg 2)))) 0).2 0 (Int32.toNatClampNeg 2)))) + 1) 0)) 1 (n := 148) (f := (wrA M_15 0 (120 + (2 * (M_15.2 0 (Int32.toNatClampNeg 2)))) 0).2 0) (at_Mo_1 _ _ _) g19 (st_Mo_1 _ _ _ _ _) dX7_removesStep_150 (fun H locs w => ?_)
    refine lv_aload_n F.x F.b dX7_removesStep_151 rfl (lv_at hl 0 rfl) ?_
    refine lv_iload_n F.x F.b dX7_removesStep_152 rfl (lv_at hl 1 rfl) ?_
    obtain ⟨⟨r20, M_21⟩, hc22, h⟩ := bd h
    try dsimp only at h
    refine kVi0 F w (As := [.int (M.2 0 (Int32.toNatClampNeg ((120 + (2 * y5_2)) + 1)))]) (rest := []) (w1 := wMo G.2.1 mo M_21) (t_X7_done F.1 hc22) m_X7_done v_X7_done q1651 (ci := 11) (q0 := 0) rfl rfl rfl ⟨Nat.le_of_ble_eq_true rfl, Nat.le_of_ble_eq_true rfl⟩ rfl hl.1 rfl (Nat.le_of_ble_eq_true rfl) dX7_removesStep_153 ⟨Nat.le_of_ble_eq_true rfl, Nat.le_of_ble_eq_true rfl⟩ (fun H locs w => ?_)
    obtain ⟨z0, z1⟩ := sm2 (sm h)
    exact ei F w hr hlocks rfl z0 (by rw [← z1]) dX7_removesStep_156
  · have h := it c7 h
    refine lv_iconst (v := 1) F.x F.b dX7_removesStep_43 (by decide) ?_
    obtain ⟨z0, z1⟩ := sm2 (sm h)
    exact ei F w hr hlocks rfl z0 (by rw [← z1]) dX7_removesStep_44

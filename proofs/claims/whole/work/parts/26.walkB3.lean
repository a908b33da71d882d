/-! printed by wip/whole/tools/emit.py: the walks -/
set_option maxRecDepth 100000 in
set_option maxHeartbeats 4000000 in
theorem t_X7_bond {G : cG} (g : GOK G) {mo : Nat → Nat} {M : Mem} {r : Int32} {M' : Mem} (h : f_X7_bond M = some (r, M')) : CI G yX7_bond cX7_bond 1 .int 0 0 [.ref (mo 0)] (wMo G.2.1 mo M) (wMo G.2.1 mo M') r := by
  unfold f_X7_bond at h
  refine CI.of g (by decide) rfl (Nat.le_of_ble_eq_true rfl) ?_
  intro p l e s m below meth c A ls F hr hlocks w hl
  generalize ([.ref (mo 0)] : List Value).toArray = args
  have hl : lv_has ls 1 [(0, .ref (mo 0))] := hl
  refine lv_aload_n F.x F.b dX7_bond_0 rfl (lv_at hl 0 rfl) ?_
  refine lv_iconst (v := 0) F.x F.b dX7_bond_1 (by decide) ?_
  refine rp F w (ws' := wMo G.2.1 mo (wrI M 0 0)) cl7 0 (at_Mo_0 _ _ _) 0 (by decide) q1547 rfl rfl rfl rfl (Nat.le_of_ble_eq_true rfl) (pt_Mo_0_0 _ _ _ _) dX7_bond_2 (fun H locs w => ?_)
  refine lv_aload_n F.x F.b dX7_bond_5 rfl (lv_at hl 0 rfl) ?_
  refine rg F w cl7 0 (at_Mo_0 _ _ _) 1 (by decide) q1548 rfl (v := .ref (mo 1)) rfl dX7_bond_6 ?_
  refine lv_iconst (v := 4) F.x F.b dX7_bond_9 (by decide) ?_
  obtain ⟨g1, h⟩ := gd h
  refine ri F w 1 (n := 148) (f := (wrI M 0 0).2 0) (at_Mo_1 _ _ _) g1 dX7_bond_10 ?_
  obtain ⟨z0, z1⟩ := sm2 (sm h)
  exact ei F w hr hlocks rfl z0 (by rw [← z1]) dX7_bond_11
set_option maxRecDepth 100000 in
set_option maxHeartbeats 4000000 in
theorem t_X7_collected {G : cG} (g : GOK G) {mo : Nat → Nat} {M : Mem} {r : Int32} {M' : Mem} (h : f_X7_collected M = some (r, M')) : CI G yX7_collected cX7_collected 1 .int 0 0 [.ref (mo 0)] (wMo G.2.1 mo M) (wMo G.2.1 mo M') r := by
  unfold f_X7_collected at h
  refine CI.of g (by decide) rfl (Nat.le_of_ble_eq_true rfl) ?_
  intro p l e s m below meth c A ls F hr hlocks w hl
  generalize ([.ref (mo 0)] : List Value).toArray = args
  have hl : lv_has ls 1 [(0, .ref (mo 0))] := hl
  refine lv_aload_n F.x F.b dX7_collected_0 rfl (lv_at hl 0 rfl) ?_
  refine lv_iconst (v := 0) F.x F.b dX7_collected_1 (by decide) ?_
  refine rp F w (ws' := wMo G.2.1 mo (wrI M 0 0)) cl7 0 (at_Mo_0 _ _ _) 0 (by decide) q1547 rfl rfl rfl rfl (Nat.le_of_ble_eq_true rfl) (pt_Mo_0_0 _ _ _ _) dX7_collected_2 (fun H locs w => ?_)
  refine lv_aload_n F.x F.b dX7_collected_5 rfl (lv_at hl 0 rfl) ?_
  refine rg F w cl7 0 (at_Mo_0 _ _ _) 1 (by decide) q1548 rfl (v := .ref (mo 1)) rfl dX7_collected_6 ?_
  refine lv_iconst (v := 5) F.x F.b dX7_collected_9 (by decide) ?_
  obtain ⟨g1, h⟩ := gd h
  refine ri F w 1 (n := 148) (f := (wrI M 0 0).2 0) (at_Mo_1 _ _ _) g1 dX7_collected_10 ?_
  obtain ⟨z0, z1⟩ := sm2 (sm h)
  exact ei F w hr hlocks rfl z0 (by rw [← z1]) dX7_collected_11
set_option maxRecDepth 100000 in
set_option maxHeartbeats 4000000 in
theorem t_X7_mostReleases {G : cG} (g : GOK G) {mo : Nat → Nat} {M : Mem} {r : Int32} {M' : Mem} (h : f_X7_mostReleases M = some (r, M')) : CI G yX7_mostReleases cX7_mostReleases 6 .int 3 64 [.ref (mo 0)] (wMo G.2.1 mo M) (wMo G.2.1 mo M') r := by
  unfold f_X7_mostReleases at h
  refine CI.of g (by decide) rfl (Nat.le_of_ble_eq_true rfl) ?_
  intro p l e s m below meth c A ls F hr hlocks w hl
  generalize ([.ref (mo 0)] : List Value).toArray = args
  have hl : lv_has ls 6 [(0, .ref (mo 0))] := hl
  have L16 : ∀ (x1 : Int32) (x2 : Int32) {k : Mem → Option (Int32 × Mem)} (n : Nat) (x3 : Int32) (M : Mem) (H : Heap) (locs : List Loc) (ls : Array Slot), Wd G A s.heap (wMo G.2.1 mo M) H locs → lv_has ls 6 [(0, .ref (mo 0)), (1, .int x1), (2, .int x2), (3, .int x3)] → f_X7_mostReleases_L16 x1 x2 k n x3 M = some (r, M') → (∀ (M : Mem) (H : Heap) (locs : List Loc) (ls : Array Slot), Wd G A s.heap (wMo G.2.1 mo M) H locs → lv_has ls 6 [(0, .ref (mo 0)), (1, .int x1), (2, .int x2)] → k M = some (r, M') → W p l e { frames := 3, cells := 0, slots := 0, locals := 64 } s m args below meth c H locs 0 0 (QI G A (wMo G.2.1 mo M') r below args s) (F0 m 39 ls [])) → W p l e { frames := 3, cells := 0, slots := 0, locals := 64 } s m args below meth c H locs 0 0 (QI G A (wMo G.2.1 mo M') r below args s) (F0 m 16 ls []) := by
    clear h w hl
    intro x1 x2 k n
    induction n with
    | zero =>
      intro x3 M H locs ls w hl h hk
      exact nomatch (show (none : Option (Int32 × Mem)) = some (r, M') from h)
    | succ n ih =>
      intro x3 M H locs ls w hl h hk
      rw [f_X7_mostReleases_L16] at h
      refine lv_iload_n F.x F.b dX7_mostReleases_16 rfl (lv_at hl 3 rfl) ?_
      refine lv_aload_n F.x F.b dX7_mostReleases_17 rfl (lv_at hl 0 rfl) ?_
      refine rg F w cl7 0 (at_Mo_0 _ _ _) 1 (by decide) q1548 rfl (v := .ref (mo 1)) rfl dX7_mostReleases_18 ?_
      refine lv_iconst (v := 1) F.x F.b dX7_mostReleases_21 (by decide) ?_
      obtain ⟨g2, h⟩ := gd h
      refine ri F w 1 (n := 148) (f := M.2 0) (at_Mo_1 _ _ _) g2 dX7_mostReleases_22 ?_
      refine lv_icmp_ge (tgt := 39) F.x F.b dX7_mostReleases_23 (by decide) (fun c3 => ?_) (fun c3 => ?_)
      · have h := it c3 h
        exact hk M _ _ _ w (lv_sub hl [0, 1, 2] rfl) h
      · have h := ie c3 h
        refine lv_aload_n F.x F.b dX7_mostReleases_26 rfl (lv_at hl 0 rfl) ?_
        refine rg F w cl7 0 (at_Mo_0 _ _ _) 12 (by decide) q1559 rfl (v := .ref (mo 10)) rfl dX7_mostReleases_27 ?_
        refine lv_iload_n F.x F.b dX7_mostReleases_30 rfl (lv_at hl 3 rfl) ?_
        refine lv_iconst (v := 0) F.x F.b dX7_mostReleases_31 (by decide) ?_
        obtain ⟨g4, h⟩ := gd h
        refine ris F w (ws' := wMo G.2.1 mo (wrA M 9 x3 0)) 10 (n := 24) (f := M.2 9) (at_Mo_10 _ _ _) g4 (st_Mo_10 _ _ _ _ _) dX7_mostReleases_32 (fun H locs w => ?_)
        refine lv_iinc (v := (x3 + 1)) (lv' := [(3, .int (x3 + 1)), (0, .ref (mo 0)), (1, .int x1), (2, .int x2)]) F.x F.b dX7_mostReleases_33 hl (k := 3) rfl rfl (by decide) rfl (fun ls hl => ?_)
        refine lv_goto (tgt := 16) F.x F.b dX7_mostReleases_36 (by decide) ?_
        exact ih (x3 + 1) (wrA M 9 x3 0) _ _ _ w (lv_sub hl [1, 2, 3, 0] rfl) h hk
  have L57 : ∀ (x1 : Int32) (x2 : Int32) (x3 : Int32) (M : Mem) {k : Int32 → Option (Int32 × Mem)} (n : Nat) (x4 : Int32) (x5 : Int32) (H : Heap) (locs : List Loc) (ls : Array Slot), Wd G A s.heap (wMo G.2.1 mo M) H locs → lv_has ls 6 [(0, .ref (mo 0)), (1, .int x1), (2, .int x2), (3, .int x3), (4, .int x4), (5, .int x5)] → f_X7_mostReleases_L57 x1 x2 x3 M k n x4 x5 = some (r, M') → (∀ (x4 : Int32) (H : Heap) (locs : List Loc) (ls : Array Slot), Wd G A s.heap (wMo G.2.1 mo M) H locs → lv_has ls 6 [(0, .ref (mo 0)), (1, .int x1), (2, .int x2), (3, .int x3), (4, .int x4)] → k x4 = some (r, M') → W p l e { frames := 3, cells := 0, slots := 0, locals := 64 } s m args below meth c H locs 0 0 (QI G A (wMo G.2.1 mo M') r below args s) (F0 m 109 ls [])) → W p l e { frames := 3, cells := 0, slots := 0, locals := 64 } s m args below meth c H locs 0 0 (QI G A (wMo G.2.1 mo M') r below args s) (F0 m 57 ls []) := by
    clear h w hl
    intro x1 x2 x3 M k n
    induction n with
    | zero =>
      intro x4 x5 H locs ls w hl h hk
      exact nomatch (show (none : Option (Int32 × Mem)) = some (r, M') from h)
    | succ n ih =>
      intro x4 x5 H locs ls w hl h hk
      rw [f_X7_mostReleases_L57] at h
      refine lv_iload F.x F.b dX7_mostReleases_57 (lv_at hl 5 rfl) ?_
      refine lv_aload_n F.x F.b dX7_mostReleases_59 rfl (lv_at hl 0 rfl) ?_
      refine rg F w cl7 0 (at_Mo_0 _ _ _) 1 (by decide) q1548 rfl (v := .ref (mo 1)) rfl dX7_mostReleases_60 ?_
      refine lv_iconst (v := 1) F.x F.b dX7_mostReleases_63 (by decide) ?_
      obtain ⟨g8, h⟩ := gd h
      refine ri F w 1 (n := 148) (f := M.2 0) (at_Mo_1 _ _ _) g8 dX7_mostReleases_64 ?_
      refine lv_icmp_ge (tgt := 109) F.x F.b dX7_mostReleases_65 (by decide) (fun c9 => ?_) (fun c9 => ?_)
      · have h := it c9 h
        exact hk x4 _ _ _ w (lv_sub hl [0, 1, 2, 3, 4] rfl) h
      · have h := ie c9 h
        refine lv_aload_n F.x F.b dX7_mostReleases_68 rfl (lv_at hl 0 rfl) ?_
        refine rg F w cl7 0 (at_Mo_0 _ _ _) 12 (by decide) q1559 rfl (v := .ref (mo 10)) rfl dX7_mostReleases_69 ?_
        refine lv_iload F.x F.b dX7_mostReleases_72 (lv_at hl 5 rfl) ?_
        obtain ⟨g10, h⟩ := gd h
        refine ri F w 10 (n := 24) (f := M.2 9) (at_Mo_10 _ _ _) g10 dX7_mostReleases_74 ?_
        refine lv_if_ne (tgt := 103) F.x F.b dX7_mostReleases_75 (by decide) (fun c11 => ?_) (fun c11 => ?_)
        · have h := ie c11 h
          refine lv_iinc (v := (x5 + 1)) (lv' := [(5, .int (x5 + 1)), (0, .ref (mo 0)), (1, .int x1), (2, .int x2), (3, .int x3), (4, .int x4)]) F.x F.b dX7_mostReleases_103 hl (k := 5) rfl rfl (by decide) rfl (fun ls hl => ?_)
          refine lv_goto (tgt := 57) F.x F.b dX7_mostReleases_106 (by decide) ?_
          exact ih x4 (x5 + 1) _ _ _ w (lv_sub hl [1, 2, 3, 4, 5, 0] rfl) h hk
        · have h := it c11 h
          refine lv_iload F.x F.b dX7_mostReleases_78 (lv_at hl 4 rfl) ?_
          refine lv_iconst (v := (-1)) F.x F.b dX7_mostReleases_80 (by decide) ?_
          refine lv_icmp_eq (tgt := 99) F.x F.b dX7_mostReleases_81 (by decide) (fun c12 => ?_) (fun c12 => ?_)
          · have h := it c12 h
            refine lv_iload F.x F.b dX7_mostReleases_99 (lv_at hl 5 rfl) ?_
            refine lv_istore (lv' := [(4, .int x5), (0, .ref (mo 0)), (1, .int x1), (2, .int x2), (3, .int x3), (5, .int x5)]) F.x F.b dX7_mostReleases_101 hl (by decide) rfl (fun ls hl => ?_)
            refine lv_iinc (v := (x5 + 1)) (lv' := [(5, .int (x5 + 1)), (4, .int x5), (0, .ref (mo 0)), (1, .int x1), (2, .int x2), (3, .int x3)]) F.x F.b dX7_mostReleases_103 hl (k := 5) rfl rfl (by decide) rfl (fun ls hl => ?_)
            refine lv_goto (tgt := 57) F.x F.b dX7_mostReleases_106 (by decide) ?_
            exact ih x5 (x5 + 1) _ _ _ w (lv_sub hl [2, 3, 4, 5, 1, 0] rfl) h hk
          · have h := ie c12 h
            refine lv_aload_n F.x F.b dX7_mostReleases_84 rfl (lv_at hl 0 rfl) ?_
            refine lv_iload F.x F.b dX7_mostReleases_85 (lv_at hl 5 rfl) ?_
            obtain ⟨r13, hc14, h⟩ := bd h
            try dsimp only at h
            refine kVi0 F w (As := [.int x5]) (rest := []) (w1 := wMo G.2.1 mo M) (t_X7_owed F.1 hc14) m_X7_owed v_X7_owed q1812 (ci := 11) (q0 := 0) rfl rfl rfl ⟨Nat.le_of_ble_eq_true rfl, Nat.le_of_ble_eq_true rfl⟩ rfl hl.1 rfl (Nat.le_of_ble_eq_true rfl) dX7_mostReleases_87 ⟨Nat.le_of_ble_eq_true rfl, Nat.le_of_ble_eq_true rfl⟩ (fun H locs w => ?_)
            refine lv_aload_n F.x F.b dX7_mostReleases_90 rfl (lv_at hl 0 rfl) ?_
            refine lv_iload F.x F.b dX7_mostReleases_91 (lv_at hl 4 rfl) ?_
            obtain ⟨r15, hc16, h⟩ := bd h
            try dsimp only at h
            refine kVi0 F w (As := [.int x4]) (rest := [.int r13]) (w1 := wMo G.2.1 mo M) (t_X7_owed F.1 hc16) m_X7_owed v_X7_owed q1812 (ci := 11) (q0 := 0) rfl rfl rfl ⟨Nat.le_of_ble_eq_true rfl, Nat.le_of_ble_eq_true rfl⟩ rfl hl.1 rfl (Nat.le_of_ble_eq_true rfl) dX7_mostReleases_93 ⟨Nat.le_of_ble_eq_true rfl, Nat.le_of_ble_eq_true rfl⟩ (fun H locs w => ?_)
            refine lv_icmp_ge (tgt := 103) F.x F.b dX7_mostReleases_96 (by decide) (fun c17 => ?_) (fun c17 => ?_)
            · have h := it c17 h
              refine lv_iinc (v := (x5 + 1)) (lv' := [(5, .int (x5 + 1)), (0, .ref (mo 0)), (1, .int x1), (2, .int x2), (3, .int x3), (4, .int x4)]) F.x F.b dX7_mostReleases_103 hl (k := 5) rfl rfl (by decide) rfl (fun ls hl => ?_)
              refine lv_goto (tgt := 57) F.x F.b dX7_mostReleases_106 (by decide) ?_
              exact ih x4 (x5 + 1) _ _ _ w (lv_sub hl [1, 2, 3, 4, 5, 0] rfl) h hk
            · have h := ie c17 h
              refine lv_iload F.x F.b dX7_mostReleases_99 (lv_at hl 5 rfl) ?_
              refine lv_istore (lv' := [(4, .int x5), (0, .ref (mo 0)), (1, .int x1), (2, .int x2), (3, .int x3), (5, .int x5)]) F.x F.b dX7_mostReleases_101 hl (by decide) rfl (fun ls hl => ?_)
              refine lv_iinc (v := (x5 + 1)) (lv' := [(5, .int (x5 + 1)), (4, .int x5), (0, .ref (mo 0)), (1, .int x1), (2, .int x2), (3, .int x3)]) F.x F.b dX7_mostReleases_103 hl (k := 5) rfl rfl (by decide) rfl (fun ls hl => ?_)
              refine lv_goto (tgt := 57) F.x F.b dX7_mostReleases_106 (by decide) ?_
              exact ih x5 (x5 + 1) _ _ _ w (lv_sub hl [2, 3, 4, 5, 1, 0] rfl) h hk
  have L41 : ∀ {k : Int32 → Mem → Option (Int32 × Mem)} (n : Nat) (x1 : Int32) (x2 : Int32) (x3 : Int32) (M : Mem) (H : Heap) (locs : List Loc) (ls : Array Slot), Wd G A s.heap (wMo G.2.1 mo M) H locs → lv_has ls 6 [(0, .ref (mo 0)), (1, .int x1), (2, .int x2), (3, .int x3)] → f_X7_mostReleases_L41 k n x1 x2 x3 M = some (r, M') → (∀ (x1 : Int32) (M : Mem) (H : Heap) (locs : List Loc) (ls : Array Slot), Wd G A s.heap (wMo G.2.1 mo M) H locs → lv_has ls 6 [(1, .int x1)] → k x1 M = some (r, M') → W p l e { frames := 3, cells := 0, slots := 0, locals := 64 } s m args below meth c H locs 0 0 (QI G A (wMo G.2.1 mo M') r below args s) (F0 m 147 ls [])) → W p l e { frames := 3, cells := 0, slots := 0, locals := 64 } s m args below meth c H locs 0 0 (QI G A (wMo G.2.1 mo M') r below args s) (F0 m 41 ls []) := by
    clear h w hl
    intro k n
    induction n with
    | zero =>
      intro x1 x2 x3 M H locs ls w hl h hk
      exact nomatch (show (none : Option (Int32 × Mem)) = some (r, M') from h)
    | succ n ih =>
      intro x1 x2 x3 M H locs ls w hl h hk
      rw [f_X7_mostReleases_L41] at h
      refine lv_iload_n F.x F.b dX7_mostReleases_41 rfl (lv_at hl 3 rfl) ?_
      refine lv_aload_n F.x F.b dX7_mostReleases_42 rfl (lv_at hl 0 rfl) ?_
      refine rg F w cl7 0 (at_Mo_0 _ _ _) 1 (by decide) q1548 rfl (v := .ref (mo 1)) rfl dX7_mostReleases_43 ?_
      refine lv_iconst (v := 1) F.x F.b dX7_mostReleases_46 (by decide) ?_
      obtain ⟨g6, h⟩ := gd h
      refine ri F w 1 (n := 148) (f := M.2 0) (at_Mo_1 _ _ _) g6 dX7_mostReleases_47 ?_
      refine lv_icmp_ge (tgt := 147) F.x F.b dX7_mostReleases_48 (by decide) (fun c7 => ?_) (fun c7 => ?_)
      · have h := it c7 h
        exact hk x1 M _ _ _ w (lv_sub hl [1] rfl) h
      · have h := ie c7 h
        refine lv_iconst (v := (-1)) F.x F.b dX7_mostReleases_51 (by decide) ?_
        refine lv_istore (lv' := [(4, .int (-1)), (0, .ref (mo 0)), (1, .int x1), (2, .int x2), (3, .int x3)]) F.x F.b dX7_mostReleases_52 hl (by decide) rfl (fun ls hl => ?_)
        refine lv_iconst (v := 0) F.x F.b dX7_mostReleases_54 (by decide) ?_
        refine lv_istore (lv' := [(5, .int 0), (4, .int (-1)), (0, .ref (mo 0)), (1, .int x1), (2, .int x2), (3, .int x3)]) F.x F.b dX7_mostReleases_55 hl (by decide) rfl (fun ls hl => ?_)
        refine L57 x1 x2 x3 M _ (-1) 0 _ _ _ w (lv_sub hl [2, 3, 4, 5, 1, 0] rfl) h ?_
        intro y18_4 H locs ls w hl h
        try dsimp only at h
        refine lv_aload_n F.x F.b dX7_mostReleases_109 rfl (lv_at hl 0 rfl) ?_
        refine rg F w cl7 0 (at_Mo_0 _ _ _) 12 (by decide) q1559 rfl (v := .ref (mo 10)) rfl dX7_mostReleases_110 ?_
        refine lv_iload F.x F.b dX7_mostReleases_113 (lv_at hl 4 rfl) ?_
        refine lv_iconst (v := 1) F.x F.b dX7_mostReleases_115 (by decide) ?_
        obtain ⟨g19, h⟩ := gd h
        refine ris F w (ws' := wMo G.2.1 mo (wrA M 9 y18_4 1)) 10 (n := 24) (f := M.2 9) (at_Mo_10 _ _ _) g19 (st_Mo_10 _ _ _ _ _) dX7_mostReleases_116 (fun H locs w => ?_)
        refine lv_aload_n F.x F.b dX7_mostReleases_117 rfl (lv_at hl 0 rfl) ?_
        refine lv_iload F.x F.b dX7_mostReleases_118 (lv_at hl 4 rfl) ?_
        obtain ⟨r20, hc21, h⟩ := bd h
        try dsimp only at h
        refine kVi0 F w (As := [.int y18_4]) (rest := []) (w1 := wMo G.2.1 mo (wrA M 9 y18_4 1)) (t_X7_owed F.1 hc21) m_X7_owed v_X7_owed q1812 (ci := 11) (q0 := 0) rfl rfl rfl ⟨Nat.le_of_ble_eq_true rfl, Nat.le_of_ble_eq_true rfl⟩ rfl hl.1 rfl (Nat.le_of_ble_eq_true rfl) dX7_mostReleases_120 ⟨Nat.le_of_ble_eq_true rfl, Nat.le_of_ble_eq_true rfl⟩ (fun H locs w => ?_)
        refine lv_iload_n F.x F.b dX7_mostReleases_123 rfl (lv_at hl 2 rfl) ?_
        refine lv_icmp_le (tgt := 129) F.x F.b dX7_mostReleases_124 (by decide) (fun c22 => ?_) (fun c22 => ?_)
        · have h := it c22 h
          refine lv_iload_n F.x F.b dX7_mostReleases_129 rfl (lv_at hl 2 rfl) ?_
          refine lv_aload_n F.x F.b dX7_mostReleases_130 rfl (lv_at hl 0 rfl) ?_
          refine lv_iload F.x F.b dX7_mostReleases_131 (lv_at hl 4 rfl) ?_
          obtain ⟨r23, hc24, h⟩ := bd h
          try dsimp only at h
          refine kVi0 F w (As := [.int y18_4]) (rest := [.int x2]) (w1 := wMo G.2.1 mo (wrA M 9 y18_4 1)) (t_X7_owed F.1 hc24) m_X7_owed v_X7_owed q1812 (ci := 11) (q0 := 0) rfl rfl rfl ⟨Nat.le_of_ble_eq_true rfl, Nat.le_of_ble_eq_true rfl⟩ rfl hl.1 rfl (Nat.le_of_ble_eq_true rfl) dX7_mostReleases_133 ⟨Nat.le_of_ble_eq_true rfl, Nat.le_of_ble_eq_true rfl⟩ (fun H locs w => ?_)
          refine lv_isub F.x F.b dX7_mostReleases_136 ?_
          refine lv_istore_n (lv' := [(2, .int (x2 - r23)), (0, .ref (mo 0)), (1, .int x1), (3, .int x3), (4, .int y18_4)]) F.x F.b dX7_mostReleases_137 rfl hl (by decide) rfl (fun ls hl => ?_)
          refine lv_iinc (v := (x1 + 1)) (lv' := [(1, .int (x1 + 1)), (2, .int (x2 - r23)), (0, .ref (mo 0)), (3, .int x3), (4, .int y18_4)]) F.x F.b dX7_mostReleases_138 hl (k := 2) rfl rfl (by decide) rfl (fun ls hl => ?_)
          refine lv_iinc (v := (x3 + 1)) (lv' := [(3, .int (x3 + 1)), (1, .int (x1 + 1)), (2, .int (x2 - r23)), (0, .ref (mo 0)), (4, .int y18_4)]) F.x F.b dX7_mostReleases_141 hl (k := 3) rfl rfl (by decide) rfl (fun ls hl => ?_)
          refine lv_goto (tgt := 41) F.x F.b dX7_mostReleases_144 (by decide) ?_
          exact ih (x1 + 1) (x2 - r23) (x3 + 1) (wrA M 9 y18_4 1) _ _ _ w (lv_sub hl [3, 1, 2, 0] rfl) h hk
        · have h := ie c22 h
          refine lv_iload_n F.x F.b dX7_mostReleases_127 rfl (lv_at hl 1 rfl) ?_
          obtain ⟨z0, z1⟩ := sm2 (sm h)
          exact ei F w hr hlocks rfl z0 (by rw [← z1]) dX7_mostReleases_128
  refine lv_aload_n F.x F.b dX7_mostReleases_0 rfl (lv_at hl 0 rfl) ?_
  refine lv_iconst (v := 0) F.x F.b dX7_mostReleases_1 (by decide) ?_
  refine rp F w (ws' := wMo G.2.1 mo (wrI M 0 0)) cl7 0 (at_Mo_0 _ _ _) 0 (by decide) q1547 rfl rfl rfl rfl (Nat.le_of_ble_eq_true rfl) (pt_Mo_0_0 _ _ _ _) dX7_mostReleases_2 (fun H locs w => ?_)
  refine lv_iconst (v := 0) F.x F.b dX7_mostReleases_5 (by decide) ?_
  refine lv_istore_n (lv' := [(1, .int 0), (0, .ref (mo 0))]) F.x F.b dX7_mostReleases_6 rfl hl (by decide) rfl (fun ls hl => ?_)
  refine lv_aload_n F.x F.b dX7_mostReleases_7 rfl (lv_at hl 1 rfl) ?_
  refine rg F w cl7 0 (at_Mo_0 _ _ _) 1 (by decide) q1548 rfl (v := .ref (mo 1)) rfl dX7_mostReleases_8 ?_
  refine lv_iconst (v := 4) F.x F.b dX7_mostReleases_11 (by decide) ?_
  obtain ⟨g1, h⟩ := gd h
  refine ri F w 1 (n := 148) (f := (wrI M 0 0).2 0) (at_Mo_1 _ _ _) g1 dX7_mostReleases_12 ?_
  refine lv_istore_n (lv' := [(2, .int (M.2 0 (Int32.toNatClampNeg 4))), (1, .int 0), (0, .ref (mo 0))]) F.x F.b dX7_mostReleases_13 rfl hl (by decide) rfl (fun ls hl => ?_)
  refine lv_iconst (v := 0) F.x F.b dX7_mostReleases_14 (by decide) ?_
  refine lv_istore_n (lv' := [(3, .int 0), (2, .int (M.2 0 (Int32.toNatClampNeg 4))), (1, .int 0), (0, .ref (mo 0))]) F.x F.b dX7_mostReleases_15 rfl hl (by decide) rfl (fun ls hl => ?_)
  refine L16 0 (M.2 0 (Int32.toNatClampNeg 4)) _ 0 (wrI M 0 0) _ _ _ w (lv_sub hl [3, 2, 1, 0] rfl) h ?_
  intro M_5 H locs ls w hl h
  try dsimp only at h
  refine lv_iconst (v := 0) F.x F.b dX7_mostReleases_39 (by decide) ?_
  refine lv_istore_n (lv' := [(3, .int 0), (0, .ref (mo 0)), (1, .int 0), (2, .int (M.2 0 (Int32.toNatClampNeg 4)))]) F.x F.b dX7_mostReleases_40 rfl hl (by decide) rfl (fun ls hl => ?_)
  refine L41 _ 0 (M.2 0 (Int32.toNatClampNeg 4)) 0 M_5 _ _ _ w (lv_sub hl [1, 2, 3, 0] rfl) h ?_
  intro y25_1 M_25 H locs ls w hl h
  try dsimp only at h
  refine lv_iload_n F.x F.b dX7_mostReleases_147 rfl (lv_at hl 0 rfl) ?_
  obtain ⟨z0, z1⟩ := sm2 (sm h)
  exact ei F w hr hlocks rfl z0 (by rw [← z1]) dX7_mostReleases_148
set_option maxRecDepth 100000 in
set_option maxHeartbeats 4000000 in
theorem t_X7_writes {G : cG} (g : GOK G) {mo : Nat → Nat} {M : Mem} {x1 : Int32} {M' : Mem} (h : f_X7_writes M x1 = some M') : CV G yX7_writes cX7_writes 2 0 0 [.ref (mo 0), .int x1] (wMo G.2.1 mo M) (wMo G.2.1 mo M') := by
  unfold f_X7_writes at h
  refine CV.of g (by decide) rfl (Nat.le_of_ble_eq_true rfl) ?_
  intro p l e s m below meth c A ls F hr hlocks w hl
  generalize ([.ref (mo 0), .int x1] : List Value).toArray = args
  have hl : lv_has ls 2 [(0, .ref (mo 0)), (1, .int x1)] := hl
  refine lv_aload_n F.x F.b dX7_writes_0 rfl (lv_at hl 0 rfl) ?_
  refine rg F w cl7 0 (at_Mo_0 _ _ _) 10 (by decide) q1557 rfl (v := .ref (mo 8)) rfl dX7_writes_1 ?_
  refine lv_aload_n F.x F.b dX7_writes_4 rfl (lv_at hl 0 rfl) ?_
  refine rg F w cl7 0 (at_Mo_0 _ _ _) 14 (by decide) q1561 rfl (v := .int (M.1 4)) rfl dX7_writes_5 ?_
  refine lv_iload_n F.x F.b dX7_writes_8 rfl (lv_at hl 1 rfl) ?_
  obtain ⟨g1, h⟩ := gd h
  refine ris F w (ws' := wMo G.2.1 mo (wrA M 7 (M.1 4) x1)) 8 (n := 40) (f := M.2 7) (at_Mo_8 _ _ _) g1 (st_Mo_8 _ _ _ _ _) dX7_writes_9 (fun H locs w => ?_)
  refine lv_aload_n F.x F.b dX7_writes_10 rfl (lv_at hl 0 rfl) ?_
  refine lv_dup F.x F.b dX7_writes_11 rfl ?_
  refine rg F w cl7 0 (at_Mo_0 _ _ _) 14 (by decide) q1561 rfl (v := .int (M.1 4)) rfl dX7_writes_12 ?_
  refine lv_iconst (v := 1) F.x F.b dX7_writes_15 (by decide) ?_
  refine lv_iadd F.x F.b dX7_writes_16 ?_
  refine rp F w (ws' := wMo G.2.1 mo (wrI (wrA M 7 (M.1 4) x1) 4 ((M.1 4) + 1))) cl7 0 (at_Mo_0 _ _ _) 14 (by decide) q1561 rfl rfl rfl rfl (Nat.le_of_ble_eq_true rfl) (pt_Mo_0_14 _ _ _ _) dX7_writes_17 (fun H locs w => ?_)
  have z0 := sm h
  exact ev F w hr hlocks (by rw [← z0]) dX7_writes_20
set_option maxRecDepth 100000 in
set_option maxHeartbeats 4000000 in
theorem t_X7_writesNumber {G : cG} (g : GOK G) {mo : Nat → Nat} {M : Mem} {x1 : Int32} {M' : Mem} (h : f_X7_writesNumber M x1 = some M') : CV G yX7_writesNumber cX7_writesNumber 2 1 21 [.ref (mo 0), .int x1] (wMo G.2.1 mo M) (wMo G.2.1 mo M') := by
  unfold f_X7_writesNumber at h
  refine CV.of g (by decide) rfl (Nat.le_of_ble_eq_true rfl) ?_
  intro p l e s m below meth c A ls F hr hlocks w hl
  generalize ([.ref (mo 0), .int x1] : List Value).toArray = args
  have hl : lv_has ls 2 [(0, .ref (mo 0)), (1, .int x1)] := hl
  refine lv_iload_n F.x F.b dX7_writesNumber_0 rfl (lv_at hl 1 rfl) ?_
  refine lv_bipush (v := 9) F.x F.b dX7_writesNumber_1 (by decide) ?_
  refine lv_icmp_le (tgt := 17) F.x F.b dX7_writesNumber_3 (by decide) (fun c1 => ?_) (fun c1 => ?_)
  · have h := it c1 h
    refine lv_aload_n F.x F.b dX7_writesNumber_17 rfl (lv_at hl 0 rfl) ?_
    refine lv_bipush (v := 48) F.x F.b dX7_writesNumber_18 (by decide) ?_
    refine lv_iload_n F.x F.b dX7_writesNumber_20 rfl (lv_at hl 1 rfl) ?_
    refine lv_bipush (v := 10) F.x F.b dX7_writesNumber_21 (by decide) ?_
    refine lv_irem F.x F.b dX7_writesNumber_23 (by decide) ?_
    refine lv_iadd F.x F.b dX7_writesNumber_24 ?_
    obtain ⟨M_2, hc3, h⟩ := bd h
    try dsimp only at h
    refine kVv0 F w (As := [.int (48 + (x1 - x1 / 10 * 10))]) (rest := []) (w1 := wMo G.2.1 mo M_2) (t_X7_writes F.1 hc3) m_X7_writes v_X7_writes q1938 (ci := 11) (q0 := 0) rfl rfl rfl ⟨Nat.le_of_ble_eq_true rfl, Nat.le_of_ble_eq_true rfl⟩ rfl hl.1 rfl (Nat.le_of_ble_eq_true rfl) dX7_writesNumber_25 ⟨Nat.le_of_ble_eq_true rfl, Nat.le_of_ble_eq_true rfl⟩ (fun H locs w => ?_)
    have z0 := sm h
    exact ev F w hr hlocks (by rw [← z0]) dX7_writesNumber_28
  · have h := ie c1 h
    refine lv_aload_n F.x F.b dX7_writesNumber_6 rfl (lv_at hl 0 rfl) ?_
    refine lv_bipush (v := 48) F.x F.b dX7_writesNumber_7 (by decide) ?_
    refine lv_iload_n F.x F.b dX7_writesNumber_9 rfl (lv_at hl 1 rfl) ?_
    refine lv_bipush (v := 10) F.x F.b dX7_writesNumber_10 (by decide) ?_
    refine lv_idiv F.x F.b dX7_writesNumber_12 (by decide) ?_
    refine lv_iadd F.x F.b dX7_writesNumber_13 ?_
    obtain ⟨M_4, hc5, h⟩ := bd h
    try dsimp only at h
    refine kVv0 F w (As := [.int (48 + (x1 / 10))]) (rest := []) (w1 := wMo G.2.1 mo M_4) (t_X7_writes F.1 hc5) m_X7_writes v_X7_writes q1938 (ci := 11) (q0 := 0) rfl rfl rfl ⟨Nat.le_of_ble_eq_true rfl, Nat.le_of_ble_eq_true rfl⟩ rfl hl.1 rfl (Nat.le_of_ble_eq_true rfl) dX7_writesNumber_14 ⟨Nat.le_of_ble_eq_true rfl, Nat.le_of_ble_eq_true rfl⟩ (fun H locs w => ?_)
    refine lv_aload_n F.x F.b dX7_writesNumber_17 rfl (lv_at hl 0 rfl) ?_
    refine lv_bipush (v := 48) F.x F.b dX7_writesNumber_18 (by decide) ?_
    refine lv_iload_n F.x F.b dX7_writesNumber_20 rfl (lv_at hl 1 rfl) ?_
    refine lv_bipush (v := 10) F.x F.b dX7_writesNumber_21 (by decide) ?_
    refine lv_irem F.x F.b dX7_writesNumber_23 (by decide) ?_
    refine lv_iadd F.x F.b dX7_writesNumber_24 ?_
    obtain ⟨M_6, hc7, h⟩ := bd h
    try dsimp only at h
    refine kVv0 F w (As := [.int (48 + (x1 - x1 / 10 * 10))]) (rest := []) (w1 := wMo G.2.1 mo M_6) (t_X7_writes F.1 hc7) m_X7_writes v_X7_writes q1938 (ci := 11) (q0 := 0) rfl rfl rfl ⟨Nat.le_of_ble_eq_true rfl, Nat.le_of_ble_eq_true rfl⟩ rfl hl.1 rfl (Nat.le_of_ble_eq_true rfl) dX7_writesNumber_25 ⟨Nat.le_of_ble_eq_true rfl, Nat.le_of_ble_eq_true rfl⟩ (fun H locs w => ?_)
    have z0 := sm h
    exact ev F w hr hlocks (by rw [← z0]) dX7_writesNumber_28
set_option maxRecDepth 100000 in
set_option maxHeartbeats 4000000 in
theorem t_X7_writeLot {G : cG} (g : GOK G) {mo : Nat → Nat} {M : Mem} {x1 : Int32} {r : Int32} {M' : Mem} (h : f_X7_writeLot M x1 = some (r, M')) : CI G yX7_writeLot cX7_writeLot 3 .int 2 44 [.ref (mo 0), .int x1] (wMo G.2.1 mo M) (wMo G.2.1 mo M') r := by
  unfold f_X7_writeLot at h
  refine CI.of g (by decide) rfl (Nat.le_of_ble_eq_true rfl) ?_
  intro p l e s m below meth c A ls F hr hlocks w hl
  generalize ([.ref (mo 0), .int x1] : List Value).toArray = args
  have hl : lv_has ls 3 [(0, .ref (mo 0)), (1, .int x1)] := hl
  refine lv_aload_n F.x F.b dX7_writeLot_0 rfl (lv_at hl 0 rfl) ?_
  refine lv_iload_n F.x F.b dX7_writeLot_1 rfl (lv_at hl 1 rfl) ?_
  obtain ⟨r1, hc2, h⟩ := bd h
  try dsimp only at h
  refine kVi0 F w (As := [.int x1]) (rest := []) (w1 := wMo G.2.1 mo M) (t_X7_placeOf F.1 hc2) m_X7_placeOf v_X7_placeOf q1675 (ci := 11) (q0 := 0) rfl rfl rfl ⟨Nat.le_of_ble_eq_true rfl, Nat.le_of_ble_eq_true rfl⟩ rfl hl.1 rfl (Nat.le_of_ble_eq_true rfl) dX7_writeLot_2 ⟨Nat.le_of_ble_eq_true rfl, Nat.le_of_ble_eq_true rfl⟩ (fun H locs w => ?_)
  refine lv_istore_n (lv' := [(2, .int r1), (0, .ref (mo 0)), (1, .int x1)]) F.x F.b dX7_writeLot_5 rfl hl (by decide) rfl (fun ls hl => ?_)
  refine lv_aload_n F.x F.b dX7_writeLot_6 rfl (lv_at hl 1 rfl) ?_
  refine lv_iload_n F.x F.b dX7_writeLot_7 rfl (lv_at hl 0 rfl) ?_
  refine lv_iconst (v := (-1)) F.x F.b dX7_writeLot_8 (by decide) ?_
  refine lv_icmp_ne (tgt := 16) F.x F.b dX7_writeLot_9 (by decide) (fun c3 => ?_) (fun c3 => ?_)
  · have h := ie c3 h
    refine lv_iconst (v := 0) F.x F.b dX7_writeLot_16 (by decide) ?_
    refine rp F w (ws' := wMo G.2.1 mo (wrI M 0 0)) cl7 0 (at_Mo_0 _ _ _) 0 (by decide) q1547 rfl rfl rfl rfl (Nat.le_of_ble_eq_true rfl) (pt_Mo_0_0 _ _ _ _) dX7_writeLot_17 (fun H locs w => ?_)
    refine lv_aload_n F.x F.b dX7_writeLot_20 rfl (lv_at hl 1 rfl) ?_
    refine rg F w cl7 0 (at_Mo_0 _ _ _) 0 (by decide) q1547 rfl (v := .int 0) rfl dX7_writeLot_21 ?_
    refine lv_if_le (tgt := 29) F.x F.b dX7_writeLot_24 (by decide) (fun _ => ?_) (fun c9 => absurd (by decide) c9)
    refine lv_aload_n F.x F.b dX7_writeLot_29 rfl (lv_at hl 1 rfl) ?_
    refine lv_iconst (v := 0) F.x F.b dX7_writeLot_30 (by decide) ?_
    refine rp F w (ws' := wMo G.2.1 mo (wrI (wrI M 0 0) 4 0)) cl7 0 (at_Mo_0 _ _ _) 14 (by decide) q1561 rfl rfl rfl rfl (Nat.le_of_ble_eq_true rfl) (pt_Mo_0_14 _ _ _ _) dX7_writeLot_31 (fun H locs w => ?_)
    refine lv_aload_n F.x F.b dX7_writeLot_34 rfl (lv_at hl 1 rfl) ?_
    refine lv_aload_n F.x F.b dX7_writeLot_35 rfl (lv_at hl 1 rfl) ?_
    refine lv_iload_n F.x F.b dX7_writeLot_36 rfl (lv_at hl 0 rfl) ?_
    refine lv_iconst (v := 1) F.x F.b dX7_writeLot_37 (by decide) ?_
    obtain ⟨r4, hc5, h⟩ := bd h
    try dsimp only at h
    refine kVi0 F w (As := [.int r1, .int 1]) (rest := [.ref (mo 0)]) (w1 := wMo G.2.1 mo (wrI (wrI M 0 0) 4 0)) (t_X7_of F.1 hc5) m_X7_of v_X7_of q1643 (ci := 11) (q0 := 0) rfl rfl rfl ⟨Nat.le_of_ble_eq_true rfl, Nat.le_of_ble_eq_true rfl⟩ rfl hl.1 rfl (Nat.le_of_ble_eq_true rfl) dX7_writeLot_38 ⟨Nat.le_of_ble_eq_true rfl, Nat.le_of_ble_eq_true rfl⟩ (fun H locs w => ?_)
    obtain ⟨M_6, hc7, h⟩ := bd h
    try dsimp only at h
    refine kVv0 F w (As := [.int r4]) (rest := []) (w1 := wMo G.2.1 mo M_6) (t_X7_writes F.1 hc7) m_X7_writes v_X7_writes q1938 (ci := 11) (q0 := 0) rfl rfl rfl ⟨Nat.le_of_ble_eq_true rfl, Nat.le_of_ble_eq_true rfl⟩ rfl hl.1 rfl (Nat.le_of_ble_eq_true rfl) dX7_writeLot_41 ⟨Nat.le_of_ble_eq_true rfl, Nat.le_of_ble_eq_true rfl⟩ (fun H locs w => ?_)
    refine lv_aload_n F.x F.b dX7_writeLot_44 rfl (lv_at hl 1 rfl) ?_
    refine lv_aload_n F.x F.b dX7_writeLot_45 rfl (lv_at hl 1 rfl) ?_
    refine lv_iload_n F.x F.b dX7_writeLot_46 rfl (lv_at hl 0 rfl) ?_
    refine lv_iconst (v := 2) F.x F.b dX7_writeLot_47 (by decide) ?_
    obtain ⟨r8, hc9, h⟩ := bd h
    try dsimp only at h
    refine kVi0 F w (As := [.int r1, .int 2]) (rest := [.ref (mo 0)]) (w1 := wMo G.2.1 mo M_6) (t_X7_of F.1 hc9) m_X7_of v_X7_of q1643 (ci := 11) (q0 := 0) rfl rfl rfl ⟨Nat.le_of_ble_eq_true rfl, Nat.le_of_ble_eq_true rfl⟩ rfl hl.1 rfl (Nat.le_of_ble_eq_true rfl) dX7_writeLot_48 ⟨Nat.le_of_ble_eq_true rfl, Nat.le_of_ble_eq_true rfl⟩ (fun H locs w => ?_)
    obtain ⟨M_10, hc11, h⟩ := bd h
    try dsimp only at h
    refine kVv0 F w (As := [.int r8]) (rest := []) (w1 := wMo G.2.1 mo M_10) (t_X7_writesNumber F.1 hc11) m_X7_writesNumber v_X7_writesNumber q1942 (ci := 11) (q0 := 0) rfl rfl rfl ⟨Nat.le_of_ble_eq_true rfl, Nat.le_of_ble_eq_true rfl⟩ rfl hl.1 rfl (Nat.le_of_ble_eq_true rfl) dX7_writeLot_51 ⟨Nat.le_of_ble_eq_true rfl, Nat.le_of_ble_eq_true rfl⟩ (fun H locs w => ?_)
    refine lv_aload_n F.x F.b dX7_writeLot_54 rfl (lv_at hl 1 rfl) ?_
    refine lv_bipush (v := 42) F.x F.b dX7_writeLot_55 (by decide) ?_
    obtain ⟨M_12, hc13, h⟩ := bd h
    try dsimp only at h
    refine kVv0 F w (As := [.int 42]) (rest := []) (w1 := wMo G.2.1 mo M_12) (t_X7_writes F.1 hc13) m_X7_writes v_X7_writes q1938 (ci := 11) (q0 := 0) rfl rfl rfl ⟨Nat.le_of_ble_eq_true rfl, Nat.le_of_ble_eq_true rfl⟩ rfl hl.1 rfl (Nat.le_of_ble_eq_true rfl) dX7_writeLot_57 ⟨Nat.le_of_ble_eq_true rfl, Nat.le_of_ble_eq_true rfl⟩ (fun H locs w => ?_)
    refine lv_aload_n F.x F.b dX7_writeLot_60 rfl (lv_at hl 1 rfl) ?_
    refine lv_aload_n F.x F.b dX7_writeLot_61 rfl (lv_at hl 1 rfl) ?_
    refine lv_iload_n F.x F.b dX7_writeLot_62 rfl (lv_at hl 0 rfl) ?_
    refine lv_iconst (v := 3) F.x F.b dX7_writeLot_63 (by decide) ?_
    obtain ⟨r14, hc15, h⟩ := bd h
    try dsimp only at h
    refine kVi0 F w (As := [.int r1, .int 3]) (rest := [.ref (mo 0)]) (w1 := wMo G.2.1 mo M_12) (t_X7_of F.1 hc15) m_X7_of v_X7_of q1643 (ci := 11) (q0 := 0) rfl rfl rfl ⟨Nat.le_of_ble_eq_true rfl, Nat.le_of_ble_eq_true rfl⟩ rfl hl.1 rfl (Nat.le_of_ble_eq_true rfl) dX7_writeLot_64 ⟨Nat.le_of_ble_eq_true rfl, Nat.le_of_ble_eq_true rfl⟩ (fun H locs w => ?_)
    obtain ⟨M_16, hc17, h⟩ := bd h
    try dsimp only at h
    refine kVv0 F w (As := [.int r14]) (rest := []) (w1 := wMo G.2.1 mo M_16) (t_X7_writesNumber F.1 hc17) m_X7_writesNumber v_X7_writesNumber q1942 (ci := 11) (q0 := 0) rfl rfl rfl ⟨Nat.le_of_ble_eq_true rfl, Nat.le_of_ble_eq_true rfl⟩ rfl hl.1 rfl (Nat.le_of_ble_eq_true rfl) dX7_writeLot_67 ⟨Nat.le_of_ble_eq_true rfl, Nat.le_of_ble_eq_true rfl⟩ (fun H locs w => ?_)
    refine lv_aload_n F.x F.b dX7_writeLot_70 rfl (lv_at hl 1 rfl) ?_
    refine lv_bipush (v := 64) F.x F.b dX7_writeLot_71 (by decide) ?_
    obtain ⟨M_18, hc19, h⟩ := bd h
    try dsimp only at h
    refine kVv0 F w (As := [.int 64]) (rest := []) (w1 := wMo G.2.1 mo M_18) (t_X7_writes F.1 hc19) m_X7_writes v_X7_writes q1938 (ci := 11) (q0 := 0) rfl rfl rfl ⟨Nat.le_of_ble_eq_true rfl, Nat.le_of_ble_eq_true rfl⟩ rfl hl.1 rfl (Nat.le_of_ble_eq_true rfl) dX7_writeLot_73 ⟨Nat.le_of_ble_eq_true rfl, Nat.le_of_ble_eq_true rfl⟩ (fun H locs w => ?_)
    refine lv_aload_n F.x F.b dX7_writeLot_76 rfl (lv_at hl 1 rfl) ?_
    refine lv_aload_n F.x F.b dX7_writeLot_77 rfl (lv_at hl 1 rfl) ?_
    refine lv_iload_n F.x F.b dX7_writeLot_78 rfl (lv_at hl 0 rfl) ?_
    refine lv_iconst (v := 4) F.x F.b dX7_writeLot_79 (by decide) ?_
    obtain ⟨r20, hc21, h⟩ := bd h
    try dsimp only at h
    refine kVi0 F w (As := [.int r1, .int 4]) (rest := [.ref (mo 0)]) (w1 := wMo G.2.1 mo M_18) (t_X7_of F.1 hc21) m_X7_of v_X7_of q1643 (ci := 11) (q0 := 0) rfl rfl rfl ⟨Nat.le_of_ble_eq_true rfl, Nat.le_of_ble_eq_true rfl⟩ rfl hl.1 rfl (Nat.le_of_ble_eq_true rfl) dX7_writeLot_80 ⟨Nat.le_of_ble_eq_true rfl, Nat.le_of_ble_eq_true rfl⟩ (fun H locs w => ?_)
    obtain ⟨M_22, hc23, h⟩ := bd h
    try dsimp only at h
    refine kVv0 F w (As := [.int r20]) (rest := []) (w1 := wMo G.2.1 mo M_22) (t_X7_writesNumber F.1 hc23) m_X7_writesNumber v_X7_writesNumber q1942 (ci := 11) (q0 := 0) rfl rfl rfl ⟨Nat.le_of_ble_eq_true rfl, Nat.le_of_ble_eq_true rfl⟩ rfl hl.1 rfl (Nat.le_of_ble_eq_true rfl) dX7_writeLot_83 ⟨Nat.le_of_ble_eq_true rfl, Nat.le_of_ble_eq_true rfl⟩ (fun H locs w => ?_)
    refine lv_aload_n F.x F.b dX7_writeLot_86 rfl (lv_at hl 1 rfl) ?_
    refine lv_iload_n F.x F.b dX7_writeLot_87 rfl (lv_at hl 0 rfl) ?_
    refine lv_iconst (v := 5) F.x F.b dX7_writeLot_88 (by decide) ?_
    obtain ⟨r24, hc25, h⟩ := bd h
    try dsimp only at h
    refine kVi0 F w (As := [.int r1, .int 5]) (rest := []) (w1 := wMo G.2.1 mo M_22) (t_X7_of F.1 hc25) m_X7_of v_X7_of q1643 (ci := 11) (q0 := 0) rfl rfl rfl ⟨Nat.le_of_ble_eq_true rfl, Nat.le_of_ble_eq_true rfl⟩ rfl hl.1 rfl (Nat.le_of_ble_eq_true rfl) dX7_writeLot_89 ⟨Nat.le_of_ble_eq_true rfl, Nat.le_of_ble_eq_true rfl⟩ (fun H locs w => ?_)
    refine lv_iconst (v := 1) F.x F.b dX7_writeLot_92 (by decide) ?_
    refine lv_icmp_ne (tgt := 102) F.x F.b dX7_writeLot_93 (by decide) (fun c26 => ?_) (fun c26 => ?_)
    · have h := ie c26 h
      refine lv_aload_n F.x F.b dX7_writeLot_102 rfl (lv_at hl 1 rfl) ?_
      refine lv_iload_n F.x F.b dX7_writeLot_103 rfl (lv_at hl 0 rfl) ?_
      refine lv_bipush (v := 6) F.x F.b dX7_writeLot_104 (by decide) ?_
      obtain ⟨r27, hc28, h⟩ := bd h
      try dsimp only at h
      refine kVi0 F w (As := [.int r1, .int 6]) (rest := []) (w1 := wMo G.2.1 mo M_22) (t_X7_of F.1 hc28) m_X7_of v_X7_of q1643 (ci := 11) (q0 := 0) rfl rfl rfl ⟨Nat.le_of_ble_eq_true rfl, Nat.le_of_ble_eq_true rfl⟩ rfl hl.1 rfl (Nat.le_of_ble_eq_true rfl) dX7_writeLot_106 ⟨Nat.le_of_ble_eq_true rfl, Nat.le_of_ble_eq_true rfl⟩ (fun H locs w => ?_)
      refine lv_iconst (v := 1) F.x F.b dX7_writeLot_109 (by decide) ?_
      refine lv_icmp_ne (tgt := 119) F.x F.b dX7_writeLot_110 (by decide) (fun c29 => ?_) (fun c29 => ?_)
      · have h := ie c29 h
        refine lv_aload_n F.x F.b dX7_writeLot_119 rfl (lv_at hl 1 rfl) ?_
        refine lv_iload_n F.x F.b dX7_writeLot_120 rfl (lv_at hl 2 rfl) ?_
        obtain ⟨r30, hc31, h⟩ := bd h
        try dsimp only at h
        refine kVi0 F w (As := [.int x1]) (rest := []) (w1 := wMo G.2.1 mo M_22) (t_X7_waits F.1 hc31) m_X7_waits v_X7_waits q1841 (ci := 11) (q0 := 0) rfl rfl rfl ⟨Nat.le_of_ble_eq_true rfl, Nat.le_of_ble_eq_true rfl⟩ rfl hl.1 rfl (Nat.le_of_ble_eq_true rfl) dX7_writeLot_121 ⟨Nat.le_of_ble_eq_true rfl, Nat.le_of_ble_eq_true rfl⟩ (fun H locs w => ?_)
        refine lv_iconst (v := (-1)) F.x F.b dX7_writeLot_124 (by decide) ?_
        refine lv_icmp_eq (tgt := 134) F.x F.b dX7_writeLot_125 (by decide) (fun c32 => ?_) (fun c32 => ?_)
        · have h := it c32 h
          refine lv_aload_n F.x F.b dX7_writeLot_134 rfl (lv_at hl 1 rfl) ?_
          refine rg F w cl7 0 (at_Mo_0 _ _ _) 14 (by decide) q1561 rfl (v := .int (M_22.1 4)) rfl dX7_writeLot_135 ?_
          obtain ⟨z0, z1⟩ := sm2 (sm h)
          exact ei F w hr hlocks rfl z0 (by rw [← z1]) dX7_writeLot_138
        · have h := ie c32 h
          refine lv_aload_n F.x F.b dX7_writeLot_128 rfl (lv_at hl 1 rfl) ?_
          refine lv_bipush (v := 63) F.x F.b dX7_writeLot_129 (by decide) ?_
          obtain ⟨M_33, hc34, h⟩ := bd h
          try dsimp only at h
          refine kVv0 F w (As := [.int 63]) (rest := []) (w1 := wMo G.2.1 mo M_33) (t_X7_writes F.1 hc34) m_X7_writes v_X7_writes q1938 (ci := 11) (q0 := 0) rfl rfl rfl ⟨Nat.le_of_ble_eq_true rfl, Nat.le_of_ble_eq_true rfl⟩ rfl hl.1 rfl (Nat.le_of_ble_eq_true rfl) dX7_writeLot_131 ⟨Nat.le_of_ble_eq_true rfl, Nat.le_of_ble_eq_true rfl⟩ (fun H locs w => ?_)
          refine lv_aload_n F.x F.b dX7_writeLot_134 rfl (lv_at hl 1 rfl) ?_
          refine rg F w cl7 0 (at_Mo_0 _ _ _) 14 (by decide) q1561 rfl (v := .int (M_33.1 4)) rfl dX7_writeLot_135 ?_
          obtain ⟨z0, z1⟩ := sm2 (sm h)
          exact ei F w hr hlocks rfl z0 (by rw [← z1]) dX7_writeLot_138
      · have h := it c29 h
        refine lv_aload_n F.x F.b dX7_writeLot_113 rfl (lv_at hl 1 rfl) ?_
        refine lv_bipush (v := 126) F.x F.b dX7_writeLot_114 (by decide) ?_
        obtain ⟨M_35, hc36, h⟩ := bd h
        try dsimp only at h
        refine kVv0 F w (As := [.int 126]) (rest := []) (w1 := wMo G.2.1 mo M_35) (t_X7_writes F.1 hc36) m_X7_writes v_X7_writes q1938 (ci := 11) (q0 := 0) rfl rfl rfl ⟨Nat.le_of_ble_eq_true rfl, Nat.le_of_ble_eq_true rfl⟩ rfl hl.1 rfl (Nat.le_of_ble_eq_true rfl) dX7_writeLot_116 ⟨Nat.le_of_ble_eq_true rfl, Nat.le_of_ble_eq_true rfl⟩ (fun H locs w => ?_)
        refine lv_aload_n F.x F.b dX7_writeLot_119 rfl (lv_at hl 1 rfl) ?_
        refine lv_iload_n F.x F.b dX7_writeLot_120 rfl (lv_at hl 2 rfl) ?_
        obtain ⟨r37, hc38, h⟩ := bd h
        try dsimp only at h
        refine kVi0 F w (As := [.int x1]) (rest := []) (w1 := wMo G.2.1 mo M_35) (t_X7_waits F.1 hc38) m_X7_waits v_X7_waits q1841 (ci := 11) (q0 := 0) rfl rfl rfl ⟨Nat.le_of_ble_eq_true rfl, Nat.le_of_ble_eq_true rfl⟩ rfl hl.1 rfl (Nat.le_of_ble_eq_true rfl) dX7_writeLot_121 ⟨Nat.le_of_ble_eq_true rfl, Nat.le_of_ble_eq_true rfl⟩ (fun H locs w => ?_)
        refine lv_iconst (v := (-1)) F.x F.b dX7_writeLot_124 (by decide) ?_
        refine lv_icmp_eq (tgt := 134) F.x F.b dX7_writeLot_125 (by decide) (fun c39 => ?_) (fun c39 => ?_)
        · have h := it c39 h
          refine lv_aload_n F.x F.b dX7_writeLot_134 rfl (lv_at hl 1 rfl) ?_
          refine rg F w cl7 0 (at_Mo_0 _ _ _) 14 (by decide) q1561 rfl (v := .int (M_35.1 4)) rfl dX7_writeLot_135 ?_
          obtain ⟨z0, z1⟩ := sm2 (sm h)
          exact ei F w hr hlocks rfl z0 (by rw [← z1]) dX7_writeLot_138
        · have h := ie c39 h
          refine lv_aload_n F.x F.b dX7_writeLot_128 rfl (lv_at hl 1 rfl) ?_
          refine lv_bipush (v := 63) F.x F.b dX7_writeLot_129 (by decide) ?_
          obtain ⟨M_40, hc41, h⟩ := bd h
          try dsimp only at h
          refine kVv0 F w (As := [.int 63]) (rest := []) (w1 := wMo G.2.1 mo M_40) (t_X7_writes F.1 hc41) m_X7_writes v_X7_writes q1938 (ci := 11) (q0 := 0) rfl rfl rfl ⟨Nat.le_of_ble_eq_true rfl, Nat.le_of_ble_eq_true rfl⟩ rfl hl.1 rfl (Nat.le_of_ble_eq_true rfl) dX7_writeLot_131 ⟨Nat.le_of_ble_eq_true rfl, Nat.le_of_ble_eq_true rfl⟩ (fun H locs w => ?_)
          refine lv_aload_n F.x F.b dX7_writeLot_134 rfl (lv_at hl 1 rfl) ?_
          refine rg F w cl7 0 (at_Mo_0 _ _ _) 14 (by decide) q1561 rfl (v := .int (M_40.1 4)) rfl dX7_writeLot_135 ?_
          obtain ⟨z0, z1⟩ := sm2 (sm h)
          exact ei F w hr hlocks rfl z0 (by rw [← z1]) dX7_writeLot_138
    · have h := it c26 h
      refine lv_aload_n F.x F.b dX7_writeLot_96 rfl (lv_at hl 1 rfl) ?_
      refine lv_bipush (v := 35) F.x F.b dX7_writeLot_97 (by decide) ?_
      obtain ⟨M_42, hc43, h⟩ := bd h
      try dsimp only at h
      refine kVv0 F w (As := [.int 35]) (rest := []) (w1 := wMo G.2.1 mo M_42) (t_X7_writes F.1 hc43) m_X7_writes v_X7_writes q1938 (ci := 11) (q0 := 0) rfl rfl rfl ⟨Nat.le_of_ble_eq_true rfl, Nat.le_of_ble_eq_true rfl⟩ rfl hl.1 rfl (Nat.le_of_ble_eq_true rfl) dX7_writeLot_99 ⟨Nat.le_of_ble_eq_true rfl, Nat.le_of_ble_eq_true rfl⟩ (fun H locs w => ?_)
      refine lv_aload_n F.x F.b dX7_writeLot_102 rfl (lv_at hl 1 rfl) ?_
      refine lv_iload_n F.x F.b dX7_writeLot_103 rfl (lv_at hl 0 rfl) ?_
      refine lv_bipush (v := 6) F.x F.b dX7_writeLot_104 (by decide) ?_
      obtain ⟨r44, hc45, h⟩ := bd h
      try dsimp only at h
      refine kVi0 F w (As := [.int r1, .int 6]) (rest := []) (w1 := wMo G.2.1 mo M_42) (t_X7_of F.1 hc45) m_X7_of v_X7_of q1643 (ci := 11) (q0 := 0) rfl rfl rfl ⟨Nat.le_of_ble_eq_true rfl, Nat.le_of_ble_eq_true rfl⟩ rfl hl.1 rfl (Nat.le_of_ble_eq_true rfl) dX7_writeLot_106 ⟨Nat.le_of_ble_eq_true rfl, Nat.le_of_ble_eq_true rfl⟩ (fun H locs w => ?_)
      refine lv_iconst (v := 1) F.x F.b dX7_writeLot_109 (by decide) ?_
      refine lv_icmp_ne (tgt := 119) F.x F.b dX7_writeLot_110 (by decide) (fun c46 => ?_) (fun c46 => ?_)
      · have h := ie c46 h
        refine lv_aload_n F.x F.b dX7_writeLot_119 rfl (lv_at hl 1 rfl) ?_
        refine lv_iload_n F.x F.b dX7_writeLot_120 rfl (lv_at hl 2 rfl) ?_
        obtain ⟨r47, hc48, h⟩ := bd h
        try dsimp only at h
        refine kVi0 F w (As := [.int x1]) (rest := []) (w1 := wMo G.2.1 mo M_42) (t_X7_waits F.1 hc48) m_X7_waits v_X7_waits q1841 (ci := 11) (q0 := 0) rfl rfl rfl ⟨Nat.le_of_ble_eq_true rfl, Nat.le_of_ble_eq_true rfl⟩ rfl hl.1 rfl (Nat.le_of_ble_eq_true rfl) dX7_writeLot_121 ⟨Nat.le_of_ble_eq_true rfl, Nat.le_of_ble_eq_true rfl⟩ (fun H locs w => ?_)
        refine lv_iconst (v := (-1)) F.x F.b dX7_writeLot_124 (by decide) ?_
        refine lv_icmp_eq (tgt := 134) F.x F.b dX7_writeLot_125 (by decide) (fun c49 => ?_) (fun c49 => ?_)
        · have h := it c49 h
          refine lv_aload_n F.x F.b dX7_writeLot_134 rfl (lv_at hl 1 rfl) ?_
          refine rg F w cl7 0 (at_Mo_0 _ _ _) 14 (by decide) q1561 rfl (v := .int (M_42.1 4)) rfl dX7_writeLot_135 ?_
          obtain ⟨z0, z1⟩ := sm2 (sm h)
          exact ei F w hr hlocks rfl z0 (by rw [← z1]) dX7_writeLot_138
        · have h := ie c49 h
          refine lv_aload_n F.x F.b dX7_writeLot_128 rfl (lv_at hl 1 rfl) ?_
          refine lv_bipush (v := 63) F.x F.b dX7_writeLot_129 (by decide) ?_
          obtain ⟨M_50, hc51, h⟩ := bd h
          try dsimp only at h
          refine kVv0 F w (As := [.int 63]) (rest := []) (w1 := wMo G.2.1 mo M_50) (t_X7_writes F.1 hc51) m_X7_writes v_X7_writes q1938 (ci := 11) (q0 := 0) rfl rfl rfl ⟨Nat.le_of_ble_eq_true rfl, Nat.le_of_ble_eq_true rfl⟩ rfl hl.1 rfl (Nat.le_of_ble_eq_true rfl) dX7_writeLot_131 ⟨Nat.le_of_ble_eq_true rfl, Nat.le_of_ble_eq_true rfl⟩ (fun H locs w => ?_)
          refine lv_aload_n F.x F.b dX7_writeLot_134 rfl (lv_at hl 1 rfl) ?_
          refine rg F w cl7 0 (at_Mo_0 _ _ _) 14 (by decide) q1561 rfl (v := .int (M_50.1 4)) rfl dX7_writeLot_135 ?_
          obtain ⟨z0, z1⟩ := sm2 (sm h)
          exact ei F w hr hlocks rfl z0 (by rw [← z1]) dX7_writeLot_138
      · have h := it c46 h
        refine lv_aload_n F.x F.b dX7_writeLot_113 rfl (lv_at hl 1 rfl) ?_
        refine lv_bipush (v := 126) F.x F.b dX7_writeLot_114 (by decide) ?_
        obtain ⟨M_52, hc53, h⟩ := bd h
        try dsimp only at h
        refine kVv0 F w (As := [.int 126]) (rest := []) (w1 := wMo G.2.1 mo M_52) (t_X7_writes F.1 hc53) m_X7_writes v_X7_writes q1938 (ci := 11) (q0 := 0) rfl rfl rfl ⟨Nat.le_of_ble_eq_true rfl, Nat.le_of_ble_eq_true rfl⟩ rfl hl.1 rfl (Nat.le_of_ble_eq_true rfl) dX7_writeLot_116 ⟨Nat.le_of_ble_eq_true rfl, Nat.le_of_ble_eq_true rfl⟩ (fun H locs w => ?_)
        refine lv_aload_n F.x F.b dX7_writeLot_119 rfl (lv_at hl 1 rfl) ?_
        refine lv_iload_n F.x F.b dX7_writeLot_120 rfl (lv_at hl 2 rfl) ?_
        obtain ⟨r54, hc55, h⟩ := bd h
        try dsimp only at h
        refine kVi0 F w (As := [.int x1]) (rest := []) (w1 := wMo G.2.1 mo M_52) (t_X7_waits F.1 hc55) m_X7_waits v_X7_waits q1841 (ci := 11) (q0 := 0) rfl rfl rfl ⟨Nat.le_of_ble_eq_true rfl, Nat.le_of_ble_eq_true rfl⟩ rfl hl.1 rfl (Nat.le_of_ble_eq_true rfl) dX7_writeLot_121 ⟨Nat.le_of_ble_eq_true rfl, Nat.le_of_ble_eq_true rfl⟩ (fun H locs w => ?_)
        refine lv_iconst (v := (-1)) F.x F.b dX7_writeLot_124 (by decide) ?_
        refine lv_icmp_eq (tgt := 134) F.x F.b dX7_writeLot_125 (by decide) (fun c56 => ?_) (fun c56 => ?_)
        · have h := it c56 h
          refine lv_aload_n F.x F.b dX7_writeLot_134 rfl (lv_at hl 1 rfl) ?_
          refine rg F w cl7 0 (at_Mo_0 _ _ _) 14 (by decide) q1561 rfl (v := .int (M_52.1 4)) rfl dX7_writeLot_135 ?_
          obtain ⟨z0, z1⟩ := sm2 (sm h)
          exact ei F w hr hlocks rfl z0 (by rw [← z1]) dX7_writeLot_138
        · have h := ie c56 h
          refine lv_aload_n F.x F.b dX7_writeLot_128 rfl (lv_at hl 1 rfl) ?_
          refine lv_bipush (v := 63) F.x F.b dX7_writeLot_129 (by decide) ?_
          obtain ⟨M_57, hc58, h⟩ := bd h
          try dsimp only at h
          refine kVv0 F w (As := [.int 63]) (rest := []) (w1 := wMo G.2.1 mo M_57) (t_X7_writes F.1 hc58) m_X7_writes v_X7_writes q1938 (ci := 11) (q0 := 0) rfl rfl rfl ⟨Nat.le_of_ble_eq_true rfl, Nat.le_of_ble_eq_true rfl⟩ rfl hl.1 rfl (Nat.le_of_ble_eq_true rfl) dX7_writeLot_131 ⟨Nat.le_of_ble_eq_true rfl, Nat.le_of_ble_eq_true rfl⟩ (fun H locs w => ?_)
          refine lv_aload_n F.x F.b dX7_writeLot_134 rfl (lv_at hl 1 rfl) ?_
          refine rg F w cl7 0 (at_Mo_0 _ _ _) 14 (by decide) q1561 rfl (v := .int (M_57.1 4)) rfl dX7_writeLot_135 ?_
          obtain ⟨z0, z1⟩ := sm2 (sm h)
          exact ei F w hr hlocks rfl z0 (by rw [← z1]) dX7_writeLot_138
  · have h := it c3 h
    refine lv_iconst (v := 1) F.x F.b dX7_writeLot_12 (by decide) ?_
    refine lv_goto (tgt := 17) F.x F.b dX7_writeLot_13 (by decide) ?_
    refine rp F w (ws' := wMo G.2.1 mo (wrI M 0 1)) cl7 0 (at_Mo_0 _ _ _) 0 (by decide) q1547 rfl rfl rfl rfl (Nat.le_of_ble_eq_true rfl) (pt_Mo_0_0 _ _ _ _) dX7_writeLot_17 (fun H locs w => ?_)
    refine lv_aload_n F.x F.b dX7_writeLot_20 rfl (lv_at hl 1 rfl) ?_
    refine rg F w cl7 0 (at_Mo_0 _ _ _) 0 (by decide) q1547 rfl (v := .int 1) rfl dX7_writeLot_21 ?_
    refine lv_if_le (tgt := 29) F.x F.b dX7_writeLot_24 (by decide) (fun c9 => absurd c9 (by decide)) (fun _ => ?_)
    refine lv_iconst (v := 0) F.x F.b dX7_writeLot_27 (by decide) ?_
    obtain ⟨z0, z1⟩ := sm2 (sm h)
    exact ei F w hr hlocks rfl z0 (by rw [← z1]) dX7_writeLot_28
set_option maxRecDepth 100000 in
set_option maxHeartbeats 4000000 in
theorem t_X7_writeBays {G : cG} (g : GOK G) {mo : Nat → Nat} {M : Mem} {r : Int32} {M' : Mem} (h : f_X7_writeBays M = some (r, M')) : CI G yX7_writeBays cX7_writeBays 3 .int 2 44 [.ref (mo 0)] (wMo G.2.1 mo M) (wMo G.2.1 mo M') r := by
  unfold f_X7_writeBays at h
  refine CI.of g (by decide) rfl (Nat.le_of_ble_eq_true rfl) ?_
  intro p l e s m below meth c A ls F hr hlocks w hl
  generalize ([.ref (mo 0)] : List Value).toArray = args
  have hl : lv_has ls 3 [(0, .ref (mo 0))] := hl
  have L12 : ∀ {k : Mem → Option (Int32 × Mem)} (n : Nat) (x1 : Int32) (M : Mem) (H : Heap) (locs : List Loc) (ls : Array Slot), Wd G A s.heap (wMo G.2.1 mo M) H locs → lv_has ls 3 [(0, .ref (mo 0)), (1, .int x1)] → f_X7_writeBays_L12 k n x1 M = some (r, M') → (∀ (M : Mem) (H : Heap) (locs : List Loc) (ls : Array Slot), Wd G A s.heap (wMo G.2.1 mo M) H locs → lv_has ls 3 [(0, .ref (mo 0))] → k M = some (r, M') → W p l e { frames := 2, cells := 0, slots := 0, locals := 44 } s m args below meth c H locs 0 0 (QI G A (wMo G.2.1 mo M') r below args s) (F0 m 91 ls [])) → W p l e { frames := 2, cells := 0, slots := 0, locals := 44 } s m args below meth c H locs 0 0 (QI G A (wMo G.2.1 mo M') r below args s) (F0 m 12 ls []) := by
    clear h w hl
    intro k n
    induction n with
    | zero =>
      intro x1 M H locs ls w hl h hk
      exact nomatch (show (none : Option (Int32 × Mem)) = some (r, M') from h)
    | succ n ih =>
      intro x1 M H locs ls w hl h hk
      rw [f_X7_writeBays_L12] at h
      refine lv_iload_n F.x F.b dX7_writeBays_12 rfl (lv_at hl 1 rfl) ?_
      refine lv_bipush (v := 24) F.x F.b dX7_writeBays_13 (by decide) ?_
      refine lv_icmp_ge (tgt := 91) F.x F.b dX7_writeBays_15 (by decide) (fun c1 => ?_) (fun c1 => ?_)
      · have h := it c1 h
        exact hk M _ _ _ w (lv_sub hl [0] rfl) h
      · have h := ie c1 h
        refine lv_aload_n F.x F.b dX7_writeBays_18 rfl (lv_at hl 0 rfl) ?_
        refine lv_iload_n F.x F.b dX7_writeBays_19 rfl (lv_at hl 1 rfl) ?_
        obtain ⟨r2, hc3, h⟩ := bd h
        try dsimp only at h
        refine kVi0 F w (As := [.int x1]) (rest := []) (w1 := wMo G.2.1 mo M) (t_X7_inside F.1 hc3) m_X7_inside v_X7_inside q1639 (ci := 11) (q0 := 0) rfl rfl rfl ⟨Nat.le_of_ble_eq_true rfl, Nat.le_of_ble_eq_true rfl⟩ rfl hl.1 rfl (Nat.le_of_ble_eq_true rfl) dX7_writeBays_20 ⟨Nat.le_of_ble_eq_true rfl, Nat.le_of_ble_eq_true rfl⟩ (fun H locs w => ?_)
        refine lv_istore_n (lv' := [(2, .int r2), (0, .ref (mo 0)), (1, .int x1)]) F.x F.b dX7_writeBays_23 rfl hl (by decide) rfl (fun ls hl => ?_)
        refine lv_iload_n F.x F.b dX7_writeBays_24 rfl (lv_at hl 0 rfl) ?_
        refine lv_iconst (v := (-1)) F.x F.b dX7_writeBays_25 (by decide) ?_
        refine lv_icmp_ne (tgt := 38) F.x F.b dX7_writeBays_26 (by decide) (fun c4 => ?_) (fun c4 => ?_)
        · have h := ie c4 h
          refine lv_aload_n F.x F.b dX7_writeBays_38 rfl (lv_at hl 1 rfl) ?_
          refine lv_iload_n F.x F.b dX7_writeBays_39 rfl (lv_at hl 0 rfl) ?_
          refine lv_bipush (v := 6) F.x F.b dX7_writeBays_40 (by decide) ?_
          obtain ⟨r5, hc6, h⟩ := bd h
          try dsimp only at h
          refine kVi0 F w (As := [.int r2, .int 6]) (rest := []) (w1 := wMo G.2.1 mo M) (t_X7_of F.1 hc6) m_X7_of v_X7_of q1643 (ci := 11) (q0 := 0) rfl rfl rfl ⟨Nat.le_of_ble_eq_true rfl, Nat.le_of_ble_eq_true rfl⟩ rfl hl.1 rfl (Nat.le_of_ble_eq_true rfl) dX7_writeBays_42 ⟨Nat.le_of_ble_eq_true rfl, Nat.le_of_ble_eq_true rfl⟩ (fun H locs w => ?_)
          refine lv_iconst (v := 1) F.x F.b dX7_writeBays_45 (by decide) ?_
          refine lv_icmp_ne (tgt := 58) F.x F.b dX7_writeBays_46 (by decide) (fun c7 => ?_) (fun c7 => ?_)
          · have h := ie c7 h
            refine lv_aload_n F.x F.b dX7_writeBays_58 rfl (lv_at hl 1 rfl) ?_
            refine lv_aload_n F.x F.b dX7_writeBays_59 rfl (lv_at hl 1 rfl) ?_
            refine lv_iload_n F.x F.b dX7_writeBays_60 rfl (lv_at hl 0 rfl) ?_
            refine lv_iconst (v := 1) F.x F.b dX7_writeBays_61 (by decide) ?_
            obtain ⟨r8, hc9, h⟩ := bd h
            try dsimp only at h
            refine kVi0 F w (As := [.int r2, .int 1]) (rest := [.ref (mo 0)]) (w1 := wMo G.2.1 mo M) (t_X7_of F.1 hc9) m_X7_of v_X7_of q1643 (ci := 11) (q0 := 0) rfl rfl rfl ⟨Nat.le_of_ble_eq_true rfl, Nat.le_of_ble_eq_true rfl⟩ rfl hl.1 rfl (Nat.le_of_ble_eq_true rfl) dX7_writeBays_62 ⟨Nat.le_of_ble_eq_true rfl, Nat.le_of_ble_eq_true rfl⟩ (fun H locs w => ?_)
            refine lv_aload_n F.x F.b dX7_writeBays_65 rfl (lv_at hl 1 rfl) ?_
            refine lv_iload_n F.x F.b dX7_writeBays_66 rfl (lv_at hl 0 rfl) ?_
            refine lv_iconst (v := 5) F.x F.b dX7_writeBays_67 (by decide) ?_
            obtain ⟨r10, hc11, h⟩ := bd h
            try dsimp only at h
            refine kVi0 F w (As := [.int r2, .int 5]) (rest := [.int r8, .ref (mo 0)]) (w1 := wMo G.2.1 mo M) (t_X7_of F.1 hc11) m_X7_of v_X7_of q1643 (ci := 11) (q0 := 0) rfl rfl rfl ⟨Nat.le_of_ble_eq_true rfl, Nat.le_of_ble_eq_true rfl⟩ rfl hl.1 rfl (Nat.le_of_ble_eq_true rfl) dX7_writeBays_68 ⟨Nat.le_of_ble_eq_true rfl, Nat.le_of_ble_eq_true rfl⟩ (fun H locs w => ?_)
            refine lv_iconst (v := 1) F.x F.b dX7_writeBays_71 (by decide) ?_
            refine lv_icmp_ne (tgt := 80) F.x F.b dX7_writeBays_72 (by decide) (fun c12 => ?_) (fun c12 => ?_)
            · have h := ie c12 h
              refine lv_iconst (v := 0) F.x F.b dX7_writeBays_80 (by decide) ?_
              refine lv_isub F.x F.b dX7_writeBays_81 ?_
              obtain ⟨M_13, hc14, h⟩ := bd h
              try dsimp only at h
              refine kVv0 F w (As := [.int (r8 - 0)]) (rest := []) (w1 := wMo G.2.1 mo M_13) (t_X7_writes F.1 hc14) m_X7_writes v_X7_writes q1938 (ci := 11) (q0 := 0) rfl rfl rfl ⟨Nat.le_of_ble_eq_true rfl, Nat.le_of_ble_eq_true rfl⟩ rfl hl.1 rfl (Nat.le_of_ble_eq_true rfl) dX7_writeBays_82 ⟨Nat.le_of_ble_eq_true rfl, Nat.le_of_ble_eq_true rfl⟩ (fun H locs w => ?_)
              refine lv_iinc (v := (x1 + 1)) (lv' := [(1, .int (x1 + 1)), (2, .int r2), (0, .ref (mo 0))]) F.x F.b dX7_writeBays_85 hl (k := 2) rfl rfl (by decide) rfl (fun ls hl => ?_)
              refine lv_goto (tgt := 12) F.x F.b dX7_writeBays_88 (by decide) ?_
              exact ih (x1 + 1) M_13 _ _ _ w (lv_sub hl [2, 0] rfl) h hk
            · have h := it c12 h
              refine lv_bipush (v := 32) F.x F.b dX7_writeBays_75 (by decide) ?_
              refine lv_goto (tgt := 81) F.x F.b dX7_writeBays_77 (by decide) ?_
              refine lv_isub F.x F.b dX7_writeBays_81 ?_
              obtain ⟨M_15, hc16, h⟩ := bd h
              try dsimp only at h
              refine kVv0 F w (As := [.int (r8 - 32)]) (rest := []) (w1 := wMo G.2.1 mo M_15) (t_X7_writes F.1 hc16) m_X7_writes v_X7_writes q1938 (ci := 11) (q0 := 0) rfl rfl rfl ⟨Nat.le_of_ble_eq_true rfl, Nat.le_of_ble_eq_true rfl⟩ rfl hl.1 rfl (Nat.le_of_ble_eq_true rfl) dX7_writeBays_82 ⟨Nat.le_of_ble_eq_true rfl, Nat.le_of_ble_eq_true rfl⟩ (fun H locs w => ?_)
              refine lv_iinc (v := (x1 + 1)) (lv' := [(1, .int (x1 + 1)), (2, .int r2), (0, .ref (mo 0))]) F.x F.b dX7_writeBays_85 hl (k := 2) rfl rfl (by decide) rfl (fun ls hl => ?_)
              refine lv_goto (tgt := 12) F.x F.b dX7_writeBays_88 (by decide) ?_
              exact ih (x1 + 1) M_15 _ _ _ w (lv_sub hl [2, 0] rfl) h hk
          · have h := it c7 h
            refine lv_aload_n F.x F.b dX7_writeBays_49 rfl (lv_at hl 1 rfl) ?_
            refine lv_bipush (v := 126) F.x F.b dX7_writeBays_50 (by decide) ?_
            obtain ⟨M_17, hc18, h⟩ := bd h
            try dsimp only at h
            refine kVv0 F w (As := [.int 126]) (rest := []) (w1 := wMo G.2.1 mo M_17) (t_X7_writes F.1 hc18) m_X7_writes v_X7_writes q1938 (ci := 11) (q0 := 0) rfl rfl rfl ⟨Nat.le_of_ble_eq_true rfl, Nat.le_of_ble_eq_true rfl⟩ rfl hl.1 rfl (Nat.le_of_ble_eq_true rfl) dX7_writeBays_52 ⟨Nat.le_of_ble_eq_true rfl, Nat.le_of_ble_eq_true rfl⟩ (fun H locs w => ?_)
            refine lv_goto (tgt := 85) F.x F.b dX7_writeBays_55 (by decide) ?_
            refine lv_iinc (v := (x1 + 1)) (lv' := [(1, .int (x1 + 1)), (2, .int r2), (0, .ref (mo 0))]) F.x F.b dX7_writeBays_85 hl (k := 2) rfl rfl (by decide) rfl (fun ls hl => ?_)
            refine lv_goto (tgt := 12) F.x F.b dX7_writeBays_88 (by decide) ?_
            exact ih (x1 + 1) M_17 _ _ _ w (lv_sub hl [2, 0] rfl) h hk
        · have h := it c4 h
          refine lv_aload_n F.x F.b dX7_writeBays_29 rfl (lv_at hl 1 rfl) ?_
          refine lv_bipush (v := 46) F.x F.b dX7_writeBays_30 (by decide) ?_
          obtain ⟨M_19, hc20, h⟩ := bd h
          try dsimp only at h
          refine kVv0 F w (As := [.int 46]) (rest := []) (w1 := wMo G.2.1 mo M_19) (t_X7_writes F.1 hc20) m_X7_writes v_X7_writes q1938 (ci := 11) (q0 := 0) rfl rfl rfl ⟨Nat.le_of_ble_eq_true rfl, Nat.le_of_ble_eq_true rfl⟩ rfl hl.1 rfl (Nat.le_of_ble_eq_true rfl) dX7_writeBays_32 ⟨Nat.le_of_ble_eq_true rfl, Nat.le_of_ble_eq_true rfl⟩ (fun H locs w => ?_)
          refine lv_goto (tgt := 85) F.x F.b dX7_writeBays_35 (by decide) ?_
          refine lv_iinc (v := (x1 + 1)) (lv' := [(1, .int (x1 + 1)), (2, .int r2), (0, .ref (mo 0))]) F.x F.b dX7_writeBays_85 hl (k := 2) rfl rfl (by decide) rfl (fun ls hl => ?_)
          refine lv_goto (tgt := 12) F.x F.b dX7_writeBays_88 (by decide) ?_
          exact ih (x1 + 1) M_19 _ _ _ w (lv_sub hl [2, 0] rfl) h hk
  refine lv_aload_n F.x F.b dX7_writeBays_0 rfl (lv_at hl 0 rfl) ?_
  refine lv_iconst (v := 0) F.x F.b dX7_writeBays_1 (by decide) ?_
  refine rp F w (ws' := wMo G.2.1 mo (wrI M 0 0)) cl7 0 (at_Mo_0 _ _ _) 0 (by decide) q1547 rfl rfl rfl rfl (Nat.le_of_ble_eq_true rfl) (pt_Mo_0_0 _ _ _ _) dX7_writeBays_2 (fun H locs w => ?_)
  refine lv_aload_n F.x F.b dX7_writeBays_5 rfl (lv_at hl 0 rfl) ?_
  refine lv_iconst (v := 0) F.x F.b dX7_writeBays_6 (by decide) ?_
  refine rp F w (ws' := wMo G.2.1 mo (wrI (wrI M 0 0) 4 0)) cl7 0 (at_Mo_0 _ _ _) 14 (by decide) q1561 rfl rfl rfl rfl (Nat.le_of_ble_eq_true rfl) (pt_Mo_0_14 _ _ _ _) dX7_writeBays_7 (fun H locs w => ?_)
  refine lv_iconst (v := 0) F.x F.b dX7_writeBays_10 (by decide) ?_
  refine lv_istore_n (lv' := [(1, .int 0), (0, .ref (mo 0))]) F.x F.b dX7_writeBays_11 rfl hl (by decide) rfl (fun ls hl => ?_)
  refine L12 _ 0 (wrI (wrI M 0 0) 4 0) _ _ _ w (lv_sub hl [1, 0] rfl) h ?_
  intro M_21 H locs ls w hl h
  try dsimp only at h
  refine lv_aload_n F.x F.b dX7_writeBays_91 rfl (lv_at hl 0 rfl) ?_
  refine rg F w cl7 0 (at_Mo_0 _ _ _) 14 (by decide) q1561 rfl (v := .int (M_21.1 4)) rfl dX7_writeBays_92 ?_
  obtain ⟨z0, z1⟩ := sm2 (sm h)
  exact ei F w hr hlocks rfl z0 (by rw [← z1]) dX7_writeBays_95
set_option maxRecDepth 100000 in
set_option maxHeartbeats 4000000 in
theorem t_X7_outputCharacter {G : cG} (g : GOK G) {mo : Nat → Nat} {M : Mem} {x1 : Int32} {r : Int32} {M' : Mem} (h : f_X7_outputCharacter M x1 = some (r, M')) : CI G yX7_outputCharacter cX7_outputCharacter 2 .char 1 22 [.ref (mo 0), .int x1] (wMo G.2.1 mo M) (wMo G.2.1 mo M') r := by
  unfold f_X7_outputCharacter at h
  refine CI.of g (by decide) rfl (Nat.le_of_ble_eq_true rfl) ?_
  intro p l e s m below meth c A ls F hr hlocks w hl
  generalize ([.ref (mo 0), .int x1] : List Value).toArray = args
  have hl : lv_has ls 2 [(0, .ref (mo 0)), (1, .int x1)] := hl
  refine lv_aload_n F.x F.b dX7_outputCharacter_0 rfl (lv_at hl 0 rfl) ?_
  refine lv_iload_n F.x F.b dX7_outputCharacter_1 rfl (lv_at hl 1 rfl) ?_
  refine lv_iconst (v := 0) F.x F.b dX7_outputCharacter_2 (by decide) ?_
  refine lv_aload_n F.x F.b dX7_outputCharacter_3 rfl (lv_at hl 0 rfl) ?_
  refine rg F w cl7 0 (at_Mo_0 _ _ _) 14 (by decide) q1561 rfl (v := .int (M.1 4)) rfl dX7_outputCharacter_4 ?_
  refine lv_iconst (v := 1) F.x F.b dX7_outputCharacter_7 (by decide) ?_
  refine lv_isub F.x F.b dX7_outputCharacter_8 ?_
  obtain ⟨r1, hc2, h⟩ := bd h
  try dsimp only at h
  refine kSi F w (t_X7_in F.1 hc2) m_X7_in v_X7_in q1633 (As := [.int x1, .int 0, .int ((M.1 4) - 1)]) (rest := [.ref (mo 0)]) ⟨Nat.le_of_ble_eq_true rfl, Nat.le_of_ble_eq_true rfl⟩ rfl hl.1 rfl (Nat.le_of_ble_eq_true rfl) dX7_outputCharacter_9 ⟨Nat.le_of_ble_eq_true rfl, Nat.le_of_ble_eq_true rfl⟩ (fun H locs w => ?_)
  refine lv_if_eq (tgt := 19) F.x F.b dX7_outputCharacter_12 (by decide) (fun c3 => ?_) (fun c3 => ?_)
  · have h := it c3 h
    refine lv_iconst (v := 1) F.x F.b dX7_outputCharacter_19 (by decide) ?_
    refine rp F w (ws' := wMo G.2.1 mo (wrI M 0 1)) cl7 0 (at_Mo_0 _ _ _) 0 (by decide) q1547 rfl rfl rfl rfl (Nat.le_of_ble_eq_true rfl) (pt_Mo_0_0 _ _ _ _) dX7_outputCharacter_20 (fun H locs w => ?_)
    refine lv_aload_n F.x F.b dX7_outputCharacter_23 rfl (lv_at hl 0 rfl) ?_
    refine rg F w cl7 0 (at_Mo_0 _ _ _) 0 (by decide) q1547 rfl (v := .int 1) rfl dX7_outputCharacter_24 ?_
    refine lv_if_le (tgt := 34) F.x F.b dX7_outputCharacter_27 (by decide) (fun c9 => absurd c9 (by decide)) (fun _ => ?_)
    refine lv_iconst (v := 0) F.x F.b dX7_outputCharacter_30 (by decide) ?_
    refine lv_goto (tgt := 41) F.x F.b dX7_outputCharacter_31 (by decide) ?_
    obtain ⟨z0, z1⟩ := sm2 (sm h)
    exact ei F w hr hlocks rfl z0 (by rw [← z1]) dX7_outputCharacter_41
  · have h := ie c3 h
    refine lv_iconst (v := 0) F.x F.b dX7_outputCharacter_15 (by decide) ?_
    refine lv_goto (tgt := 20) F.x F.b dX7_outputCharacter_16 (by decide) ?_
    refine rp F w (ws' := wMo G.2.1 mo (wrI M 0 0)) cl7 0 (at_Mo_0 _ _ _) 0 (by decide) q1547 rfl rfl rfl rfl (Nat.le_of_ble_eq_true rfl) (pt_Mo_0_0 _ _ _ _) dX7_outputCharacter_20 (fun H locs w => ?_)
    refine lv_aload_n F.x F.b dX7_outputCharacter_23 rfl (lv_at hl 0 rfl) ?_
    refine rg F w cl7 0 (at_Mo_0 _ _ _) 0 (by decide) q1547 rfl (v := .int 0) rfl dX7_outputCharacter_24 ?_
    refine lv_if_le (tgt := 34) F.x F.b dX7_outputCharacter_27 (by decide) (fun _ => ?_) (fun c9 => absurd (by decide) c9)
    refine lv_aload_n F.x F.b dX7_outputCharacter_34 rfl (lv_at hl 0 rfl) ?_
    refine rg F w cl7 0 (at_Mo_0 _ _ _) 10 (by decide) q1557 rfl (v := .ref (mo 8)) rfl dX7_outputCharacter_35 ?_
    refine lv_iload_n F.x F.b dX7_outputCharacter_38 rfl (lv_at hl 1 rfl) ?_
    obtain ⟨g4, h⟩ := gd h
    refine ri F w 8 (n := 40) (f := (wrI M 0 0).2 7) (at_Mo_8 _ _ _) g4 dX7_outputCharacter_39 ?_
    refine lv_i2c F.x F.b dX7_outputCharacter_40 rfl ?_
    obtain ⟨z0, z1⟩ := sm2 (sm h)
    exact ei F w hr hlocks (pk_nc _) z0 (by rw [← z1]) dX7_outputCharacter_41
set_option maxRecDepth 100000 in
set_option maxHeartbeats 4000000 in
theorem t_X7_isConsistent {G : cG} (g : GOK G) {mo : Nat → Nat} {M : Mem} {r : Int32} {M' : Mem} (h : f_X7_isConsistent M = some (r, M')) : CI G yX7_isConsistent cX7_isConsistent 1 .boolean 0 0 [.ref (mo 0)] (wMo G.2.1 mo M) (wMo G.2.1 mo M') r := by
  unfold f_X7_isConsistent at h
  refine CI.of g (by decide) rfl (Nat.le_of_ble_eq_true rfl) ?_
  intro p l e s m below meth c A ls F hr hlocks w hl
  generalize ([.ref (mo 0)] : List Value).toArray = args
  have hl : lv_has ls 1 [(0, .ref (mo 0))] := hl
  refine lv_aload_n F.x F.b dX7_isConsistent_0 rfl (lv_at hl 0 rfl) ?_
  refine lv_iconst (v := 0) F.x F.b dX7_isConsistent_1 (by decide) ?_
  refine rp F w (ws' := wMo G.2.1 mo (wrI M 0 0)) cl7 0 (at_Mo_0 _ _ _) 0 (by decide) q1547 rfl rfl rfl rfl (Nat.le_of_ble_eq_true rfl) (pt_Mo_0_0 _ _ _ _) dX7_isConsistent_2 (fun H locs w => ?_)
  refine lv_iconst (v := 1) F.x F.b dX7_isConsistent_5 (by decide) ?_
  obtain ⟨z0, z1⟩ := sm2 (sm h)
  exact ei F w hr hlocks rfl z0 (by rw [← z1]) dX7_isConsistent_6
set_option maxRecDepth 100000 in
set_option maxHeartbeats 4000000 in
theorem t_X7_feed {G : cG} (g : GOK G) {mo : Nat → Nat} {M : Mem} {x1 : Int32} {r : Int32} {M' : Mem} (h : f_X7_feed M x1 = some (r, M')) : CI G yX7_feed cX7_feed 2 .int 0 0 [.ref (mo 0), .int x1] (wMo G.2.1 mo M) (wMo G.2.1 mo M') r := by
  unfold f_X7_feed at h
  refine CI.of g (by decide) rfl (Nat.le_of_ble_eq_true rfl) ?_
  intro p l e s m below meth c A ls F hr hlocks w hl
  generalize ([.ref (mo 0), .int x1] : List Value).toArray = args
  have hl : lv_has ls 2 [(0, .ref (mo 0)), (1, .int x1)] := hl
  refine lv_aload_n F.x F.b dX7_feed_0 rfl (lv_at hl 0 rfl) ?_
  refine lv_aload_n F.x F.b dX7_feed_1 rfl (lv_at hl 0 rfl) ?_
  refine rg F w cl7 0 (at_Mo_0 _ _ _) 13 (by decide) q1560 rfl (v := .int (M.1 3)) rfl dX7_feed_2 ?_
  refine lv_bipush (v := 60) F.x F.b dX7_feed_5 (by decide) ?_
  refine lv_icmp_ne (tgt := 14) F.x F.b dX7_feed_7 (by decide) (fun c1 => ?_) (fun c1 => ?_)
  · have h := ie c1 h
    refine lv_iconst (v := 0) F.x F.b dX7_feed_14 (by decide) ?_
    refine rp F w (ws' := wMo G.2.1 mo (wrI M 0 0)) cl7 0 (at_Mo_0 _ _ _) 0 (by decide) q1547 rfl rfl rfl rfl (Nat.le_of_ble_eq_true rfl) (pt_Mo_0_0 _ _ _ _) dX7_feed_15 (fun H locs w => ?_)
    refine lv_aload_n F.x F.b dX7_feed_18 rfl (lv_at hl 0 rfl) ?_
    refine rg F w cl7 0 (at_Mo_0 _ _ _) 0 (by decide) q1547 rfl (v := .int 0) rfl dX7_feed_19 ?_
    refine lv_if_le (tgt := 27) F.x F.b dX7_feed_22 (by decide) (fun _ => ?_) (fun c9 => absurd (by decide) c9)
    refine lv_aload_n F.x F.b dX7_feed_27 rfl (lv_at hl 0 rfl) ?_
    refine rg F w cl7 0 (at_Mo_0 _ _ _) 8 (by decide) q1555 rfl (v := .ref (mo 6)) rfl dX7_feed_28 ?_
    refine lv_aload_n F.x F.b dX7_feed_31 rfl (lv_at hl 0 rfl) ?_
    refine rg F w cl7 0 (at_Mo_0 _ _ _) 13 (by decide) q1560 rfl (v := .int (M.1 3)) rfl dX7_feed_32 ?_
    refine lv_iload_n F.x F.b dX7_feed_35 rfl (lv_at hl 1 rfl) ?_
    obtain ⟨g2, h⟩ := gd h
    refine ris F w (ws' := wMo G.2.1 mo (wrA (wrI M 0 0) 5 (M.1 3) x1)) 6 (n := 60) (f := (wrI M 0 0).2 5) (at_Mo_6 _ _ _) g2 (st_Mo_6 _ _ _ _ _) dX7_feed_36 (fun H locs w => ?_)
    refine lv_aload_n F.x F.b dX7_feed_37 rfl (lv_at hl 0 rfl) ?_
    refine lv_dup F.x F.b dX7_feed_38 rfl ?_
    refine rg F w cl7 0 (at_Mo_0 _ _ _) 13 (by decide) q1560 rfl (v := .int (M.1 3)) rfl dX7_feed_39 ?_
    refine lv_iconst (v := 1) F.x F.b dX7_feed_42 (by decide) ?_
    refine lv_iadd F.x F.b dX7_feed_43 ?_
    refine rp F w (ws' := wMo G.2.1 mo (wrI (wrA (wrI M 0 0) 5 (M.1 3) x1) 3 ((M.1 3) + 1))) cl7 0 (at_Mo_0 _ _ _) 13 (by decide) q1560 rfl rfl rfl rfl (Nat.le_of_ble_eq_true rfl) (pt_Mo_0_13 _ _ _ _) dX7_feed_44 (fun H locs w => ?_)
    refine lv_aload_n F.x F.b dX7_feed_47 rfl (lv_at hl 0 rfl) ?_
    refine rg F w cl7 0 (at_Mo_0 _ _ _) 13 (by decide) q1560 rfl (v := .int ((M.1 3) + 1)) rfl dX7_feed_48 ?_
    obtain ⟨z0, z1⟩ := sm2 (sm h)
    exact ei F w hr hlocks rfl z0 (by rw [← z1]) dX7_feed_51
  · have h := it c1 h
    refine lv_iconst (v := 1) F.x F.b dX7_feed_10 (by decide) ?_
    refine lv_goto (tgt := 15) F.x F.b dX7_feed_11 (by decide) ?_
    refine rp F w (ws' := wMo G.2.1 mo (wrI M 0 1)) cl7 0 (at_Mo_0 _ _ _) 0 (by decide) q1547 rfl rfl rfl rfl (Nat.le_of_ble_eq_true rfl) (pt_Mo_0_0 _ _ _ _) dX7_feed_15 (fun H locs w => ?_)
    refine lv_aload_n F.x F.b dX7_feed_18 rfl (lv_at hl 0 rfl) ?_
    refine rg F w cl7 0 (at_Mo_0 _ _ _) 0 (by decide) q1547 rfl (v := .int 1) rfl dX7_feed_19 ?_
    refine lv_if_le (tgt := 27) F.x F.b dX7_feed_22 (by decide) (fun c9 => absurd c9 (by decide)) (fun _ => ?_)
    refine lv_iconst (v := 0) F.x F.b dX7_feed_25 (by decide) ?_
    obtain ⟨z0, z1⟩ := sm2 (sm h)
    exact ei F w hr hlocks rfl z0 (by rw [← z1]) dX7_feed_26
set_option maxRecDepth 100000 in
set_option maxHeartbeats 4000000 in
theorem t_X7_here {G : cG} (g : GOK G) {mo : Nat → Nat} {M : Mem} {x1 : Int32} {r : Int32} (h : f_X7_here M x1 = some r) : CI G yX7_here cX7_here 2 .int 0 0 [.ref (mo 0), .int x1] (wMo G.2.1 mo M) (wMo G.2.1 mo M) r := by
  unfold f_X7_here at h
  refine CI.of g (by decide) rfl (Nat.le_of_ble_eq_true rfl) ?_
  intro p l e s m below meth c A ls F hr hlocks w hl
  generalize ([.ref (mo 0), .int x1] : List Value).toArray = args
  have hl : lv_has ls 2 [(0, .ref (mo 0)), (1, .int x1)] := hl
  refine lv_aload_n F.x F.b dX7_here_0 rfl (lv_at hl 0 rfl) ?_
  refine rg F w cl7 0 (at_Mo_0 _ _ _) 18 (by decide) q1565 rfl (v := .int (M.1 8)) rfl dX7_here_1 ?_
  refine lv_iload_n F.x F.b dX7_here_4 rfl (lv_at hl 1 rfl) ?_
  refine lv_iadd F.x F.b dX7_here_5 ?_
  refine lv_aload_n F.x F.b dX7_here_6 rfl (lv_at hl 0 rfl) ?_
  refine rg F w cl7 0 (at_Mo_0 _ _ _) 19 (by decide) q1566 rfl (v := .int (M.1 9)) rfl dX7_here_7 ?_
  refine lv_icmp_ge (tgt := 27) F.x F.b dX7_here_10 (by decide) (fun c1 => ?_) (fun c1 => ?_)
  · have h := it c1 h
    refine lv_iconst (v := (-1)) F.x F.b dX7_here_27 (by decide) ?_
    have z0 := sm h
    exact ei F w hr hlocks rfl z0 rfl dX7_here_28
  · have h := ie c1 h
    refine lv_aload_n F.x F.b dX7_here_13 rfl (lv_at hl 0 rfl) ?_
    refine rg F w cl7 0 (at_Mo_0 _ _ _) 8 (by decide) q1555 rfl (v := .ref (mo 6)) rfl dX7_here_14 ?_
    refine lv_aload_n F.x F.b dX7_here_17 rfl (lv_at hl 0 rfl) ?_
    refine rg F w cl7 0 (at_Mo_0 _ _ _) 18 (by decide) q1565 rfl (v := .int (M.1 8)) rfl dX7_here_18 ?_
    refine lv_iload_n F.x F.b dX7_here_21 rfl (lv_at hl 1 rfl) ?_
    refine lv_iadd F.x F.b dX7_here_22 ?_
    obtain ⟨g2, h⟩ := gd h
    refine ri F w 6 (n := 60) (f := M.2 5) (at_Mo_6 _ _ _) g2 dX7_here_23 ?_
    refine lv_goto (tgt := 28) F.x F.b dX7_here_24 (by decide) ?_
    have z0 := sm h
    exact ei F w hr hlocks rfl z0 rfl dX7_here_28
set_option maxRecDepth 100000 in
set_option maxHeartbeats 4000000 in
theorem t_X7_number {G : cG} (g : GOK G) {mo : Nat → Nat} {M : Mem} {x1 : Int32} {M' : Mem} (h : f_X7_number M x1 = some M') : CV G yX7_number cX7_number 4 1 22 [.ref (mo 0), .int x1] (wMo G.2.1 mo M) (wMo G.2.1 mo M') := by
  unfold f_X7_number at h
  refine CV.of g (by decide) rfl (Nat.le_of_ble_eq_true rfl) ?_
  intro p l e s m below meth c A ls F hr hlocks w hl
  generalize ([.ref (mo 0), .int x1] : List Value).toArray = args
  have hl : lv_has ls 4 [(0, .ref (mo 0)), (1, .int x1)] := hl
  have L4 : ∀ (x1 : Int32) {k : Int32 → Int32 → Mem → Option (Mem)} (n : Nat) (x2 : Int32) (x3 : Int32) (M : Mem) (H : Heap) (locs : List Loc) (ls : Array Slot), Wd G A s.heap (wMo G.2.1 mo M) H locs → lv_has ls 4 [(0, .ref (mo 0)), (1, .int x1), (2, .int x2), (3, .int x3)] → f_X7_number_L4 x1 k n x2 x3 M = some M' → (∀ (x2 : Int32) (x3 : Int32) (M : Mem) (H : Heap) (locs : List Loc) (ls : Array Slot), Wd G A s.heap (wMo G.2.1 mo M) H locs → lv_has ls 4 [(0, .ref (mo 0)), (1, .int x1), (2, .int x2), (3, .int x3)] → k x2 x3 M = some M' → W p l e { frames := 1, cells := 0, slots := 0, locals := 22 } s m args below meth c H locs 0 0 (QV G A (wMo G.2.1 mo M') below args s) (F0 m 61 ls [])) → W p l e { frames := 1, cells := 0, slots := 0, locals := 22 } s m args below meth c H locs 0 0 (QV G A (wMo G.2.1 mo M') below args s) (F0 m 4 ls []) := by
    clear h w hl
    intro x1 k n
    induction n with
    | zero =>
      intro x2 x3 M H locs ls w hl h hk
      exact nomatch (show (none : Option (Mem)) = some M' from h)
    | succ n ih =>
      intro x2 x3 M H locs ls w hl h hk
      rw [f_X7_number_L4] at h
      refine lv_aload_n F.x F.b dX7_number_4 rfl (lv_at hl 0 rfl) ?_
      refine rg F w cl7 0 (at_Mo_0 _ _ _) 21 (by decide) q1568 rfl (v := .int (M.1 11)) rfl dX7_number_5 ?_
      refine lv_if_ne (tgt := 61) F.x F.b dX7_number_8 (by decide) (fun c1 => ?_) (fun c1 => ?_)
      · have h := ie c1 h
        exact hk x2 x3 M _ _ _ w (lv_sub hl [0, 1, 2, 3] rfl) h
      · have h := it c1 h
        refine lv_iload_n F.x F.b dX7_number_11 rfl (lv_at hl 3 rfl) ?_
        refine lv_iconst (v := 4) F.x F.b dX7_number_12 (by decide) ?_
        refine lv_icmp_ge (tgt := 61) F.x F.b dX7_number_13 (by decide) (fun c2 => ?_) (fun c2 => ?_)
        · have h := it c2 h
          exact hk x2 x3 M _ _ _ w (lv_sub hl [0, 1, 2, 3] rfl) h
        · have h := ie c2 h
          refine lv_aload_n F.x F.b dX7_number_16 rfl (lv_at hl 0 rfl) ?_
          refine lv_iconst (v := 0) F.x F.b dX7_number_17 (by decide) ?_
          obtain ⟨r3, hc4, h⟩ := bd h
          try dsimp only at h
          refine kVi0 F w (As := [.int 0]) (rest := []) (w1 := wMo G.2.1 mo M) (t_X7_here F.1 hc4) m_X7_here v_X7_here q1970 (ci := 11) (q0 := 0) rfl rfl rfl ⟨Nat.le_of_ble_eq_true rfl, Nat.le_of_ble_eq_true rfl⟩ rfl hl.1 rfl (Nat.le_of_ble_eq_true rfl) dX7_number_18 ⟨Nat.le_of_ble_eq_true rfl, Nat.le_of_ble_eq_true rfl⟩ (fun H locs w => ?_)
          refine lv_bipush (v := 48) F.x F.b dX7_number_21 (by decide) ?_
          refine lv_bipush (v := 57) F.x F.b dX7_number_23 (by decide) ?_
          obtain ⟨r5, hc6, h⟩ := bd h
          try dsimp only at h
          refine kSi F w (t_X7_in F.1 hc6) m_X7_in v_X7_in q1633 (As := [.int r3, .int 48, .int 57]) (rest := []) ⟨Nat.le_of_ble_eq_true rfl, Nat.le_of_ble_eq_true rfl⟩ rfl hl.1 rfl (Nat.le_of_ble_eq_true rfl) dX7_number_25 ⟨Nat.le_of_ble_eq_true rfl, Nat.le_of_ble_eq_true rfl⟩ (fun H locs w => ?_)
          refine lv_if_eq (tgt := 61) F.x F.b dX7_number_28 (by decide) (fun c7 => ?_) (fun c7 => ?_)
          · have h := it c7 h
            exact hk x2 x3 M _ _ _ w (lv_sub hl [0, 1, 2, 3] rfl) h
          · have h := ie c7 h
            refine lv_bipush (v := 10) F.x F.b dX7_number_31 (by decide) ?_
            refine lv_iload_n F.x F.b dX7_number_33 rfl (lv_at hl 2 rfl) ?_
            refine lv_imul F.x F.b dX7_number_34 ?_
            refine lv_aload_n F.x F.b dX7_number_35 rfl (lv_at hl 0 rfl) ?_
            refine lv_iconst (v := 0) F.x F.b dX7_number_36 (by decide) ?_
            obtain ⟨r8, hc9, h⟩ := bd h
            try dsimp only at h
            refine kVi0 F w (As := [.int 0]) (rest := [.int (10 * x2)]) (w1 := wMo G.2.1 mo M) (t_X7_here F.1 hc9) m_X7_here v_X7_here q1970 (ci := 11) (q0 := 0) rfl rfl rfl ⟨Nat.le_of_ble_eq_true rfl, Nat.le_of_ble_eq_true rfl⟩ rfl hl.1 rfl (Nat.le_of_ble_eq_true rfl) dX7_number_37 ⟨Nat.le_of_ble_eq_true rfl, Nat.le_of_ble_eq_true rfl⟩ (fun H locs w => ?_)
            refine lv_iadd F.x F.b dX7_number_40 ?_
            refine lv_bipush (v := 48) F.x F.b dX7_number_41 (by decide) ?_
            refine lv_isub F.x F.b dX7_number_43 ?_
            refine lv_istore_n (lv' := [(2, .int (((10 * x2) + r8) - 48)), (0, .ref (mo 0)), (1, .int x1), (3, .int x3)]) F.x F.b dX7_number_44 rfl hl (by decide) rfl (fun ls hl => ?_)
            refine lv_aload_n F.x F.b dX7_number_45 rfl (lv_at hl 1 rfl) ?_
            refine lv_dup F.x F.b dX7_number_46 rfl ?_
            refine rg F w cl7 0 (at_Mo_0 _ _ _) 18 (by decide) q1565 rfl (v := .int (M.1 8)) rfl dX7_number_47 ?_
            refine lv_iconst (v := 1) F.x F.b dX7_number_50 (by decide) ?_
            refine lv_iadd F.x F.b dX7_number_51 ?_
            refine rp F w (ws' := wMo G.2.1 mo (wrI M 8 ((M.1 8) + 1))) cl7 0 (at_Mo_0 _ _ _) 18 (by decide) q1565 rfl rfl rfl rfl (Nat.le_of_ble_eq_true rfl) (pt_Mo_0_18 _ _ _ _) dX7_number_52 (fun H locs w => ?_)
            refine lv_iinc (v := (x3 + 1)) (lv' := [(3, .int (x3 + 1)), (2, .int (((10 * x2) + r8) - 48)), (0, .ref (mo 0)), (1, .int x1)]) F.x F.b dX7_number_55 hl (k := 3) rfl rfl (by decide) rfl (fun ls hl => ?_)
            refine lv_goto (tgt := 4) F.x F.b dX7_number_58 (by decide) ?_
            exact ih (((10 * x2) + r8) - 48) (x3 + 1) (wrI M 8 ((M.1 8) + 1)) _ _ _ w (lv_sub hl [2, 3, 1, 0] rfl) h hk
  refine lv_iconst (v := 0) F.x F.b dX7_number_0 (by decide) ?_
  refine lv_istore_n (lv' := [(2, .int 0), (0, .ref (mo 0)), (1, .int x1)]) F.x F.b dX7_number_1 rfl hl (by decide) rfl (fun ls hl => ?_)
  refine lv_iconst (v := 0) F.x F.b dX7_number_2 (by decide) ?_
  refine lv_istore_n (lv' := [(3, .int 0), (2, .int 0), (0, .ref (mo 0)), (1, .int x1)]) F.x F.b dX7_number_3 rfl hl (by decide) rfl (fun ls hl => ?_)
  refine L4 x1 _ 0 0 M _ _ _ w (lv_sub hl [2, 3, 1, 0] rfl) h ?_
  intro y10_2 y10_3 M_10 H locs ls w hl h
  try dsimp only at h
  refine lv_aload_n F.x F.b dX7_number_61 rfl (lv_at hl 0 rfl) ?_
  refine lv_aload_n F.x F.b dX7_number_62 rfl (lv_at hl 0 rfl) ?_
  refine rg F w cl7 0 (at_Mo_0 _ _ _) 21 (by decide) q1568 rfl (v := .int (M_10.1 11)) rfl dX7_number_63 ?_
  refine lv_if_ne (tgt := 73) F.x F.b dX7_number_66 (by decide) (fun c11 => ?_) (fun c11 => ?_)
  · have h := ie c11 h
    refine lv_iconst (v := 1) F.x F.b dX7_number_73 (by decide) ?_
    refine lv_goto (tgt := 78) F.x F.b dX7_number_74 (by decide) ?_
    refine rp F w (ws' := wMo G.2.1 mo (wrI M_10 11 1)) cl7 0 (at_Mo_0 _ _ _) 21 (by decide) q1568 rfl rfl rfl rfl (Nat.le_of_ble_eq_true rfl) (pt_Mo_0_21 _ _ _ _) dX7_number_78 (fun H locs w => ?_)
    refine lv_aload_n F.x F.b dX7_number_81 rfl (lv_at hl 0 rfl) ?_
    refine rg F w cl7 0 (at_Mo_0 _ _ _) 9 (by decide) q1556 rfl (v := .ref (mo 7)) rfl dX7_number_82 ?_
    refine lv_iconst (v := 5) F.x F.b dX7_number_85 (by decide) ?_
    refine lv_aload_n F.x F.b dX7_number_86 rfl (lv_at hl 0 rfl) ?_
    refine rg F w cl7 0 (at_Mo_0 _ _ _) 20 (by decide) q1567 rfl (v := .int (M_10.1 10)) rfl dX7_number_87 ?_
    refine lv_imul F.x F.b dX7_number_90 ?_
    refine lv_iload_n F.x F.b dX7_number_91 rfl (lv_at hl 1 rfl) ?_
    refine lv_iadd F.x F.b dX7_number_92 ?_
    refine lv_iload_n F.x F.b dX7_number_93 rfl (lv_at hl 2 rfl) ?_
    obtain ⟨g12, h⟩ := gd h
    refine ris F w (ws' := wMo G.2.1 mo (wrA (wrI M_10 11 1) 6 ((5 * (M_10.1 10)) + x1) y10_2)) 7 (n := 300) (f := (wrI M_10 11 1).2 6) (at_Mo_7 _ _ _) g12 (st_Mo_7 _ _ _ _ _) dX7_number_94 (fun H locs w => ?_)
    have z0 := sm h
    exact ev F w hr hlocks (by rw [← z0]) dX7_number_95
  · have h := it c11 h
    refine lv_iload_n F.x F.b dX7_number_69 rfl (lv_at hl 3 rfl) ?_
    refine lv_if_ne (tgt := 77) F.x F.b dX7_number_70 (by decide) (fun c13 => ?_) (fun c13 => ?_)
    · have h := ie c13 h
      refine lv_iconst (v := 0) F.x F.b dX7_number_77 (by decide) ?_
      refine rp F w (ws' := wMo G.2.1 mo (wrI M_10 11 0)) cl7 0 (at_Mo_0 _ _ _) 21 (by decide) q1568 rfl rfl rfl rfl (Nat.le_of_ble_eq_true rfl) (pt_Mo_0_21 _ _ _ _) dX7_number_78 (fun H locs w => ?_)
      refine lv_aload_n F.x F.b dX7_number_81 rfl (lv_at hl 0 rfl) ?_
      refine rg F w cl7 0 (at_Mo_0 _ _ _) 9 (by decide) q1556 rfl (v := .ref (mo 7)) rfl dX7_number_82 ?_
      refine lv_iconst (v := 5) F.x F.b dX7_number_85 (by decide) ?_
      refine lv_aload_n F.x F.b dX7_number_86 rfl (lv_at hl 0 rfl) ?_
      refine rg F w cl7 0 (at_Mo_0 _ _ _) 20 (by decide) q1567 rfl (v := .int (M_10.1 10)) rfl dX7_number_87 ?_
      refine lv_imul F.x F.b dX7_number_90 ?_
      refine lv_iload_n F.x F.b dX7_number_91 rfl (lv_at hl 1 rfl) ?_
      refine lv_iadd F.x F.b dX7_number_92 ?_
      refine lv_iload_n F.x F.b dX7_number_93 rfl (lv_at hl 2 rfl) ?_
      obtain ⟨g14, h⟩ := gd h
      refine ris F w (ws' := wMo G.2.1 mo (wrA (wrI M_10 11 0) 6 ((5 * (M_10.1 10)) + x1) y10_2)) 7 (n := 300) (f := (wrI M_10 11 0).2 6) (at_Mo_7 _ _ _) g14 (st_Mo_7 _ _ _ _ _) dX7_number_94 (fun H locs w => ?_)
      have z0 := sm h
      exact ev F w hr hlocks (by rw [← z0]) dX7_number_95
    · have h := it c13 h
      refine lv_iconst (v := 1) F.x F.b dX7_number_73 (by decide) ?_
      refine lv_goto (tgt := 78) F.x F.b dX7_number_74 (by decide) ?_
      refine rp F w (ws' := wMo G.2.1 mo (wrI M_10 11 1)) cl7 0 (at_Mo_0 _ _ _) 21 (by decide) q1568 rfl rfl rfl rfl (Nat.le_of_ble_eq_true rfl) (pt_Mo_0_21 _ _ _ _) dX7_number_78 (fun H locs w => ?_)
      refine lv_aload_n F.x F.b dX7_number_81 rfl (lv_at hl 0 rfl) ?_
      refine rg F w cl7 0 (at_Mo_0 _ _ _) 9 (by decide) q1556 rfl (v := .ref (mo 7)) rfl dX7_number_82 ?_
      refine lv_iconst (v := 5) F.x F.b dX7_number_85 (by decide) ?_
      refine lv_aload_n F.x F.b dX7_number_86 rfl (lv_at hl 0 rfl) ?_
      refine rg F w cl7 0 (at_Mo_0 _ _ _) 20 (by decide) q1567 rfl (v := .int (M_10.1 10)) rfl dX7_number_87 ?_
      refine lv_imul F.x F.b dX7_number_90 ?_
      refine lv_iload_n F.x F.b dX7_number_91 rfl (lv_at hl 1 rfl) ?_
      refine lv_iadd F.x F.b dX7_number_92 ?_
      refine lv_iload_n F.x F.b dX7_number_93 rfl (lv_at hl 2 rfl) ?_
      obtain ⟨g15, h⟩ := gd h
      refine ris F w (ws' := wMo G.2.1 mo (wrA (wrI M_10 11 1) 6 ((5 * (M_10.1 10)) + x1) y10_2)) 7 (n := 300) (f := (wrI M_10 11 1).2 6) (at_Mo_7 _ _ _) g15 (st_Mo_7 _ _ _ _ _) dX7_number_94 (fun H locs w => ?_)
      have z0 := sm h
      exact ev F w hr hlocks (by rw [← z0]) dX7_number_95
set_option maxRecDepth 100000 in
set_option maxHeartbeats 4000000 in
theorem t_X7_says {G : cG} (g : GOK G) {ks kv : Nat → Nat} (hSG : SG G ks kv) {mo : Nat → Nat} {M : Mem} {u1 : Nat} (hu1 : u1 < 23) {M' : Mem} (h : f_X7_says M u1 = some M') : CV G yX7_says cX7_says 3 4 85 [.ref (mo 0), .ref (ks u1)] (wMo G.2.1 mo M) (wMo G.2.1 mo M') := by
  unfold f_X7_says at h
  refine CV.of g (by decide) rfl (Nat.le_of_ble_eq_true rfl) ?_
  intro p l e s m below meth c A ls F hr hlocks w hl
  generalize ([.ref (mo 0), .ref (ks u1)] : List Value).toArray = args
  have hl : lv_has ls 3 [(0, .ref (mo 0)), (1, .ref (ks u1))] := hl
  have L2 : ∀ {k : Mem → Option (Mem)} (n : Nat) (x2 : Int32) (M : Mem) (H : Heap) (locs : List Loc) (ls : Array Slot), Wd G A s.heap (wMo G.2.1 mo M) H locs → lv_has ls 3 [(0, .ref (mo 0)), (1, .ref (ks u1)), (2, .int x2)] → f_X7_says_L2 u1 k n x2 M = some M' → (∀ (M : Mem) (H : Heap) (locs : List Loc) (ls : Array Slot), Wd G A s.heap (wMo G.2.1 mo M) H locs → lv_has ls 3 [] → k M = some M' → W p l e { frames := 4, cells := 0, slots := 0, locals := 85 } s m args below meth c H locs 0 0 (QV G A (wMo G.2.1 mo M') below args s) (F0 m 66 ls [])) → W p l e { frames := 4, cells := 0, slots := 0, locals := 85 } s m args below meth c H locs 0 0 (QV G A (wMo G.2.1 mo M') below args s) (F0 m 2 ls []) := by
    clear h w hl
    intro k n
    induction n with
    | zero =>
      intro x2 M H locs ls w hl h hk
      exact nomatch (show (none : Option (Mem)) = some M' from h)
    | succ n ih =>
      intro x2 M H locs ls w hl h hk
      rw [f_X7_says_L2] at h
      refine lv_iload_n F.x F.b dX7_says_2 rfl (lv_at hl 2 rfl) ?_
      refine lv_aload_n F.x F.b dX7_says_3 rfl (lv_at hl 1 rfl) ?_
      refine kKi F w hSG (As := []) (rest := [.int x2]) hu1 (t_J0_length F.1 hSG hu1) m_J0_length_8abf5 v_J0_length_8abf5 q1983 rfl ⟨Nat.le_of_ble_eq_true rfl, Nat.le_of_ble_eq_true rfl⟩ rfl hl.1 rfl (Nat.le_of_ble_eq_true rfl) dX7_says_4 ⟨Nat.le_of_ble_eq_true rfl, Nat.le_of_ble_eq_true rfl⟩ (fun H locs w => ?_)
      refine lv_icmp_ge (tgt := 66) F.x F.b dX7_says_7 (by decide) (fun c1 => ?_) (fun c1 => ?_)
      · have h := it c1 h
        exact hk M _ _ _ w (lv_sub hl [] rfl) h
      · have h := ie c1 h
        refine lv_aload_n F.x F.b dX7_says_10 rfl (lv_at hl 0 rfl) ?_
        refine rg F w cl7 0 (at_Mo_0 _ _ _) 21 (by decide) q1568 rfl (v := .int (M.1 11)) rfl dX7_says_11 ?_
        refine lv_if_ne (tgt := 66) F.x F.b dX7_says_14 (by decide) (fun c2 => ?_) (fun c2 => ?_)
        · have h := ie c2 h
          exact hk M _ _ _ w (lv_sub hl [] rfl) h
        · have h := it c2 h
          refine lv_aload_n F.x F.b dX7_says_17 rfl (lv_at hl 0 rfl) ?_
          refine lv_aload_n F.x F.b dX7_says_18 rfl (lv_at hl 0 rfl) ?_
          refine lv_iconst (v := 0) F.x F.b dX7_says_19 (by decide) ?_
          obtain ⟨r3, hc4, h⟩ := bd h
          try dsimp only at h
          refine kVi0 F w (As := [.int 0]) (rest := [.ref (mo 0)]) (w1 := wMo G.2.1 mo M) (t_X7_here F.1 hc4) m_X7_here v_X7_here q1970 (ci := 11) (q0 := 0) rfl rfl rfl ⟨Nat.le_of_ble_eq_true rfl, Nat.le_of_ble_eq_true rfl⟩ rfl hl.1 rfl (Nat.le_of_ble_eq_true rfl) dX7_says_20 ⟨Nat.le_of_ble_eq_true rfl, Nat.le_of_ble_eq_true rfl⟩ (fun H locs w => ?_)
          refine lv_aload_n F.x F.b dX7_says_23 rfl (lv_at hl 1 rfl) ?_
          refine lv_iload_n F.x F.b dX7_says_24 rfl (lv_at hl 2 rfl) ?_
          obtain ⟨g5, h⟩ := gd h
          refine kKi F w hSG (As := [.int x2]) (rest := [.int r3, .ref (mo 0)]) hu1 (t_J0_charAt F.1 hSG hu1 g5) m_J0_charAt_5068e v_J0_charAt_5068e q1984 rfl ⟨Nat.le_of_ble_eq_true rfl, Nat.le_of_ble_eq_true rfl⟩ rfl hl.1 rfl (Nat.le_of_ble_eq_true rfl) dX7_says_25 ⟨Nat.le_of_ble_eq_true rfl, Nat.le_of_ble_eq_true rfl⟩ (fun H locs w => ?_)
          refine lv_icmp_eq (tgt := 35) F.x F.b dX7_says_28 (by decide) (fun c6 => ?_) (fun c6 => ?_)
          · have h := it c6 h
            refine lv_iconst (v := 0) F.x F.b dX7_says_35 (by decide) ?_
            refine rp F w (ws' := wMo G.2.1 mo (wrI M 11 0)) cl7 0 (at_Mo_0 _ _ _) 21 (by decide) q1568 rfl rfl rfl rfl (Nat.le_of_ble_eq_true rfl) (pt_Mo_0_21 _ _ _ _) dX7_says_36 (fun H locs w => ?_)
            refine lv_aload_n F.x F.b dX7_says_39 rfl (lv_at hl 0 rfl) ?_
            refine lv_dup F.x F.b dX7_says_40 rfl ?_
            refine rg F w cl7 0 (at_Mo_0 _ _ _) 18 (by decide) q1565 rfl (v := .int (M.1 8)) rfl dX7_says_41 ?_
            refine lv_aload_n F.x F.b dX7_says_44 rfl (lv_at hl 0 rfl) ?_
            refine rg F w cl7 0 (at_Mo_0 _ _ _) 21 (by decide) q1568 rfl (v := .int 0) rfl dX7_says_45 ?_
            refine lv_if_eq (tgt := 55) F.x F.b dX7_says_48 (by decide) (fun _ => ?_) (fun c9 => absurd (by decide) c9)
            refine lv_iconst (v := 1) F.x F.b dX7_says_55 (by decide) ?_
            refine lv_iadd F.x F.b dX7_says_56 ?_
            refine rp F w (ws' := wMo G.2.1 mo (wrI (wrI M 11 0) 8 ((M.1 8) + 1))) cl7 0 (at_Mo_0 _ _ _) 18 (by decide) q1565 rfl rfl rfl rfl (Nat.le_of_ble_eq_true rfl) (pt_Mo_0_18 _ _ _ _) dX7_says_57 (fun H locs w => ?_)
            refine lv_iinc (v := (x2 + 1)) (lv' := [(2, .int (x2 + 1)), (0, .ref (mo 0)), (1, .ref (ks u1))]) F.x F.b dX7_says_60 hl (k := 2) rfl rfl (by decide) rfl (fun ls hl => ?_)
            refine lv_goto (tgt := 2) F.x F.b dX7_says_63 (by decide) ?_
            exact ih (x2 + 1) (wrI (wrI M 11 0) 8 ((M.1 8) + 1)) _ _ _ w (lv_sub hl [1, 2, 0] rfl) h hk
          · have h := ie c6 h
            refine lv_iconst (v := 1) F.x F.b dX7_says_31 (by decide) ?_
            refine lv_goto (tgt := 36) F.x F.b dX7_says_32 (by decide) ?_
            refine rp F w (ws' := wMo G.2.1 mo (wrI M 11 1)) cl7 0 (at_Mo_0 _ _ _) 21 (by decide) q1568 rfl rfl rfl rfl (Nat.le_of_ble_eq_true rfl) (pt_Mo_0_21 _ _ _ _) dX7_says_36 (fun H locs w => ?_)
            refine lv_aload_n F.x F.b dX7_says_39 rfl (lv_at hl 0 rfl) ?_
            refine lv_dup F.x F.b dX7_says_40 rfl ?_
            refine rg F w cl7 0 (at_Mo_0 _ _ _) 18 (by decide) q1565 rfl (v := .int (M.1 8)) rfl dX7_says_41 ?_
            refine lv_aload_n F.x F.b dX7_says_44 rfl (lv_at hl 0 rfl) ?_
            refine rg F w cl7 0 (at_Mo_0 _ _ _) 21 (by decide) q1568 rfl (v := .int 1) rfl dX7_says_45 ?_
            refine lv_if_eq (tgt := 55) F.x F.b dX7_says_48 (by decide) (fun c9 => absurd c9 (by decide)) (fun _ => ?_)
            refine lv_iconst (v := 0) F.x F.b dX7_says_51 (by decide) ?_
            refine lv_goto (tgt := 56) F.x F.b dX7_says_52 (by decide) ?_
            refine lv_iadd F.x F.b dX7_says_56 ?_
            refine rp F w (ws' := wMo G.2.1 mo (wrI (wrI M 11 1) 8 ((M.1 8) + 0))) cl7 0 (at_Mo_0 _ _ _) 18 (by decide) q1565 rfl rfl rfl rfl (Nat.le_of_ble_eq_true rfl) (pt_Mo_0_18 _ _ _ _) dX7_says_57 (fun H locs w => ?_)
            refine lv_iinc (v := (x2 + 1)) (lv' := [(2, .int (x2 + 1)), (0, .ref (mo 0)), (1, .ref (ks u1))]) F.x F.b dX7_says_60 hl (k := 2) rfl rfl (by decide) rfl (fun ls hl => ?_)
            refine lv_goto (tgt := 2) F.x F.b dX7_says_63 (by decide) ?_
            exact ih (x2 + 1) (wrI (wrI M 11 1) 8 ((M.1 8) + 0)) _ _ _ w (lv_sub hl [1, 2, 0] rfl) h hk
  refine lv_iconst (v := 0) F.x F.b dX7_says_0 (by decide) ?_
  refine lv_istore_n (lv' := [(2, .int 0), (0, .ref (mo 0)), (1, .ref (ks u1))]) F.x F.b dX7_says_1 rfl hl (by decide) rfl (fun ls hl => ?_)
  refine L2 _ 0 M _ _ _ w (lv_sub hl [1, 2, 0] rfl) h ?_
  intro M_7 H locs ls w hl h
  try dsimp only at h
  have z0 := sm h
  exact ev F w hr hlocks (by rw [← z0]) dX7_says_66
set_option maxRecDepth 100000 in
set_option maxHeartbeats 4000000 in
theorem t_X7_readsLot {G : cG} (g : GOK G) {ks kv : Nat → Nat} (hSG : SG G ks kv) {mo : Nat → Nat} {M : Mem} {M' : Mem} (h : f_X7_readsLot M = some M') : CV G yX7_readsLot cX7_readsLot 1 5 107 [.ref (mo 0)] (wMo G.2.1 mo M) (wMo G.2.1 mo M') := by
  unfold f_X7_readsLot at h
  refine CV.of g (by decide) rfl (Nat.le_of_ble_eq_true rfl) ?_
  intro p l e s m below meth c A ls F hr hlocks w hl
  generalize ([.ref (mo 0)] : List Value).toArray = args
  have hl : lv_has ls 1 [(0, .ref (mo 0))] := hl
  refine lv_aload_n F.x F.b dX7_readsLot_0 rfl (lv_at hl 0 rfl) ?_
  refine rg F w cl7 0 (at_Mo_0 _ _ _) 9 (by decide) q1556 rfl (v := .ref (mo 7)) rfl dX7_readsLot_1 ?_
  refine lv_iconst (v := 5) F.x F.b dX7_readsLot_4 (by decide) ?_
  refine lv_aload_n F.x F.b dX7_readsLot_5 rfl (lv_at hl 0 rfl) ?_
  refine rg F w cl7 0 (at_Mo_0 _ _ _) 20 (by decide) q1567 rfl (v := .int (M.1 10)) rfl dX7_readsLot_6 ?_
  refine lv_imul F.x F.b dX7_readsLot_9 ?_
  refine lv_bipush (v := 108) F.x F.b dX7_readsLot_10 (by decide) ?_
  obtain ⟨g1, h⟩ := gd h
  refine ris F w (ws' := wMo G.2.1 mo (wrA M 6 (5 * (M.1 10)) 108)) 7 (n := 300) (f := M.2 6) (at_Mo_7 _ _ _) g1 (st_Mo_7 _ _ _ _ _) dX7_readsLot_12 (fun H locs w => ?_)
  refine lv_aload_n F.x F.b dX7_readsLot_13 rfl (lv_at hl 0 rfl) ?_
  refine va_ldcS F.x F.b F.o (F.rf hSG 11 rfl) dX7_readsLot_14 ?_
  obtain ⟨M_2, hc3, h⟩ := bd h
  try dsimp only at h
  refine kVv0 F w (As := [.ref (ks 11)]) (rest := []) (w1 := wMo G.2.1 mo M_2) (t_X7_says F.1 hSG (by decide) hc3) m_X7_says v_X7_says q1979 (ci := 11) (q0 := 0) rfl rfl rfl ⟨Nat.le_of_ble_eq_true rfl, Nat.le_of_ble_eq_true rfl⟩ rfl hl.1 rfl (Nat.le_of_ble_eq_true rfl) dX7_readsLot_16 ⟨Nat.le_of_ble_eq_true rfl, Nat.le_of_ble_eq_true rfl⟩ (fun H locs w => ?_)
  refine lv_aload_n F.x F.b dX7_readsLot_19 rfl (lv_at hl 0 rfl) ?_
  refine lv_aload_n F.x F.b dX7_readsLot_20 rfl (lv_at hl 0 rfl) ?_
  refine rg F w cl7 0 (at_Mo_0 _ _ _) 21 (by decide) q1568 rfl (v := .int (M_2.1 11)) rfl dX7_readsLot_21 ?_
  refine lv_if_ne (tgt := 38) F.x F.b dX7_readsLot_24 (by decide) (fun c4 => ?_) (fun c4 => ?_)
  · have h := ie c4 h
    refine lv_iconst (v := 1) F.x F.b dX7_readsLot_38 (by decide) ?_
    refine lv_goto (tgt := 43) F.x F.b dX7_readsLot_39 (by decide) ?_
    refine rp F w (ws' := wMo G.2.1 mo (wrI M_2 11 1)) cl7 0 (at_Mo_0 _ _ _) 21 (by decide) q1568 rfl rfl rfl rfl (Nat.le_of_ble_eq_true rfl) (pt_Mo_0_21 _ _ _ _) dX7_readsLot_43 (fun H locs w => ?_)
    refine lv_aload_n F.x F.b dX7_readsLot_46 rfl (lv_at hl 0 rfl) ?_
    refine rg F w cl7 0 (at_Mo_0 _ _ _) 9 (by decide) q1556 rfl (v := .ref (mo 7)) rfl dX7_readsLot_47 ?_
    refine lv_iconst (v := 5) F.x F.b dX7_readsLot_50 (by decide) ?_
    refine lv_aload_n F.x F.b dX7_readsLot_51 rfl (lv_at hl 0 rfl) ?_
    refine rg F w cl7 0 (at_Mo_0 _ _ _) 20 (by decide) q1567 rfl (v := .int (M_2.1 10)) rfl dX7_readsLot_52 ?_
    refine lv_imul F.x F.b dX7_readsLot_55 ?_
    refine lv_iconst (v := 4) F.x F.b dX7_readsLot_56 (by decide) ?_
    refine lv_iadd F.x F.b dX7_readsLot_57 ?_
    refine lv_aload_n F.x F.b dX7_readsLot_58 rfl (lv_at hl 0 rfl) ?_
    refine rg F w cl7 0 (at_Mo_0 _ _ _) 21 (by decide) q1568 rfl (v := .int 1) rfl dX7_readsLot_59 ?_
    refine lv_if_eq (tgt := 69) F.x F.b dX7_readsLot_62 (by decide) (fun c9 => absurd c9 (by decide)) (fun _ => ?_)
    refine lv_iconst (v := 0) F.x F.b dX7_readsLot_65 (by decide) ?_
    refine lv_goto (tgt := 74) F.x F.b dX7_readsLot_66 (by decide) ?_
    obtain ⟨g5, h⟩ := gd h
    refine ris F w (ws' := wMo G.2.1 mo (wrA (wrI M_2 11 1) 6 ((5 * (M_2.1 10)) + 4) 0)) 7 (n := 300) (f := (wrI M_2 11 1).2 6) (at_Mo_7 _ _ _) g5 (st_Mo_7 _ _ _ _ _) dX7_readsLot_74 (fun H locs w => ?_)
    refine lv_aload_n F.x F.b dX7_readsLot_75 rfl (lv_at hl 0 rfl) ?_
    refine lv_dup F.x F.b dX7_readsLot_76 rfl ?_
    refine rg F w cl7 0 (at_Mo_0 _ _ _) 18 (by decide) q1565 rfl (v := .int (M_2.1 8)) rfl dX7_readsLot_77 ?_
    refine lv_aload_n F.x F.b dX7_readsLot_80 rfl (lv_at hl 0 rfl) ?_
    refine rg F w cl7 0 (at_Mo_0 _ _ _) 21 (by decide) q1568 rfl (v := .int 1) rfl dX7_readsLot_81 ?_
    refine lv_if_eq (tgt := 91) F.x F.b dX7_readsLot_84 (by decide) (fun c9 => absurd c9 (by decide)) (fun _ => ?_)
    refine lv_iconst (v := 0) F.x F.b dX7_readsLot_87 (by decide) ?_
    refine lv_goto (tgt := 92) F.x F.b dX7_readsLot_88 (by decide) ?_
    refine lv_iadd F.x F.b dX7_readsLot_92 ?_
    refine rp F w (ws' := wMo G.2.1 mo (wrI (wrA (wrI M_2 11 1) 6 ((5 * (M_2.1 10)) + 4) 0) 8 ((M_2.1 8) + 0))) cl7 0 (at_Mo_0 _ _ _) 18 (by decide) q1565 rfl rfl rfl rfl (Nat.le_of_ble_eq_true rfl) (pt_Mo_0_18 _ _ _ _) dX7_readsLot_93 (fun H locs w => ?_)
    refine lv_aload_n F.x F.b dX7_readsLot_96 rfl (lv_at hl 0 rfl) ?_
    refine lv_iconst (v := 1) F.x F.b dX7_readsLot_97 (by decide) ?_
    obtain ⟨M_6, hc7, h⟩ := bd h
    try dsimp only at h
    refine kVv0 F w (As := [.int 1]) (rest := []) (w1 := wMo G.2.1 mo M_6) (t_X7_number F.1 hc7) m_X7_number v_X7_number q1985 (ci := 11) (q0 := 0) rfl rfl rfl ⟨Nat.le_of_ble_eq_true rfl, Nat.le_of_ble_eq_true rfl⟩ rfl hl.1 rfl (Nat.le_of_ble_eq_true rfl) dX7_readsLot_98 ⟨Nat.le_of_ble_eq_true rfl, Nat.le_of_ble_eq_true rfl⟩ (fun H locs w => ?_)
    refine lv_aload_n F.x F.b dX7_readsLot_101 rfl (lv_at hl 0 rfl) ?_
    refine va_ldcS F.x F.b F.o (F.rf hSG 12 rfl) dX7_readsLot_102 ?_
    obtain ⟨M_8, hc9, h⟩ := bd h
    try dsimp only at h
    refine kVv0 F w (As := [.ref (ks 12)]) (rest := []) (w1 := wMo G.2.1 mo M_8) (t_X7_says F.1 hSG (by decide) hc9) m_X7_says v_X7_says q1979 (ci := 11) (q0 := 0) rfl rfl rfl ⟨Nat.le_of_ble_eq_true rfl, Nat.le_of_ble_eq_true rfl⟩ rfl hl.1 rfl (Nat.le_of_ble_eq_true rfl) dX7_readsLot_104 ⟨Nat.le_of_ble_eq_true rfl, Nat.le_of_ble_eq_true rfl⟩ (fun H locs w => ?_)
    refine lv_aload_n F.x F.b dX7_readsLot_107 rfl (lv_at hl 0 rfl) ?_
    refine lv_iconst (v := 2) F.x F.b dX7_readsLot_108 (by decide) ?_
    obtain ⟨M_10, hc11, h⟩ := bd h
    try dsimp only at h
    refine kVv0 F w (As := [.int 2]) (rest := []) (w1 := wMo G.2.1 mo M_10) (t_X7_number F.1 hc11) m_X7_number v_X7_number q1985 (ci := 11) (q0 := 0) rfl rfl rfl ⟨Nat.le_of_ble_eq_true rfl, Nat.le_of_ble_eq_true rfl⟩ rfl hl.1 rfl (Nat.le_of_ble_eq_true rfl) dX7_readsLot_109 ⟨Nat.le_of_ble_eq_true rfl, Nat.le_of_ble_eq_true rfl⟩ (fun H locs w => ?_)
    refine lv_aload_n F.x F.b dX7_readsLot_112 rfl (lv_at hl 0 rfl) ?_
    refine va_ldcS F.x F.b F.o (F.rf hSG 13 rfl) dX7_readsLot_113 ?_
    obtain ⟨M_12, hc13, h⟩ := bd h
    try dsimp only at h
    refine kVv0 F w (As := [.ref (ks 13)]) (rest := []) (w1 := wMo G.2.1 mo M_12) (t_X7_says F.1 hSG (by decide) hc13) m_X7_says v_X7_says q1979 (ci := 11) (q0 := 0) rfl rfl rfl ⟨Nat.le_of_ble_eq_true rfl, Nat.le_of_ble_eq_true rfl⟩ rfl hl.1 rfl (Nat.le_of_ble_eq_true rfl) dX7_readsLot_115 ⟨Nat.le_of_ble_eq_true rfl, Nat.le_of_ble_eq_true rfl⟩ (fun H locs w => ?_)
    refine lv_aload_n F.x F.b dX7_readsLot_118 rfl (lv_at hl 0 rfl) ?_
    refine lv_iconst (v := 3) F.x F.b dX7_readsLot_119 (by decide) ?_
    obtain ⟨M_14, hc15, h⟩ := bd h
    try dsimp only at h
    refine kVv0 F w (As := [.int 3]) (rest := []) (w1 := wMo G.2.1 mo M_14) (t_X7_number F.1 hc15) m_X7_number v_X7_number q1985 (ci := 11) (q0 := 0) rfl rfl rfl ⟨Nat.le_of_ble_eq_true rfl, Nat.le_of_ble_eq_true rfl⟩ rfl hl.1 rfl (Nat.le_of_ble_eq_true rfl) dX7_readsLot_120 ⟨Nat.le_of_ble_eq_true rfl, Nat.le_of_ble_eq_true rfl⟩ (fun H locs w => ?_)
    have z0 := sm h
    exact ev F w hr hlocks (by rw [← z0]) dX7_readsLot_123
  · have h := it c4 h
    refine lv_aload_n F.x F.b dX7_readsLot_27 rfl (lv_at hl 0 rfl) ?_
    refine lv_iconst (v := 0) F.x F.b dX7_readsLot_28 (by decide) ?_
    obtain ⟨r16, hc17, h⟩ := bd h
    try dsimp only at h
    refine kVi0 F w (As := [.int 0]) (rest := [.ref (mo 0)]) (w1 := wMo G.2.1 mo M_2) (t_X7_here F.1 hc17) m_X7_here v_X7_here q1970 (ci := 11) (q0 := 0) rfl rfl rfl ⟨Nat.le_of_ble_eq_true rfl, Nat.le_of_ble_eq_true rfl⟩ rfl hl.1 rfl (Nat.le_of_ble_eq_true rfl) dX7_readsLot_29 ⟨Nat.le_of_ble_eq_true rfl, Nat.le_of_ble_eq_true rfl⟩ (fun H locs w => ?_)
    obtain ⟨r18, hc19, h⟩ := bd h
    try dsimp only at h
    refine kSi F w (t_X7_isKind F.1 hc19) m_X7_isKind v_X7_isKind q1636 (As := [.int r16]) (rest := [.ref (mo 0)]) ⟨Nat.le_of_ble_eq_true rfl, Nat.le_of_ble_eq_true rfl⟩ rfl hl.1 rfl (Nat.le_of_ble_eq_true rfl) dX7_readsLot_32 ⟨Nat.le_of_ble_eq_true rfl, Nat.le_of_ble_eq_true rfl⟩ (fun H locs w => ?_)
    refine lv_if_ne (tgt := 42) F.x F.b dX7_readsLot_35 (by decide) (fun c20 => ?_) (fun c20 => ?_)
    · have h := ie c20 h
      refine lv_iconst (v := 0) F.x F.b dX7_readsLot_42 (by decide) ?_
      refine rp F w (ws' := wMo G.2.1 mo (wrI M_2 11 0)) cl7 0 (at_Mo_0 _ _ _) 21 (by decide) q1568 rfl rfl rfl rfl (Nat.le_of_ble_eq_true rfl) (pt_Mo_0_21 _ _ _ _) dX7_readsLot_43 (fun H locs w => ?_)
      refine lv_aload_n F.x F.b dX7_readsLot_46 rfl (lv_at hl 0 rfl) ?_
      refine rg F w cl7 0 (at_Mo_0 _ _ _) 9 (by decide) q1556 rfl (v := .ref (mo 7)) rfl dX7_readsLot_47 ?_
      refine lv_iconst (v := 5) F.x F.b dX7_readsLot_50 (by decide) ?_
      refine lv_aload_n F.x F.b dX7_readsLot_51 rfl (lv_at hl 0 rfl) ?_
      refine rg F w cl7 0 (at_Mo_0 _ _ _) 20 (by decide) q1567 rfl (v := .int (M_2.1 10)) rfl dX7_readsLot_52 ?_
      refine lv_imul F.x F.b dX7_readsLot_55 ?_
      refine lv_iconst (v := 4) F.x F.b dX7_readsLot_56 (by decide) ?_
      refine lv_iadd F.x F.b dX7_readsLot_57 ?_
      refine lv_aload_n F.x F.b dX7_readsLot_58 rfl (lv_at hl 0 rfl) ?_
      refine rg F w cl7 0 (at_Mo_0 _ _ _) 21 (by decide) q1568 rfl (v := .int 0) rfl dX7_readsLot_59 ?_
      refine lv_if_eq (tgt := 69) F.x F.b dX7_readsLot_62 (by decide) (fun _ => ?_) (fun c9 => absurd (by decide) c9)
      refine lv_aload_n F.x F.b dX7_readsLot_69 rfl (lv_at hl 0 rfl) ?_
      refine lv_iconst (v := 0) F.x F.b dX7_readsLot_70 (by decide) ?_
      obtain ⟨r21, hc22, h⟩ := bd h
      try dsimp only at h
      refine kVi0 F w (As := [.int 0]) (rest := [.int ((5 * (M_2.1 10)) + 4), .ref (mo 7)]) (w1 := wMo G.2.1 mo (wrI M_2 11 0)) (t_X7_here F.1 hc22) m_X7_here v_X7_here q1970 (ci := 11) (q0 := 0) rfl rfl rfl ⟨Nat.le_of_ble_eq_true rfl, Nat.le_of_ble_eq_true rfl⟩ rfl hl.1 rfl (Nat.le_of_ble_eq_true rfl) dX7_readsLot_71 ⟨Nat.le_of_ble_eq_true rfl, Nat.le_of_ble_eq_true rfl⟩ (fun H locs w => ?_)
      obtain ⟨g23, h⟩ := gd h
      refine ris F w (ws' := wMo G.2.1 mo (wrA (wrI M_2 11 0) 6 ((5 * (M_2.1 10)) + 4) r21)) 7 (n := 300) (f := (wrI M_2 11 0).2 6) (at_Mo_7 _ _ _) g23 (st_Mo_7 _ _ _ _ _) dX7_readsLot_74 (fun H locs w => ?_)
      refine lv_aload_n F.x F.b dX7_readsLot_75 rfl (lv_at hl 0 rfl) ?_
      refine lv_dup F.x F.b dX7_readsLot_76 rfl ?_
      refine rg F w cl7 0 (at_Mo_0 _ _ _) 18 (by decide) q1565 rfl (v := .int (M_2.1 8)) rfl dX7_readsLot_77 ?_
      refine lv_aload_n F.x F.b dX7_readsLot_80 rfl (lv_at hl 0 rfl) ?_
      refine rg F w cl7 0 (at_Mo_0 _ _ _) 21 (by decide) q1568 rfl (v := .int 0) rfl dX7_readsLot_81 ?_
      refine lv_if_eq (tgt := 91) F.x F.b dX7_readsLot_84 (by decide) (fun _ => ?_) (fun c9 => absurd (by decide) c9)
      refine lv_iconst (v := 1) F.x F.b dX7_readsLot_91 (by decide) ?_
      refine lv_iadd F.x F.b dX7_readsLot_92 ?_
      refine rp F w (ws' := wMo G.2.1 mo (wrI (wrA (wrI M_2 11 0) 6 ((5 * (M_2.1 10)) + 4) r21) 8 ((M_2.1 8) + 1))) cl7 0 (at_Mo_0 _ _ _) 18 (by decide) q1565 rfl rfl rfl rfl (Nat.le_of_ble_eq_true rfl) (pt_Mo_0_18 _ _ _ _) dX7_readsLot_93 (fun H locs w => ?_)
      refine lv_aload_n F.x F.b dX7_readsLot_96 rfl (lv_at hl 0 rfl) ?_
      refine lv_iconst (v := 1) F.x F.b dX7_readsLot_97 (by decide) ?_
      obtain ⟨M_24, hc25, h⟩ := bd h
      try dsimp only at h
      refine kVv0 F w (As := [.int 1]) (rest := []) (w1 := wMo G.2.1 mo M_24) (t_X7_number F.1 hc25) m_X7_number v_X7_number q1985 (ci := 11) (q0 := 0) rfl rfl rfl ⟨Nat.le_of_ble_eq_true rfl, Nat.le_of_ble_eq_true rfl⟩ rfl hl.1 rfl (Nat.le_of_ble_eq_true rfl) dX7_readsLot_98 ⟨Nat.le_of_ble_eq_true rfl, Nat.le_of_ble_eq_true rfl⟩ (fun H locs w => ?_)
      refine lv_aload_n F.x F.b dX7_readsLot_101 rfl (lv_at hl 0 rfl) ?_
      refine va_ldcS F.x F.b F.o (F.rf hSG 12 rfl) dX7_readsLot_102 ?_
      obtain ⟨M_26, hc27, h⟩ := bd h
      try dsimp only at h
      refine kVv0 F w (As := [.ref (ks 12)]) (rest := []) (w1 := wMo G.2.1 mo M_26) (t_X7_says F.1 hSG (by decide) hc27) m_X7_says v_X7_says q1979 (ci := 11) (q0 := 0) rfl rfl rfl ⟨Nat.le_of_ble_eq_true rfl, Nat.le_of_ble_eq_true rfl⟩ rfl hl.1 rfl (Nat.le_of_ble_eq_true rfl) dX7_readsLot_104 ⟨Nat.le_of_ble_eq_true rfl, Nat.le_of_ble_eq_true rfl⟩ (fun H locs w => ?_)
      refine lv_aload_n F.x F.b dX7_readsLot_107 rfl (lv_at hl 0 rfl) ?_
      refine lv_iconst (v := 2) F.x F.b dX7_readsLot_108 (by decide) ?_
      obtain ⟨M_28, hc29, h⟩ := bd h
      try dsimp only at h
      refine kVv0 F w (As := [.int 2]) (rest := []) (w1 := wMo G.2.1 mo M_28) (t_X7_number F.1 hc29) m_X7_number v_X7_number q1985 (ci := 11) (q0 := 0) rfl rfl rfl ⟨Nat.le_of_ble_eq_true rfl, Nat.le_of_ble_eq_true rfl⟩ rfl hl.1 rfl (Nat.le_of_ble_eq_true rfl) dX7_readsLot_109 ⟨Nat.le_of_ble_eq_true rfl, Nat.le_of_ble_eq_true rfl⟩ (fun H locs w => ?_)
      refine lv_aload_n F.x F.b dX7_readsLot_112 rfl (lv_at hl 0 rfl) ?_
      refine va_ldcS F.x F.b F.o (F.rf hSG 13 rfl) dX7_readsLot_113 ?_
      obtain ⟨M_30, hc31, h⟩ := bd h
      try dsimp only at h
      refine kVv0 F w (As := [.ref (ks 13)]) (rest := []) (w1 := wMo G.2.1 mo M_30) (t_X7_says F.1 hSG (by decide) hc31) m_X7_says v_X7_says q1979 (ci := 11) (q0 := 0) rfl rfl rfl ⟨Nat.le_of_ble_eq_true rfl, Nat.le_of_ble_eq_true rfl⟩ rfl hl.1 rfl (Nat.le_of_ble_eq_true rfl) dX7_readsLot_115 ⟨Nat.le_of_ble_eq_true rfl, Nat.le_of_ble_eq_true rfl⟩ (fun H locs w => ?_)
      refine lv_aload_n F.x F.b dX7_readsLot_118 rfl (lv_at hl 0 rfl) ?_
      refine lv_iconst (v := 3) F.x F.b dX7_readsLot_119 (by decide) ?_
      obtain ⟨M_32, hc33, h⟩ := bd h
      try dsimp only at h
      refine kVv0 F w (As := [.int 3]) (rest := []) (w1 := wMo G.2.1 mo M_32) (t_X7_number F.1 hc33) m_X7_number v_X7_number q1985 (ci := 11) (q0 := 0) rfl rfl rfl ⟨Nat.le_of_ble_eq_true rfl, Nat.le_of_ble_eq_true rfl⟩ rfl hl.1 rfl (Nat.le_of_ble_eq_true rfl) dX7_readsLot_120 ⟨Nat.le_of_ble_eq_true rfl, Nat.le_of_ble_eq_true rfl⟩ (fun H locs w => ?_)
      have z0 := sm h
      exact ev F w hr hlocks (by rw [← z0]) dX7_readsLot_123
    · have h := it c20 h
      refine lv_iconst (v := 1) F.x F.b dX7_readsLot_38 (by decide) ?_
      refine lv_goto (tgt := 43) F.x F.b dX7_readsLot_39 (by decide) ?_
      refine rp F w (ws' := wMo G.2.1 mo (wrI M_2 11 1)) cl7 0 (at_Mo_0 _ _ _) 21 (by decide) q1568 rfl rfl rfl rfl (Nat.le_of_ble_eq_true rfl) (pt_Mo_0_21 _ _ _ _) dX7_readsLot_43 (fun H locs w => ?_)
      refine lv_aload_n F.x F.b dX7_readsLot_46 rfl (lv_at hl 0 rfl) ?_
      refine rg F w cl7 0 (at_Mo_0 _ _ _) 9 (by decide) q1556 rfl (v := .ref (mo 7)) rfl dX7_readsLot_47 ?_
      refine lv_iconst (v := 5) F.x F.b dX7_readsLot_50 (by decide) ?_
      refine lv_aload_n F.x F.b dX7_readsLot_51 rfl (lv_at hl 0 rfl) ?_
      refine rg F w cl7 0 (at_Mo_0 _ _ _) 20 (by decide) q1567 rfl (v := .int (M_2.1 10)) rfl dX7_readsLot_52 ?_
      refine lv_imul F.x F.b dX7_readsLot_55 ?_
      refine lv_iconst (v := 4) F.x F.b dX7_readsLot_56 (by decide) ?_
      refine lv_iadd F.x F.b dX7_readsLot_57 ?_
      refine lv_aload_n F.x F.b dX7_readsLot_58 rfl (lv_at hl 0 rfl) ?_
      refine rg F w cl7 0 (at_Mo_0 _ _ _) 21 (by decide) q1568 rfl (v := .int 1) rfl dX7_readsLot_59 ?_
      refine lv_if_eq (tgt := 69) F.x F.b dX7_readsLot_62 (by decide) (fun c9 => absurd c9 (by decide)) (fun _ => ?_)
      refine lv_iconst (v := 0) F.x F.b dX7_readsLot_65 (by decide) ?_
      refine lv_goto (tgt := 74) F.x F.b dX7_readsLot_66 (by decide) ?_
      obtain ⟨g34, h⟩ := gd h
      refine ris F w (ws' := wMo G.2.1 mo (wrA (wrI M_2 11 1) 6 ((5 * (M_2.1 10)) + 4) 0)) 7 (n := 300) (f := (wrI M_2 11 1).2 6) (at_Mo_7 _ _ _) g34 (st_Mo_7 _ _ _ _ _) dX7_readsLot_74 (fun H locs w => ?_)
      refine lv_aload_n F.x F.b dX7_readsLot_75 rfl (lv_at hl 0 rfl) ?_
      refine lv_dup F.x F.b dX7_readsLot_76 rfl ?_
      refine rg F w cl7 0 (at_Mo_0 _ _ _) 18 (by decide) q1565 rfl (v := .int (M_2.1 8)) rfl dX7_readsLot_77 ?_
      refine lv_aload_n F.x F.b dX7_readsLot_80 rfl (lv_at hl 0 rfl) ?_
      refine rg F w cl7 0 (at_Mo_0 _ _ _) 21 (by decide) q1568 rfl (v := .int 1) rfl dX7_readsLot_81 ?_
      refine lv_if_eq (tgt := 91) F.x F.b dX7_readsLot_84 (by decide) (fun c9 => absurd c9 (by decide)) (fun _ => ?_)
      refine lv_iconst (v := 0) F.x F.b dX7_readsLot_87 (by decide) ?_
      refine lv_goto (tgt := 92) F.x F.b dX7_readsLot_88 (by decide) ?_
      refine lv_iadd F.x F.b dX7_readsLot_92 ?_
      refine rp F w (ws' := wMo G.2.1 mo (wrI (wrA (wrI M_2 11 1) 6 ((5 * (M_2.1 10)) + 4) 0) 8 ((M_2.1 8) + 0))) cl7 0 (at_Mo_0 _ _ _) 18 (by decide) q1565 rfl rfl rfl rfl (Nat.le_of_ble_eq_true rfl) (pt_Mo_0_18 _ _ _ _) dX7_readsLot_93 (fun H locs w => ?_)
      refine lv_aload_n F.x F.b dX7_readsLot_96 rfl (lv_at hl 0 rfl) ?_
      refine lv_iconst (v := 1) F.x F.b dX7_readsLot_97 (by decide) ?_
      obtain ⟨M_35, hc36, h⟩ := bd h
      try dsimp only at h
      refine kVv0 F w (As := [.int 1]) (rest := []) (w1 := wMo G.2.1 mo M_35) (t_X7_number F.1 hc36) m_X7_number v_X7_number q1985 (ci := 11) (q0 := 0) rfl rfl rfl ⟨Nat.le_of_ble_eq_true rfl, Nat.le_of_ble_eq_true rfl⟩ rfl hl.1 rfl (Nat.le_of_ble_eq_true rfl) dX7_readsLot_98 ⟨Nat.le_of_ble_eq_true rfl, Nat.le_of_ble_eq_true rfl⟩ (fun H locs w => ?_)
      refine lv_aload_n F.x F.b dX7_readsLot_101 rfl (lv_at hl 0 rfl) ?_
      refine va_ldcS F.x F.b F.o (F.rf hSG 12 rfl) dX7_readsLot_102 ?_
      obtain ⟨M_37, hc38, h⟩ := bd h
      try dsimp only at h
      refine kVv0 F w (As := [.ref (ks 12)]) (rest := []) (w1 := wMo G.2.1 mo M_37) (t_X7_says F.1 hSG (by decide) hc38) m_X7_says v_X7_says q1979 (ci := 11) (q0 := 0) rfl rfl rfl ⟨Nat.le_of_ble_eq_true rfl, Nat.le_of_ble_eq_true rfl⟩ rfl hl.1 rfl (Nat.le_of_ble_eq_true rfl) dX7_readsLot_104 ⟨Nat.le_of_ble_eq_true rfl, Nat.le_of_ble_eq_true rfl⟩ (fun H locs w => ?_)
      refine lv_aload_n F.x F.b dX7_readsLot_107 rfl (lv_at hl 0 rfl) ?_
      refine lv_iconst (v := 2) F.x F.b dX7_readsLot_108 (by decide) ?_
      obtain ⟨M_39, hc40, h⟩ := bd h
      try dsimp only at h
      refine kVv0 F w (As := [.int 2]) (rest := []) (w1 := wMo G.2.1 mo M_39) (t_X7_number F.1 hc40) m_X7_number v_X7_number q1985 (ci := 11) (q0 := 0) rfl rfl rfl ⟨Nat.le_of_ble_eq_true rfl, Nat.le_of_ble_eq_true rfl⟩ rfl hl.1 rfl (Nat.le_of_ble_eq_true rfl) dX7_readsLot_109 ⟨Nat.le_of_ble_eq_true rfl, Nat.le_of_ble_eq_true rfl⟩ (fun H locs w => ?_)
      refine lv_aload_n F.x F.b dX7_readsLot_112 rfl (lv_at hl 0 rfl) ?_
      refine va_ldcS F.x F.b F.o (F.rf hSG 13 rfl) dX7_readsLot_113 ?_
      obtain ⟨M_41, hc42, h⟩ := bd h
      try dsimp only at h
      refine kVv0 F w (As := [.ref (ks 13)]) (rest := []) (w1 := wMo G.2.1 mo M_41) (t_X7_says F.1 hSG (by decide) hc42) m_X7_says v_X7_says q1979 (ci := 11) (q0 := 0) rfl rfl rfl ⟨Nat.le_of_ble_eq_true rfl, Nat.le_of_ble_eq_true rfl⟩ rfl hl.1 rfl (Nat.le_of_ble_eq_true rfl) dX7_readsLot_115 ⟨Nat.le_of_ble_eq_true rfl, Nat.le_of_ble_eq_true rfl⟩ (fun H locs w => ?_)
      refine lv_aload_n F.x F.b dX7_readsLot_118 rfl (lv_at hl 0 rfl) ?_
      refine lv_iconst (v := 3) F.x F.b dX7_readsLot_119 (by decide) ?_
      obtain ⟨M_43, hc44, h⟩ := bd h
      try dsimp only at h
      refine kVv0 F w (As := [.int 3]) (rest := []) (w1 := wMo G.2.1 mo M_43) (t_X7_number F.1 hc44) m_X7_number v_X7_number q1985 (ci := 11) (q0 := 0) rfl rfl rfl ⟨Nat.le_of_ble_eq_true rfl, Nat.le_of_ble_eq_true rfl⟩ rfl hl.1 rfl (Nat.le_of_ble_eq_true rfl) dX7_readsLot_120 ⟨Nat.le_of_ble_eq_true rfl, Nat.le_of_ble_eq_true rfl⟩ (fun H locs w => ?_)
      have z0 := sm h
      exact ev F w hr hlocks (by rw [← z0]) dX7_readsLot_123
set_option maxRecDepth 100000 in
set_option maxHeartbeats 4000000 in
theorem t_X7_one {G : cG} (g : GOK G) {ks kv : Nat → Nat} (hSG : SG G ks kv) {mo : Nat → Nat} {M : Mem} {u2 : Nat} (hu2 : u2 < 23) {x1 : Int32} {M' : Mem} (h : f_X7_one M u2 x1 = some M') : CV G yX7_one cX7_one 3 5 107 [.ref (mo 0), .int x1, .ref (ks u2)] (wMo G.2.1 mo M) (wMo G.2.1 mo M') := by
  unfold f_X7_one at h
  refine CV.of g (by decide) rfl (Nat.le_of_ble_eq_true rfl) ?_
  intro p l e s m below meth c A ls F hr hlocks w hl
  generalize ([.ref (mo 0), .int x1, .ref (ks u2)] : List Value).toArray = args
  have hl : lv_has ls 3 [(0, .ref (mo 0)), (1, .int x1), (2, .ref (ks u2))] := hl
  refine lv_aload_n F.x F.b dX7_one_0 rfl (lv_at hl 0 rfl) ?_
  refine rg F w cl7 0 (at_Mo_0 _ _ _) 9 (by decide) q1556 rfl (v := .ref (mo 7)) rfl dX7_one_1 ?_
  refine lv_iconst (v := 5) F.x F.b dX7_one_4 (by decide) ?_
  refine lv_aload_n F.x F.b dX7_one_5 rfl (lv_at hl 0 rfl) ?_
  refine rg F w cl7 0 (at_Mo_0 _ _ _) 20 (by decide) q1567 rfl (v := .int (M.1 10)) rfl dX7_one_6 ?_
  refine lv_imul F.x F.b dX7_one_9 ?_
  refine lv_iload_n F.x F.b dX7_one_10 rfl (lv_at hl 1 rfl) ?_
  obtain ⟨g1, h⟩ := gd h
  refine ris F w (ws' := wMo G.2.1 mo (wrA M 6 (5 * (M.1 10)) x1)) 7 (n := 300) (f := M.2 6) (at_Mo_7 _ _ _) g1 (st_Mo_7 _ _ _ _ _) dX7_one_11 (fun H locs w => ?_)
  refine lv_aload_n F.x F.b dX7_one_12 rfl (lv_at hl 0 rfl) ?_
  refine lv_aload_n F.x F.b dX7_one_13 rfl (lv_at hl 2 rfl) ?_
  obtain ⟨M_2, hc3, h⟩ := bd h
  try dsimp only at h
  refine kVv0 F w (As := [.ref (ks u2)]) (rest := []) (w1 := wMo G.2.1 mo M_2) (t_X7_says F.1 hSG hu2 hc3) m_X7_says v_X7_says q1979 (ci := 11) (q0 := 0) rfl rfl rfl ⟨Nat.le_of_ble_eq_true rfl, Nat.le_of_ble_eq_true rfl⟩ rfl hl.1 rfl (Nat.le_of_ble_eq_true rfl) dX7_one_14 ⟨Nat.le_of_ble_eq_true rfl, Nat.le_of_ble_eq_true rfl⟩ (fun H locs w => ?_)
  refine lv_aload_n F.x F.b dX7_one_17 rfl (lv_at hl 0 rfl) ?_
  refine lv_iconst (v := 1) F.x F.b dX7_one_18 (by decide) ?_
  obtain ⟨M_4, hc5, h⟩ := bd h
  try dsimp only at h
  refine kVv0 F w (As := [.int 1]) (rest := []) (w1 := wMo G.2.1 mo M_4) (t_X7_number F.1 hc5) m_X7_number v_X7_number q1985 (ci := 11) (q0 := 0) rfl rfl rfl ⟨Nat.le_of_ble_eq_true rfl, Nat.le_of_ble_eq_true rfl⟩ rfl hl.1 rfl (Nat.le_of_ble_eq_true rfl) dX7_one_19 ⟨Nat.le_of_ble_eq_true rfl, Nat.le_of_ble_eq_true rfl⟩ (fun H locs w => ?_)
  have z0 := sm h
  exact ev F w hr hlocks (by rw [← z0]) dX7_one_22
set_option maxRecDepth 100000 in
set_option maxHeartbeats 4000000 in
theorem t_X7_two {G : cG} (g : GOK G) {ks kv : Nat → Nat} (hSG : SG G ks kv) {mo : Nat → Nat} {M : Mem} {u2 : Nat} (hu2 : u2 < 23) {u3 : Nat} (hu3 : u3 < 23) {x1 : Int32} {M' : Mem} (h : f_X7_two M u2 u3 x1 = some M') : CV G yX7_two cX7_two 4 6 129 [.ref (mo 0), .int x1, .ref (ks u2), .ref (ks u3)] (wMo G.2.1 mo M) (wMo G.2.1 mo M') := by
  unfold f_X7_two at h
  refine CV.of g (by decide) rfl (Nat.le_of_ble_eq_true rfl) ?_
  intro p l e s m below meth c A ls F hr hlocks w hl
  generalize ([.ref (mo 0), .int x1, .ref (ks u2), .ref (ks u3)] : List Value).toArray = args
  have hl : lv_has ls 4 [(0, .ref (mo 0)), (1, .int x1), (2, .ref (ks u2)), (3, .ref (ks u3))] := hl
  refine lv_aload_n F.x F.b dX7_two_0 rfl (lv_at hl 0 rfl) ?_
  refine lv_iload_n F.x F.b dX7_two_1 rfl (lv_at hl 1 rfl) ?_
  refine lv_aload_n F.x F.b dX7_two_2 rfl (lv_at hl 2 rfl) ?_
  obtain ⟨M_1, hc2, h⟩ := bd h
  try dsimp only at h
  refine kVv0 F w (As := [.int x1, .ref (ks u2)]) (rest := []) (w1 := wMo G.2.1 mo M_1) (t_X7_one F.1 hSG hu2 hc2) m_X7_one v_X7_one q1997 (ci := 11) (q0 := 0) rfl rfl rfl ⟨Nat.le_of_ble_eq_true rfl, Nat.le_of_ble_eq_true rfl⟩ rfl hl.1 rfl (Nat.le_of_ble_eq_true rfl) dX7_two_3 ⟨Nat.le_of_ble_eq_true rfl, Nat.le_of_ble_eq_true rfl⟩ (fun H locs w => ?_)
  refine lv_aload_n F.x F.b dX7_two_6 rfl (lv_at hl 0 rfl) ?_
  refine lv_aload_n F.x F.b dX7_two_7 rfl (lv_at hl 3 rfl) ?_
  obtain ⟨M_3, hc4, h⟩ := bd h
  try dsimp only at h
  refine kVv0 F w (As := [.ref (ks u3)]) (rest := []) (w1 := wMo G.2.1 mo M_3) (t_X7_says F.1 hSG hu3 hc4) m_X7_says v_X7_says q1979 (ci := 11) (q0 := 0) rfl rfl rfl ⟨Nat.le_of_ble_eq_true rfl, Nat.le_of_ble_eq_true rfl⟩ rfl hl.1 rfl (Nat.le_of_ble_eq_true rfl) dX7_two_8 ⟨Nat.le_of_ble_eq_true rfl, Nat.le_of_ble_eq_true rfl⟩ (fun H locs w => ?_)
  refine lv_aload_n F.x F.b dX7_two_11 rfl (lv_at hl 0 rfl) ?_
  refine lv_iconst (v := 2) F.x F.b dX7_two_12 (by decide) ?_
  obtain ⟨M_5, hc6, h⟩ := bd h
  try dsimp only at h
  refine kVv0 F w (As := [.int 2]) (rest := []) (w1 := wMo G.2.1 mo M_5) (t_X7_number F.1 hc6) m_X7_number v_X7_number q1985 (ci := 11) (q0 := 0) rfl rfl rfl ⟨Nat.le_of_ble_eq_true rfl, Nat.le_of_ble_eq_true rfl⟩ rfl hl.1 rfl (Nat.le_of_ble_eq_true rfl) dX7_two_13 ⟨Nat.le_of_ble_eq_true rfl, Nat.le_of_ble_eq_true rfl⟩ (fun H locs w => ?_)
  have z0 := sm h
  exact ev F w hr hlocks (by rw [← z0]) dX7_two_16
set_option maxRecDepth 100000 in
set_option maxHeartbeats 4000000 in
theorem t_X7_readsOne {G : cG} (g : GOK G) {ks kv : Nat → Nat} (hSG : SG G ks kv) {mo : Nat → Nat} {M : Mem} {M' : Mem} (h : f_X7_readsOne M = some M') : CV G yX7_readsOne cX7_readsOne 2 7 152 [.ref (mo 0)] (wMo G.2.1 mo M) (wMo G.2.1 mo M') := by
  unfold f_X7_readsOne at h
  refine CV.of g (by decide) rfl (Nat.le_of_ble_eq_true rfl) ?_
  intro p l e s m below meth c A ls F hr hlocks w hl
  generalize ([.ref (mo 0)] : List Value).toArray = args
  have hl : lv_has ls 2 [(0, .ref (mo 0))] := hl
  refine lv_aload_n F.x F.b dX7_readsOne_0 rfl (lv_at hl 0 rfl) ?_
  refine lv_iconst (v := 0) F.x F.b dX7_readsOne_1 (by decide) ?_
  obtain ⟨r1, hc2, h⟩ := bd h
  try dsimp only at h
  refine kVi0 F w (As := [.int 0]) (rest := []) (w1 := wMo G.2.1 mo M) (t_X7_here F.1 hc2) m_X7_here v_X7_here q1970 (ci := 11) (q0 := 0) rfl rfl rfl ⟨Nat.le_of_ble_eq_true rfl, Nat.le_of_ble_eq_true rfl⟩ rfl hl.1 rfl (Nat.le_of_ble_eq_true rfl) dX7_readsOne_2 ⟨Nat.le_of_ble_eq_true rfl, Nat.le_of_ble_eq_true rfl⟩ (fun H locs w => ?_)
  refine lv_istore_n (lv' := [(1, .int r1), (0, .ref (mo 0))]) F.x F.b dX7_readsOne_5 rfl hl (by decide) rfl (fun ls hl => ?_)
  refine lv_aload_n F.x F.b dX7_readsOne_6 rfl (lv_at hl 1 rfl) ?_
  refine rg F w cl7 0 (at_Mo_0 _ _ _) 9 (by decide) q1556 rfl (v := .ref (mo 7)) rfl dX7_readsOne_7 ?_
  refine lv_iconst (v := 5) F.x F.b dX7_readsOne_10 (by decide) ?_
  refine lv_aload_n F.x F.b dX7_readsOne_11 rfl (lv_at hl 1 rfl) ?_
  refine rg F w cl7 0 (at_Mo_0 _ _ _) 20 (by decide) q1567 rfl (v := .int (M.1 10)) rfl dX7_readsOne_12 ?_
  refine lv_imul F.x F.b dX7_readsOne_15 ?_
  refine lv_iload_n F.x F.b dX7_readsOne_16 rfl (lv_at hl 0 rfl) ?_
  obtain ⟨g3, h⟩ := gd h
  refine ris F w (ws' := wMo G.2.1 mo (wrA M 6 (5 * (M.1 10)) r1)) 7 (n := 300) (f := M.2 6) (at_Mo_7 _ _ _) g3 (st_Mo_7 _ _ _ _ _) dX7_readsOne_17 (fun H locs w => ?_)
  refine lv_iload_n F.x F.b dX7_readsOne_18 rfl (lv_at hl 0 rfl) ?_
  by_cases c4 : r1 = 97
  · have h := it c4 h
    rw [c4]
    refine lv_tableIn (tgt := 222) F.x F.b dX7_readsOne_19 (by decide) (by decide) rfl (by decide) ?_
    refine lv_aload_n F.x F.b dX7_readsOne_222 rfl (lv_at hl 1 rfl) ?_
    refine va_ldcS F.x F.b F.o (F.rf hSG 22 rfl) dX7_readsOne_223 ?_
    obtain ⟨M_5, hc6, h⟩ := bd h
    try dsimp only at h
    refine kVv0 F w (As := [.ref (ks 7)]) (rest := []) (w1 := wMo G.2.1 mo M_5) (t_X7_says F.1 hSG (by decide) hc6) m_X7_says v_X7_says q1979 (ci := 11) (q0 := 0) rfl rfl rfl ⟨Nat.le_of_ble_eq_true rfl, Nat.le_of_ble_eq_true rfl⟩ rfl hl.1 rfl (Nat.le_of_ble_eq_true rfl) dX7_readsOne_225 ⟨Nat.le_of_ble_eq_true rfl, Nat.le_of_ble_eq_true rfl⟩ (fun H locs w => ?_)
    refine lv_goto (tgt := 256) F.x F.b dX7_readsOne_228 (by decide) ?_
    refine lv_aload_n F.x F.b dX7_readsOne_256 rfl (lv_at hl 1 rfl) ?_
    refine lv_dup F.x F.b dX7_readsOne_257 rfl ?_
    refine rg F w cl7 0 (at_Mo_0 _ _ _) 20 (by decide) q1567 rfl (v := .int (M_5.1 10)) rfl dX7_readsOne_258 ?_
    refine lv_iconst (v := 1) F.x F.b dX7_readsOne_261 (by decide) ?_
    refine lv_iadd F.x F.b dX7_readsOne_262 ?_
    refine rp F w (ws' := wMo G.2.1 mo (wrI M_5 10 ((M_5.1 10) + 1))) cl7 0 (at_Mo_0 _ _ _) 20 (by decide) q1567 rfl rfl rfl rfl (Nat.le_of_ble_eq_true rfl) (pt_Mo_0_20 _ _ _ _) dX7_readsOne_263 (fun H locs w => ?_)
    have z0 := sm h
    exact ev F w hr hlocks (by rw [← z0]) dX7_readsOne_266
  · have h := ie c4 h
    by_cases c7 : r1 = 98
    · have h := it c7 h
      rw [c7]
      refine lv_tableIn (tgt := 231) F.x F.b dX7_readsOne_19 (by decide) (by decide) rfl (by decide) ?_
      refine lv_aload_n F.x F.b dX7_readsOne_231 rfl (lv_at hl 1 rfl) ?_
      refine lv_bipush (v := 98) F.x F.b dX7_readsOne_232 (by decide) ?_
      refine va_ldcS F.x F.b F.o (F.rf hSG 23 rfl) dX7_readsOne_234 ?_
      obtain ⟨M_8, hc9, h⟩ := bd h
      try dsimp only at h
      refine kVv0 F w (As := [.int 98, .ref (ks 22)]) (rest := []) (w1 := wMo G.2.1 mo M_8) (t_X7_one F.1 hSG (by decide) hc9) m_X7_one v_X7_one q1997 (ci := 11) (q0 := 0) rfl rfl rfl ⟨Nat.le_of_ble_eq_true rfl, Nat.le_of_ble_eq_true rfl⟩ rfl hl.1 rfl (Nat.le_of_ble_eq_true rfl) dX7_readsOne_236 ⟨Nat.le_of_ble_eq_true rfl, Nat.le_of_ble_eq_true rfl⟩ (fun H locs w => ?_)
      refine lv_goto (tgt := 256) F.x F.b dX7_readsOne_239 (by decide) ?_
      refine lv_aload_n F.x F.b dX7_readsOne_256 rfl (lv_at hl 1 rfl) ?_
      refine lv_dup F.x F.b dX7_readsOne_257 rfl ?_
      refine rg F w cl7 0 (at_Mo_0 _ _ _) 20 (by decide) q1567 rfl (v := .int (M_8.1 10)) rfl dX7_readsOne_258 ?_
      refine lv_iconst (v := 1) F.x F.b dX7_readsOne_261 (by decide) ?_
      refine lv_iadd F.x F.b dX7_readsOne_262 ?_
      refine rp F w (ws' := wMo G.2.1 mo (wrI M_8 10 ((M_8.1 10) + 1))) cl7 0 (at_Mo_0 _ _ _) 20 (by decide) q1567 rfl rfl rfl rfl (Nat.le_of_ble_eq_true rfl) (pt_Mo_0_20 _ _ _ _) dX7_readsOne_263 (fun H locs w => ?_)
      have z0 := sm h
      exact ev F w hr hlocks (by rw [← z0]) dX7_readsOne_266
    · have h := ie c7 h
      by_cases c10 : r1 = 99
      · have h := it c10 h
        rw [c10]
        refine lv_tableIn (tgt := 251) F.x F.b dX7_readsOne_19 (by decide) (by decide) rfl (by decide) ?_
        refine lv_aload_n F.x F.b dX7_readsOne_251 rfl (lv_at hl 1 rfl) ?_
        refine lv_iconst (v := 1) F.x F.b dX7_readsOne_252 (by decide) ?_
        refine rp F w (ws' := wMo G.2.1 mo (wrI (wrA M 6 (5 * (M.1 10)) r1) 11 1)) cl7 0 (at_Mo_0 _ _ _) 21 (by decide) q1568 rfl rfl rfl rfl (Nat.le_of_ble_eq_true rfl) (pt_Mo_0_21 _ _ _ _) dX7_readsOne_253 (fun H locs w => ?_)
        refine lv_aload_n F.x F.b dX7_readsOne_256 rfl (lv_at hl 1 rfl) ?_
        refine lv_dup F.x F.b dX7_readsOne_257 rfl ?_
        refine rg F w cl7 0 (at_Mo_0 _ _ _) 20 (by decide) q1567 rfl (v := .int (M.1 10)) rfl dX7_readsOne_258 ?_
        refine lv_iconst (v := 1) F.x F.b dX7_readsOne_261 (by decide) ?_
        refine lv_iadd F.x F.b dX7_readsOne_262 ?_
        refine rp F w (ws' := wMo G.2.1 mo (wrI (wrI (wrA M 6 (5 * (M.1 10)) r1) 11 1) 10 ((M.1 10) + 1))) cl7 0 (at_Mo_0 _ _ _) 20 (by decide) q1567 rfl rfl rfl rfl (Nat.le_of_ble_eq_true rfl) (pt_Mo_0_20 _ _ _ _) dX7_readsOne_263 (fun H locs w => ?_)
        have z0 := sm h
        exact ev F w hr hlocks (by rw [← z0]) dX7_readsOne_266
      · have h := ie c10 h
        by_cases c11 : r1 = 100
        · have h := it c11 h
          rw [c11]
          refine lv_tableIn (tgt := 242) F.x F.b dX7_readsOne_19 (by decide) (by decide) rfl (by decide) ?_
          refine lv_aload_n F.x F.b dX7_readsOne_242 rfl (lv_at hl 1 rfl) ?_
          refine va_ldcS F.x F.b F.o (F.rf hSG 24 rfl) dX7_readsOne_243 ?_
          obtain ⟨M_12, hc13, h⟩ := bd h
          try dsimp only at h
          refine kVv0 F w (As := [.ref (ks 10)]) (rest := []) (w1 := wMo G.2.1 mo M_12) (t_X7_says F.1 hSG (by decide) hc13) m_X7_says v_X7_says q1979 (ci := 11) (q0 := 0) rfl rfl rfl ⟨Nat.le_of_ble_eq_true rfl, Nat.le_of_ble_eq_true rfl⟩ rfl hl.1 rfl (Nat.le_of_ble_eq_true rfl) dX7_readsOne_245 ⟨Nat.le_of_ble_eq_true rfl, Nat.le_of_ble_eq_true rfl⟩ (fun H locs w => ?_)
          refine lv_goto (tgt := 256) F.x F.b dX7_readsOne_248 (by decide) ?_
          refine lv_aload_n F.x F.b dX7_readsOne_256 rfl (lv_at hl 1 rfl) ?_
          refine lv_dup F.x F.b dX7_readsOne_257 rfl ?_
          refine rg F w cl7 0 (at_Mo_0 _ _ _) 20 (by decide) q1567 rfl (v := .int (M_12.1 10)) rfl dX7_readsOne_258 ?_
          refine lv_iconst (v := 1) F.x F.b dX7_readsOne_261 (by decide) ?_
          refine lv_iadd F.x F.b dX7_readsOne_262 ?_
          refine rp F w (ws' := wMo G.2.1 mo (wrI M_12 10 ((M_12.1 10) + 1))) cl7 0 (at_Mo_0 _ _ _) 20 (by decide) q1567 rfl rfl rfl rfl (Nat.le_of_ble_eq_true rfl) (pt_Mo_0_20 _ _ _ _) dX7_readsOne_263 (fun H locs w => ?_)
          have z0 := sm h
          exact ev F w hr hlocks (by rw [← z0]) dX7_readsOne_266
        · have h := ie c11 h
          by_cases c14 : r1 = 101
          · have h := it c14 h
            rw [c14]
            refine lv_tableIn (tgt := 251) F.x F.b dX7_readsOne_19 (by decide) (by decide) rfl (by decide) ?_
            refine lv_aload_n F.x F.b dX7_readsOne_251 rfl (lv_at hl 1 rfl) ?_
            refine lv_iconst (v := 1) F.x F.b dX7_readsOne_252 (by decide) ?_
            refine rp F w (ws' := wMo G.2.1 mo (wrI (wrA M 6 (5 * (M.1 10)) r1) 11 1)) cl7 0 (at_Mo_0 _ _ _) 21 (by decide) q1568 rfl rfl rfl rfl (Nat.le_of_ble_eq_true rfl) (pt_Mo_0_21 _ _ _ _) dX7_readsOne_253 (fun H locs w => ?_)
            refine lv_aload_n F.x F.b dX7_readsOne_256 rfl (lv_at hl 1 rfl) ?_
            refine lv_dup F.x F.b dX7_readsOne_257 rfl ?_
            refine rg F w cl7 0 (at_Mo_0 _ _ _) 20 (by decide) q1567 rfl (v := .int (M.1 10)) rfl dX7_readsOne_258 ?_
            refine lv_iconst (v := 1) F.x F.b dX7_readsOne_261 (by decide) ?_
            refine lv_iadd F.x F.b dX7_readsOne_262 ?_
            refine rp F w (ws' := wMo G.2.1 mo (wrI (wrI (wrA M 6 (5 * (M.1 10)) r1) 11 1) 10 ((M.1 10) + 1))) cl7 0 (at_Mo_0 _ _ _) 20 (by decide) q1567 rfl rfl rfl rfl (Nat.le_of_ble_eq_true rfl) (pt_Mo_0_20 _ _ _ _) dX7_readsOne_263 (fun H locs w => ?_)
            have z0 := sm h
            exact ev F w hr hlocks (by rw [← z0]) dX7_readsOne_266
          · have h := ie c14 h
            by_cases c15 : r1 = 102
            · have h := it c15 h
              rw [c15]
              refine lv_tableIn (tgt := 251) F.x F.b dX7_readsOne_19 (by decide) (by decide) rfl (by decide) ?_
              refine lv_aload_n F.x F.b dX7_readsOne_251 rfl (lv_at hl 1 rfl) ?_
              refine lv_iconst (v := 1) F.x F.b dX7_readsOne_252 (by decide) ?_
              refine rp F w (ws' := wMo G.2.1 mo (wrI (wrA M 6 (5 * (M.1 10)) r1) 11 1)) cl7 0 (at_Mo_0 _ _ _) 21 (by decide) q1568 rfl rfl rfl rfl (Nat.le_of_ble_eq_true rfl) (pt_Mo_0_21 _ _ _ _) dX7_readsOne_253 (fun H locs w => ?_)
              refine lv_aload_n F.x F.b dX7_readsOne_256 rfl (lv_at hl 1 rfl) ?_
              refine lv_dup F.x F.b dX7_readsOne_257 rfl ?_
              refine rg F w cl7 0 (at_Mo_0 _ _ _) 20 (by decide) q1567 rfl (v := .int (M.1 10)) rfl dX7_readsOne_258 ?_
              refine lv_iconst (v := 1) F.x F.b dX7_readsOne_261 (by decide) ?_
              refine lv_iadd F.x F.b dX7_readsOne_262 ?_
              refine rp F w (ws' := wMo G.2.1 mo (wrI (wrI (wrA M 6 (5 * (M.1 10)) r1) 11 1) 10 ((M.1 10) + 1))) cl7 0 (at_Mo_0 _ _ _) 20 (by decide) q1567 rfl rfl rfl rfl (Nat.le_of_ble_eq_true rfl) (pt_Mo_0_20 _ _ _ _) dX7_readsOne_263 (fun H locs w => ?_)
              have z0 := sm h
              exact ev F w hr hlocks (by rw [← z0]) dX7_readsOne_266
            · have h := ie c15 h
              by_cases c16 : r1 = 103
              · have h := it c16 h
                rw [c16]
                refine lv_tableIn (tgt := 251) F.x F.b dX7_readsOne_19 (by decide) (by decide) rfl (by decide) ?_
                refine lv_aload_n F.x F.b dX7_readsOne_251 rfl (lv_at hl 1 rfl) ?_
                refine lv_iconst (v := 1) F.x F.b dX7_readsOne_252 (by decide) ?_
                refine rp F w (ws' := wMo G.2.1 mo (wrI (wrA M 6 (5 * (M.1 10)) r1) 11 1)) cl7 0 (at_Mo_0 _ _ _) 21 (by decide) q1568 rfl rfl rfl rfl (Nat.le_of_ble_eq_true rfl) (pt_Mo_0_21 _ _ _ _) dX7_readsOne_253 (fun H locs w => ?_)
                refine lv_aload_n F.x F.b dX7_readsOne_256 rfl (lv_at hl 1 rfl) ?_
                refine lv_dup F.x F.b dX7_readsOne_257 rfl ?_
                refine rg F w cl7 0 (at_Mo_0 _ _ _) 20 (by decide) q1567 rfl (v := .int (M.1 10)) rfl dX7_readsOne_258 ?_
                refine lv_iconst (v := 1) F.x F.b dX7_readsOne_261 (by decide) ?_
                refine lv_iadd F.x F.b dX7_readsOne_262 ?_
                refine rp F w (ws' := wMo G.2.1 mo (wrI (wrI (wrA M 6 (5 * (M.1 10)) r1) 11 1) 10 ((M.1 10) + 1))) cl7 0 (at_Mo_0 _ _ _) 20 (by decide) q1567 rfl rfl rfl rfl (Nat.le_of_ble_eq_true rfl) (pt_Mo_0_20 _ _ _ _) dX7_readsOne_263 (fun H locs w => ?_)
                have z0 := sm h
                exact ev F w hr hlocks (by rw [← z0]) dX7_readsOne_266
              · have h := ie c16 h
                by_cases c17 : r1 = 104
                · have h := it c17 h
                  rw [c17]
                  refine lv_tableIn (tgt := 251) F.x F.b dX7_readsOne_19 (by decide) (by decide) rfl (by decide) ?_
                  refine lv_aload_n F.x F.b dX7_readsOne_251 rfl (lv_at hl 1 rfl) ?_
                  refine lv_iconst (v := 1) F.x F.b dX7_readsOne_252 (by decide) ?_
                  refine rp F w (ws' := wMo G.2.1 mo (wrI (wrA M 6 (5 * (M.1 10)) r1) 11 1)) cl7 0 (at_Mo_0 _ _ _) 21 (by decide) q1568 rfl rfl rfl rfl (Nat.le_of_ble_eq_true rfl) (pt_Mo_0_21 _ _ _ _) dX7_readsOne_253 (fun H locs w => ?_)
                  refine lv_aload_n F.x F.b dX7_readsOne_256 rfl (lv_at hl 1 rfl) ?_
                  refine lv_dup F.x F.b dX7_readsOne_257 rfl ?_
                  refine rg F w cl7 0 (at_Mo_0 _ _ _) 20 (by decide) q1567 rfl (v := .int (M.1 10)) rfl dX7_readsOne_258 ?_
                  refine lv_iconst (v := 1) F.x F.b dX7_readsOne_261 (by decide) ?_
                  refine lv_iadd F.x F.b dX7_readsOne_262 ?_
                  refine rp F w (ws' := wMo G.2.1 mo (wrI (wrI (wrA M 6 (5 * (M.1 10)) r1) 11 1) 10 ((M.1 10) + 1))) cl7 0 (at_Mo_0 _ _ _) 20 (by decide) q1567 rfl rfl rfl rfl (Nat.le_of_ble_eq_true rfl) (pt_Mo_0_20 _ _ _ _) dX7_readsOne_263 (fun H locs w => ?_)
                  have z0 := sm h
                  exact ev F w hr hlocks (by rw [← z0]) dX7_readsOne_266
                · have h := ie c17 h
                  by_cases c18 : r1 = 105
                  · have h := it c18 h
                    rw [c18]
                    refine lv_tableIn (tgt := 251) F.x F.b dX7_readsOne_19 (by decide) (by decide) rfl (by decide) ?_
                    refine lv_aload_n F.x F.b dX7_readsOne_251 rfl (lv_at hl 1 rfl) ?_
                    refine lv_iconst (v := 1) F.x F.b dX7_readsOne_252 (by decide) ?_
                    refine rp F w (ws' := wMo G.2.1 mo (wrI (wrA M 6 (5 * (M.1 10)) r1) 11 1)) cl7 0 (at_Mo_0 _ _ _) 21 (by decide) q1568 rfl rfl rfl rfl (Nat.le_of_ble_eq_true rfl) (pt_Mo_0_21 _ _ _ _) dX7_readsOne_253 (fun H locs w => ?_)
                    refine lv_aload_n F.x F.b dX7_readsOne_256 rfl (lv_at hl 1 rfl) ?_
                    refine lv_dup F.x F.b dX7_readsOne_257 rfl ?_
                    refine rg F w cl7 0 (at_Mo_0 _ _ _) 20 (by decide) q1567 rfl (v := .int (M.1 10)) rfl dX7_readsOne_258 ?_
                    refine lv_iconst (v := 1) F.x F.b dX7_readsOne_261 (by decide) ?_
                    refine lv_iadd F.x F.b dX7_readsOne_262 ?_
                    refine rp F w (ws' := wMo G.2.1 mo (wrI (wrI (wrA M 6 (5 * (M.1 10)) r1) 11 1) 10 ((M.1 10) + 1))) cl7 0 (at_Mo_0 _ _ _) 20 (by decide) q1567 rfl rfl rfl rfl (Nat.le_of_ble_eq_true rfl) (pt_Mo_0_20 _ _ _ _) dX7_readsOne_263 (fun H locs w => ?_)
                    have z0 := sm h
                    exact ev F w hr hlocks (by rw [← z0]) dX7_readsOne_266
                  · have h := ie c18 h
                    by_cases c19 : r1 = 106
                    · have h := it c19 h
                      rw [c19]
                      refine lv_tableIn (tgt := 251) F.x F.b dX7_readsOne_19 (by decide) (by decide) rfl (by decide) ?_
                      refine lv_aload_n F.x F.b dX7_readsOne_251 rfl (lv_at hl 1 rfl) ?_
                      refine lv_iconst (v := 1) F.x F.b dX7_readsOne_252 (by decide) ?_
                      refine rp F w (ws' := wMo G.2.1 mo (wrI (wrA M 6 (5 * (M.1 10)) r1) 11 1)) cl7 0 (at_Mo_0 _ _ _) 21 (by decide) q1568 rfl rfl rfl rfl (Nat.le_of_ble_eq_true rfl) (pt_Mo_0_21 _ _ _ _) dX7_readsOne_253 (fun H locs w => ?_)
                      refine lv_aload_n F.x F.b dX7_readsOne_256 rfl (lv_at hl 1 rfl) ?_
                      refine lv_dup F.x F.b dX7_readsOne_257 rfl ?_
                      refine rg F w cl7 0 (at_Mo_0 _ _ _) 20 (by decide) q1567 rfl (v := .int (M.1 10)) rfl dX7_readsOne_258 ?_
                      refine lv_iconst (v := 1) F.x F.b dX7_readsOne_261 (by decide) ?_
                      refine lv_iadd F.x F.b dX7_readsOne_262 ?_
                      refine rp F w (ws' := wMo G.2.1 mo (wrI (wrI (wrA M 6 (5 * (M.1 10)) r1) 11 1) 10 ((M.1 10) + 1))) cl7 0 (at_Mo_0 _ _ _) 20 (by decide) q1567 rfl rfl rfl rfl (Nat.le_of_ble_eq_true rfl) (pt_Mo_0_20 _ _ _ _) dX7_readsOne_263 (fun H locs w => ?_)
                      have z0 := sm h
                      exact ev F w hr hlocks (by rw [← z0]) dX7_readsOne_266
                    · have h := ie c19 h
                      by_cases c20 : r1 = 107
                      · have h := it c20 h
                        rw [c20]
                        refine lv_tableIn (tgt := 251) F.x F.b dX7_readsOne_19 (by decide) (by decide) rfl (by decide) ?_
                        refine lv_aload_n F.x F.b dX7_readsOne_251 rfl (lv_at hl 1 rfl) ?_
                        refine lv_iconst (v := 1) F.x F.b dX7_readsOne_252 (by decide) ?_
                        refine rp F w (ws' := wMo G.2.1 mo (wrI (wrA M 6 (5 * (M.1 10)) r1) 11 1)) cl7 0 (at_Mo_0 _ _ _) 21 (by decide) q1568 rfl rfl rfl rfl (Nat.le_of_ble_eq_true rfl) (pt_Mo_0_21 _ _ _ _) dX7_readsOne_253 (fun H locs w => ?_)
                        refine lv_aload_n F.x F.b dX7_readsOne_256 rfl (lv_at hl 1 rfl) ?_
                        refine lv_dup F.x F.b dX7_readsOne_257 rfl ?_
                        refine rg F w cl7 0 (at_Mo_0 _ _ _) 20 (by decide) q1567 rfl (v := .int (M.1 10)) rfl dX7_readsOne_258 ?_
                        refine lv_iconst (v := 1) F.x F.b dX7_readsOne_261 (by decide) ?_
                        refine lv_iadd F.x F.b dX7_readsOne_262 ?_
                        refine rp F w (ws' := wMo G.2.1 mo (wrI (wrI (wrA M 6 (5 * (M.1 10)) r1) 11 1) 10 ((M.1 10) + 1))) cl7 0 (at_Mo_0 _ _ _) 20 (by decide) q1567 rfl rfl rfl rfl (Nat.le_of_ble_eq_true rfl) (pt_Mo_0_20 _ _ _ _) dX7_readsOne_263 (fun H locs w => ?_)
                        have z0 := sm h
                        exact ev F w hr hlocks (by rw [← z0]) dX7_readsOne_266
                      · have h := ie c20 h
                        by_cases c21 : r1 = 108
                        · have h := it c21 h
                          rw [c21]
                          refine lv_tableIn (tgt := 124) F.x F.b dX7_readsOne_19 (by decide) (by decide) rfl (by decide) ?_
                          refine lv_aload_n F.x F.b dX7_readsOne_124 rfl (lv_at hl 1 rfl) ?_
                          obtain ⟨M_22, hc23, h⟩ := bd h
                          try dsimp only at h
                          refine kVv0 F w (As := []) (rest := []) (w1 := wMo G.2.1 mo M_22) (t_X7_readsLot F.1 hSG hc23) m_X7_readsLot v_X7_readsLot q1974 (ci := 11) (q0 := 0) rfl rfl rfl ⟨Nat.le_of_ble_eq_true rfl, Nat.le_of_ble_eq_true rfl⟩ rfl hl.1 rfl (Nat.le_of_ble_eq_true rfl) dX7_readsOne_125 ⟨Nat.le_of_ble_eq_true rfl, Nat.le_of_ble_eq_true rfl⟩ (fun H locs w => ?_)
                          refine lv_goto (tgt := 256) F.x F.b dX7_readsOne_128 (by decide) ?_
                          refine lv_aload_n F.x F.b dX7_readsOne_256 rfl (lv_at hl 1 rfl) ?_
                          refine lv_dup F.x F.b dX7_readsOne_257 rfl ?_
                          refine rg F w cl7 0 (at_Mo_0 _ _ _) 20 (by decide) q1567 rfl (v := .int (M_22.1 10)) rfl dX7_readsOne_258 ?_
                          refine lv_iconst (v := 1) F.x F.b dX7_readsOne_261 (by decide) ?_
                          refine lv_iadd F.x F.b dX7_readsOne_262 ?_
                          refine rp F w (ws' := wMo G.2.1 mo (wrI M_22 10 ((M_22.1 10) + 1))) cl7 0 (at_Mo_0 _ _ _) 20 (by decide) q1567 rfl rfl rfl rfl (Nat.le_of_ble_eq_true rfl) (pt_Mo_0_20 _ _ _ _) dX7_readsOne_263 (fun H locs w => ?_)
                          have z0 := sm h
                          exact ev F w hr hlocks (by rw [← z0]) dX7_readsOne_266
                        · have h := ie c21 h
                          by_cases c24 : r1 = 109
                          · have h := it c24 h
                            rw [c24]
                            refine lv_tableIn (tgt := 209) F.x F.b dX7_readsOne_19 (by decide) (by decide) rfl (by decide) ?_
                            refine lv_aload_n F.x F.b dX7_readsOne_209 rfl (lv_at hl 1 rfl) ?_
                            refine lv_bipush (v := 109) F.x F.b dX7_readsOne_210 (by decide) ?_
                            refine va_ldcS F.x F.b F.o (F.rf hSG 21 rfl) dX7_readsOne_212 ?_
                            refine va_ldcS F.x F.b F.o (F.rf hSG 13 rfl) dX7_readsOne_214 ?_
                            obtain ⟨M_25, hc26, h⟩ := bd h
                            try dsimp only at h
                            refine kVv0 F w (As := [.int 109, .ref (ks 21), .ref (ks 13)]) (rest := []) (w1 := wMo G.2.1 mo M_25) (t_X7_two F.1 hSG (by decide) (by decide) hc26) m_X7_two v_X7_two q1993 (ci := 11) (q0 := 0) rfl rfl rfl ⟨Nat.le_of_ble_eq_true rfl, Nat.le_of_ble_eq_true rfl⟩ rfl hl.1 rfl (Nat.le_of_ble_eq_true rfl) dX7_readsOne_216 ⟨Nat.le_of_ble_eq_true rfl, Nat.le_of_ble_eq_true rfl⟩ (fun H locs w => ?_)
                            refine lv_goto (tgt := 256) F.x F.b dX7_readsOne_219 (by decide) ?_
                            refine lv_aload_n F.x F.b dX7_readsOne_256 rfl (lv_at hl 1 rfl) ?_
                            refine lv_dup F.x F.b dX7_readsOne_257 rfl ?_
                            refine rg F w cl7 0 (at_Mo_0 _ _ _) 20 (by decide) q1567 rfl (v := .int (M_25.1 10)) rfl dX7_readsOne_258 ?_
                            refine lv_iconst (v := 1) F.x F.b dX7_readsOne_261 (by decide) ?_
                            refine lv_iadd F.x F.b dX7_readsOne_262 ?_
                            refine rp F w (ws' := wMo G.2.1 mo (wrI M_25 10 ((M_25.1 10) + 1))) cl7 0 (at_Mo_0 _ _ _) 20 (by decide) q1567 rfl rfl rfl rfl (Nat.le_of_ble_eq_true rfl) (pt_Mo_0_20 _ _ _ _) dX7_readsOne_263 (fun H locs w => ?_)
                            have z0 := sm h
                            exact ev F w hr hlocks (by rw [← z0]) dX7_readsOne_266
                          · have h := ie c24 h
                            by_cases c27 : r1 = 110
                            · have h := it c27 h
                              rw [c27]
                              refine lv_tableIn (tgt := 251) F.x F.b dX7_readsOne_19 (by decide) (by decide) rfl (by decide) ?_
                              refine lv_aload_n F.x F.b dX7_readsOne_251 rfl (lv_at hl 1 rfl) ?_
                              refine lv_iconst (v := 1) F.x F.b dX7_readsOne_252 (by decide) ?_
                              refine rp F w (ws' := wMo G.2.1 mo (wrI (wrA M 6 (5 * (M.1 10)) r1) 11 1)) cl7 0 (at_Mo_0 _ _ _) 21 (by decide) q1568 rfl rfl rfl rfl (Nat.le_of_ble_eq_true rfl) (pt_Mo_0_21 _ _ _ _) dX7_readsOne_253 (fun H locs w => ?_)
                              refine lv_aload_n F.x F.b dX7_readsOne_256 rfl (lv_at hl 1 rfl) ?_
                              refine lv_dup F.x F.b dX7_readsOne_257 rfl ?_
                              refine rg F w cl7 0 (at_Mo_0 _ _ _) 20 (by decide) q1567 rfl (v := .int (M.1 10)) rfl dX7_readsOne_258 ?_
                              refine lv_iconst (v := 1) F.x F.b dX7_readsOne_261 (by decide) ?_
                              refine lv_iadd F.x F.b dX7_readsOne_262 ?_
                              refine rp F w (ws' := wMo G.2.1 mo (wrI (wrI (wrA M 6 (5 * (M.1 10)) r1) 11 1) 10 ((M.1 10) + 1))) cl7 0 (at_Mo_0 _ _ _) 20 (by decide) q1567 rfl rfl rfl rfl (Nat.le_of_ble_eq_true rfl) (pt_Mo_0_20 _ _ _ _) dX7_readsOne_263 (fun H locs w => ?_)
                              have z0 := sm h
                              exact ev F w hr hlocks (by rw [← z0]) dX7_readsOne_266
                            · have h := ie c27 h
                              by_cases c28 : r1 = 111
                              · have h := it c28 h
                                rw [c28]
                                refine lv_tableIn (tgt := 165) F.x F.b dX7_readsOne_19 (by decide) (by decide) rfl (by decide) ?_
                                refine lv_aload_n F.x F.b dX7_readsOne_165 rfl (lv_at hl 1 rfl) ?_
                                refine lv_bipush (v := 111) F.x F.b dX7_readsOne_166 (by decide) ?_
                                refine va_ldcS F.x F.b F.o (F.rf hSG 17 rfl) dX7_readsOne_168 ?_
                                obtain ⟨M_29, hc30, h⟩ := bd h
                                try dsimp only at h
                                refine kVv0 F w (As := [.int 111, .ref (ks 17)]) (rest := []) (w1 := wMo G.2.1 mo M_29) (t_X7_one F.1 hSG (by decide) hc30) m_X7_one v_X7_one q1997 (ci := 11) (q0 := 0) rfl rfl rfl ⟨Nat.le_of_ble_eq_true rfl, Nat.le_of_ble_eq_true rfl⟩ rfl hl.1 rfl (Nat.le_of_ble_eq_true rfl) dX7_readsOne_170 ⟨Nat.le_of_ble_eq_true rfl, Nat.le_of_ble_eq_true rfl⟩ (fun H locs w => ?_)
                                refine lv_goto (tgt := 256) F.x F.b dX7_readsOne_173 (by decide) ?_
                                refine lv_aload_n F.x F.b dX7_readsOne_256 rfl (lv_at hl 1 rfl) ?_
                                refine lv_dup F.x F.b dX7_readsOne_257 rfl ?_
                                refine rg F w cl7 0 (at_Mo_0 _ _ _) 20 (by decide) q1567 rfl (v := .int (M_29.1 10)) rfl dX7_readsOne_258 ?_
                                refine lv_iconst (v := 1) F.x F.b dX7_readsOne_261 (by decide) ?_
                                refine lv_iadd F.x F.b dX7_readsOne_262 ?_
                                refine rp F w (ws' := wMo G.2.1 mo (wrI M_29 10 ((M_29.1 10) + 1))) cl7 0 (at_Mo_0 _ _ _) 20 (by decide) q1567 rfl rfl rfl rfl (Nat.le_of_ble_eq_true rfl) (pt_Mo_0_20 _ _ _ _) dX7_readsOne_263 (fun H locs w => ?_)
                                have z0 := sm h
                                exact ev F w hr hlocks (by rw [← z0]) dX7_readsOne_266
                              · have h := ie c28 h
                                by_cases c31 : r1 = 112
                                · have h := it c31 h
                                  rw [c31]
                                  refine lv_tableIn (tgt := 251) F.x F.b dX7_readsOne_19 (by decide) (by decide) rfl (by decide) ?_
                                  refine lv_aload_n F.x F.b dX7_readsOne_251 rfl (lv_at hl 1 rfl) ?_
                                  refine lv_iconst (v := 1) F.x F.b dX7_readsOne_252 (by decide) ?_
                                  refine rp F w (ws' := wMo G.2.1 mo (wrI (wrA M 6 (5 * (M.1 10)) r1) 11 1)) cl7 0 (at_Mo_0 _ _ _) 21 (by decide) q1568 rfl rfl rfl rfl (Nat.le_of_ble_eq_true rfl) (pt_Mo_0_21 _ _ _ _) dX7_readsOne_253 (fun H locs w => ?_)
                                  refine lv_aload_n F.x F.b dX7_readsOne_256 rfl (lv_at hl 1 rfl) ?_
                                  refine lv_dup F.x F.b dX7_readsOne_257 rfl ?_
                                  refine rg F w cl7 0 (at_Mo_0 _ _ _) 20 (by decide) q1567 rfl (v := .int (M.1 10)) rfl dX7_readsOne_258 ?_
                                  refine lv_iconst (v := 1) F.x F.b dX7_readsOne_261 (by decide) ?_
                                  refine lv_iadd F.x F.b dX7_readsOne_262 ?_
                                  refine rp F w (ws' := wMo G.2.1 mo (wrI (wrI (wrA M 6 (5 * (M.1 10)) r1) 11 1) 10 ((M.1 10) + 1))) cl7 0 (at_Mo_0 _ _ _) 20 (by decide) q1567 rfl rfl rfl rfl (Nat.le_of_ble_eq_true rfl) (pt_Mo_0_20 _ _ _ _) dX7_readsOne_263 (fun H locs w => ?_)
                                  have z0 := sm h
                                  exact ev F w hr hlocks (by rw [← z0]) dX7_readsOne_266
                                · have h := ie c31 h
                                  by_cases c32 : r1 = 113
                                  · have h := it c32 h
                                    rw [c32]
                                    refine lv_tableIn (tgt := 187) F.x F.b dX7_readsOne_19 (by decide) (by decide) rfl (by decide) ?_
                                    refine lv_aload_n F.x F.b dX7_readsOne_187 rfl (lv_at hl 1 rfl) ?_
                                    refine lv_bipush (v := 113) F.x F.b dX7_readsOne_188 (by decide) ?_
                                    refine va_ldcS F.x F.b F.o (F.rf hSG 19 rfl) dX7_readsOne_190 ?_
                                    obtain ⟨M_33, hc34, h⟩ := bd h
                                    try dsimp only at h
                                    refine kVv0 F w (As := [.int 113, .ref (ks 19)]) (rest := []) (w1 := wMo G.2.1 mo M_33) (t_X7_one F.1 hSG (by decide) hc34) m_X7_one v_X7_one q1997 (ci := 11) (q0 := 0) rfl rfl rfl ⟨Nat.le_of_ble_eq_true rfl, Nat.le_of_ble_eq_true rfl⟩ rfl hl.1 rfl (Nat.le_of_ble_eq_true rfl) dX7_readsOne_192 ⟨Nat.le_of_ble_eq_true rfl, Nat.le_of_ble_eq_true rfl⟩ (fun H locs w => ?_)
                                    refine lv_goto (tgt := 256) F.x F.b dX7_readsOne_195 (by decide) ?_
                                    refine lv_aload_n F.x F.b dX7_readsOne_256 rfl (lv_at hl 1 rfl) ?_
                                    refine lv_dup F.x F.b dX7_readsOne_257 rfl ?_
                                    refine rg F w cl7 0 (at_Mo_0 _ _ _) 20 (by decide) q1567 rfl (v := .int (M_33.1 10)) rfl dX7_readsOne_258 ?_
                                    refine lv_iconst (v := 1) F.x F.b dX7_readsOne_261 (by decide) ?_
                                    refine lv_iadd F.x F.b dX7_readsOne_262 ?_
                                    refine rp F w (ws' := wMo G.2.1 mo (wrI M_33 10 ((M_33.1 10) + 1))) cl7 0 (at_Mo_0 _ _ _) 20 (by decide) q1567 rfl rfl rfl rfl (Nat.le_of_ble_eq_true rfl) (pt_Mo_0_20 _ _ _ _) dX7_readsOne_263 (fun H locs w => ?_)
                                    have z0 := sm h
                                    exact ev F w hr hlocks (by rw [← z0]) dX7_readsOne_266
                                  · have h := ie c32 h
                                    by_cases c35 : r1 = 114
                                    · have h := it c35 h
                                      rw [c35]
                                      refine lv_tableIn (tgt := 198) F.x F.b dX7_readsOne_19 (by decide) (by decide) rfl (by decide) ?_
                                      refine lv_aload_n F.x F.b dX7_readsOne_198 rfl (lv_at hl 1 rfl) ?_
                                      refine lv_bipush (v := 114) F.x F.b dX7_readsOne_199 (by decide) ?_
                                      refine va_ldcS F.x F.b F.o (F.rf hSG 20 rfl) dX7_readsOne_201 ?_
                                      obtain ⟨M_36, hc37, h⟩ := bd h
                                      try dsimp only at h
                                      refine kVv0 F w (As := [.int 114, .ref (ks 20)]) (rest := []) (w1 := wMo G.2.1 mo M_36) (t_X7_one F.1 hSG (by decide) hc37) m_X7_one v_X7_one q1997 (ci := 11) (q0 := 0) rfl rfl rfl ⟨Nat.le_of_ble_eq_true rfl, Nat.le_of_ble_eq_true rfl⟩ rfl hl.1 rfl (Nat.le_of_ble_eq_true rfl) dX7_readsOne_203 ⟨Nat.le_of_ble_eq_true rfl, Nat.le_of_ble_eq_true rfl⟩ (fun H locs w => ?_)
                                      refine lv_goto (tgt := 256) F.x F.b dX7_readsOne_206 (by decide) ?_
                                      refine lv_aload_n F.x F.b dX7_readsOne_256 rfl (lv_at hl 1 rfl) ?_
                                      refine lv_dup F.x F.b dX7_readsOne_257 rfl ?_
                                      refine rg F w cl7 0 (at_Mo_0 _ _ _) 20 (by decide) q1567 rfl (v := .int (M_36.1 10)) rfl dX7_readsOne_258 ?_
                                      refine lv_iconst (v := 1) F.x F.b dX7_readsOne_261 (by decide) ?_
                                      refine lv_iadd F.x F.b dX7_readsOne_262 ?_
                                      refine rp F w (ws' := wMo G.2.1 mo (wrI M_36 10 ((M_36.1 10) + 1))) cl7 0 (at_Mo_0 _ _ _) 20 (by decide) q1567 rfl rfl rfl rfl (Nat.le_of_ble_eq_true rfl) (pt_Mo_0_20 _ _ _ _) dX7_readsOne_263 (fun H locs w => ?_)
                                      have z0 := sm h
                                      exact ev F w hr hlocks (by rw [← z0]) dX7_readsOne_266
                                    · have h := ie c35 h
                                      by_cases c38 : r1 = 115
                                      · have h := it c38 h
                                        rw [c38]
                                        refine lv_tableIn (tgt := 131) F.x F.b dX7_readsOne_19 (by decide) (by decide) rfl (by decide) ?_
                                        refine lv_aload_n F.x F.b dX7_readsOne_131 rfl (lv_at hl 1 rfl) ?_
                                        refine lv_iconst (v := 1) F.x F.b dX7_readsOne_132 (by decide) ?_
                                        obtain ⟨r39, hc40, h⟩ := bd h
                                        try dsimp only at h
                                        refine kVi0 F w (As := [.int 1]) (rest := []) (w1 := wMo G.2.1 mo (wrA M 6 (5 * (M.1 10)) r1)) (t_X7_here F.1 hc40) m_X7_here v_X7_here q1970 (ci := 11) (q0 := 0) rfl rfl rfl ⟨Nat.le_of_ble_eq_true rfl, Nat.le_of_ble_eq_true rfl⟩ rfl hl.1 rfl (Nat.le_of_ble_eq_true rfl) dX7_readsOne_133 ⟨Nat.le_of_ble_eq_true rfl, Nat.le_of_ble_eq_true rfl⟩ (fun H locs w => ?_)
                                        refine lv_bipush (v := 116) F.x F.b dX7_readsOne_136 (by decide) ?_
                                        refine lv_icmp_ne (tgt := 154) F.x F.b dX7_readsOne_138 (by decide) (fun c41 => ?_) (fun c41 => ?_)
                                        · have h := ie c41 h
                                          refine lv_aload_n F.x F.b dX7_readsOne_154 rfl (lv_at hl 1 rfl) ?_
                                          refine lv_bipush (v := 115) F.x F.b dX7_readsOne_155 (by decide) ?_
                                          refine va_ldcS F.x F.b F.o (F.rf hSG 16 rfl) dX7_readsOne_157 ?_
                                          obtain ⟨M_42, hc43, h⟩ := bd h
                                          try dsimp only at h
                                          refine kVv0 F w (As := [.int 115, .ref (ks 16)]) (rest := []) (w1 := wMo G.2.1 mo M_42) (t_X7_one F.1 hSG (by decide) hc43) m_X7_one v_X7_one q1997 (ci := 11) (q0 := 0) rfl rfl rfl ⟨Nat.le_of_ble_eq_true rfl, Nat.le_of_ble_eq_true rfl⟩ rfl hl.1 rfl (Nat.le_of_ble_eq_true rfl) dX7_readsOne_159 ⟨Nat.le_of_ble_eq_true rfl, Nat.le_of_ble_eq_true rfl⟩ (fun H locs w => ?_)
                                          refine lv_goto (tgt := 256) F.x F.b dX7_readsOne_162 (by decide) ?_
                                          refine lv_aload_n F.x F.b dX7_readsOne_256 rfl (lv_at hl 1 rfl) ?_
                                          refine lv_dup F.x F.b dX7_readsOne_257 rfl ?_
                                          refine rg F w cl7 0 (at_Mo_0 _ _ _) 20 (by decide) q1567 rfl (v := .int (M_42.1 10)) rfl dX7_readsOne_258 ?_
                                          refine lv_iconst (v := 1) F.x F.b dX7_readsOne_261 (by decide) ?_
                                          refine lv_iadd F.x F.b dX7_readsOne_262 ?_
                                          refine rp F w (ws' := wMo G.2.1 mo (wrI M_42 10 ((M_42.1 10) + 1))) cl7 0 (at_Mo_0 _ _ _) 20 (by decide) q1567 rfl rfl rfl rfl (Nat.le_of_ble_eq_true rfl) (pt_Mo_0_20 _ _ _ _) dX7_readsOne_263 (fun H locs w => ?_)
                                          have z0 := sm h
                                          exact ev F w hr hlocks (by rw [← z0]) dX7_readsOne_266
                                        · have h := it c41 h
                                          refine lv_aload_n F.x F.b dX7_readsOne_141 rfl (lv_at hl 1 rfl) ?_
                                          refine lv_bipush (v := 116) F.x F.b dX7_readsOne_142 (by decide) ?_
                                          refine va_ldcS F.x F.b F.o (F.rf hSG 14 rfl) dX7_readsOne_144 ?_
                                          refine va_ldcS F.x F.b F.o (F.rf hSG 15 rfl) dX7_readsOne_146 ?_
                                          obtain ⟨M_44, hc45, h⟩ := bd h
                                          try dsimp only at h
                                          refine kVv0 F w (As := [.int 116, .ref (ks 14), .ref (ks 15)]) (rest := []) (w1 := wMo G.2.1 mo M_44) (t_X7_two F.1 hSG (by decide) (by decide) hc45) m_X7_two v_X7_two q1993 (ci := 11) (q0 := 0) rfl rfl rfl ⟨Nat.le_of_ble_eq_true rfl, Nat.le_of_ble_eq_true rfl⟩ rfl hl.1 rfl (Nat.le_of_ble_eq_true rfl) dX7_readsOne_148 ⟨Nat.le_of_ble_eq_true rfl, Nat.le_of_ble_eq_true rfl⟩ (fun H locs w => ?_)
                                          refine lv_goto (tgt := 256) F.x F.b dX7_readsOne_151 (by decide) ?_
                                          refine lv_aload_n F.x F.b dX7_readsOne_256 rfl (lv_at hl 1 rfl) ?_
                                          refine lv_dup F.x F.b dX7_readsOne_257 rfl ?_
                                          refine rg F w cl7 0 (at_Mo_0 _ _ _) 20 (by decide) q1567 rfl (v := .int (M_44.1 10)) rfl dX7_readsOne_258 ?_
                                          refine lv_iconst (v := 1) F.x F.b dX7_readsOne_261 (by decide) ?_
                                          refine lv_iadd F.x F.b dX7_readsOne_262 ?_
                                          refine rp F w (ws' := wMo G.2.1 mo (wrI M_44 10 ((M_44.1 10) + 1))) cl7 0 (at_Mo_0 _ _ _) 20 (by decide) q1567 rfl rfl rfl rfl (Nat.le_of_ble_eq_true rfl) (pt_Mo_0_20 _ _ _ _) dX7_readsOne_263 (fun H locs w => ?_)
                                          have z0 := sm h
                                          exact ev F w hr hlocks (by rw [← z0]) dX7_readsOne_266
                                      · have h := ie c38 h
                                        by_cases c46 : r1 = 116
                                        · have h := it c46 h
                                          rw [c46]
                                          refine lv_tableIn (tgt := 251) F.x F.b dX7_readsOne_19 (by decide) (by decide) rfl (by decide) ?_
                                          refine lv_aload_n F.x F.b dX7_readsOne_251 rfl (lv_at hl 1 rfl) ?_
                                          refine lv_iconst (v := 1) F.x F.b dX7_readsOne_252 (by decide) ?_
                                          refine rp F w (ws' := wMo G.2.1 mo (wrI (wrA M 6 (5 * (M.1 10)) r1) 11 1)) cl7 0 (at_Mo_0 _ _ _) 21 (by decide) q1568 rfl rfl rfl rfl (Nat.le_of_ble_eq_true rfl) (pt_Mo_0_21 _ _ _ _) dX7_readsOne_253 (fun H locs w => ?_)
                                          refine lv_aload_n F.x F.b dX7_readsOne_256 rfl (lv_at hl 1 rfl) ?_
                                          refine lv_dup F.x F.b dX7_readsOne_257 rfl ?_
                                          refine rg F w cl7 0 (at_Mo_0 _ _ _) 20 (by decide) q1567 rfl (v := .int (M.1 10)) rfl dX7_readsOne_258 ?_
                                          refine lv_iconst (v := 1) F.x F.b dX7_readsOne_261 (by decide) ?_
                                          refine lv_iadd F.x F.b dX7_readsOne_262 ?_
                                          refine rp F w (ws' := wMo G.2.1 mo (wrI (wrI (wrA M 6 (5 * (M.1 10)) r1) 11 1) 10 ((M.1 10) + 1))) cl7 0 (at_Mo_0 _ _ _) 20 (by decide) q1567 rfl rfl rfl rfl (Nat.le_of_ble_eq_true rfl) (pt_Mo_0_20 _ _ _ _) dX7_readsOne_263 (fun H locs w => ?_)
                                          have z0 := sm h
                                          exact ev F w hr hlocks (by rw [← z0]) dX7_readsOne_266
                                        · have h := ie c46 h
                                          by_cases c47 : r1 = 117
                                          · have h := it c47 h
                                            rw [c47]
                                            refine lv_tableIn (tgt := 251) F.x F.b dX7_readsOne_19 (by decide) (by decide) rfl (by decide) ?_
                                            refine lv_aload_n F.x F.b dX7_readsOne_251 rfl (lv_at hl 1 rfl) ?_
                                            refine lv_iconst (v := 1) F.x F.b dX7_readsOne_252 (by decide) ?_
                                            refine rp F w (ws' := wMo G.2.1 mo (wrI (wrA M 6 (5 * (M.1 10)) r1) 11 1)) cl7 0 (at_Mo_0 _ _ _) 21 (by decide) q1568 rfl rfl rfl rfl (Nat.le_of_ble_eq_true rfl) (pt_Mo_0_21 _ _ _ _) dX7_readsOne_253 (fun H locs w => ?_)
                                            refine lv_aload_n F.x F.b dX7_readsOne_256 rfl (lv_at hl 1 rfl) ?_
                                            refine lv_dup F.x F.b dX7_readsOne_257 rfl ?_
                                            refine rg F w cl7 0 (at_Mo_0 _ _ _) 20 (by decide) q1567 rfl (v := .int (M.1 10)) rfl dX7_readsOne_258 ?_
                                            refine lv_iconst (v := 1) F.x F.b dX7_readsOne_261 (by decide) ?_
                                            refine lv_iadd F.x F.b dX7_readsOne_262 ?_
                                            refine rp F w (ws' := wMo G.2.1 mo (wrI (wrI (wrA M 6 (5 * (M.1 10)) r1) 11 1) 10 ((M.1 10) + 1))) cl7 0 (at_Mo_0 _ _ _) 20 (by decide) q1567 rfl rfl rfl rfl (Nat.le_of_ble_eq_true rfl) (pt_Mo_0_20 _ _ _ _) dX7_readsOne_263 (fun H locs w => ?_)
                                            have z0 := sm h
                                            exact ev F w hr hlocks (by rw [← z0]) dX7_readsOne_266
                                          · have h := ie c47 h
                                            by_cases c48 : r1 = 118
                                            · have h := it c48 h
                                              rw [c48]
                                              refine lv_tableIn (tgt := 251) F.x F.b dX7_readsOne_19 (by decide) (by decide) rfl (by decide) ?_
                                              refine lv_aload_n F.x F.b dX7_readsOne_251 rfl (lv_at hl 1 rfl) ?_
                                              refine lv_iconst (v := 1) F.x F.b dX7_readsOne_252 (by decide) ?_
                                              refine rp F w (ws' := wMo G.2.1 mo (wrI (wrA M 6 (5 * (M.1 10)) r1) 11 1)) cl7 0 (at_Mo_0 _ _ _) 21 (by decide) q1568 rfl rfl rfl rfl (Nat.le_of_ble_eq_true rfl) (pt_Mo_0_21 _ _ _ _) dX7_readsOne_253 (fun H locs w => ?_)
                                              refine lv_aload_n F.x F.b dX7_readsOne_256 rfl (lv_at hl 1 rfl) ?_
                                              refine lv_dup F.x F.b dX7_readsOne_257 rfl ?_
                                              refine rg F w cl7 0 (at_Mo_0 _ _ _) 20 (by decide) q1567 rfl (v := .int (M.1 10)) rfl dX7_readsOne_258 ?_
                                              refine lv_iconst (v := 1) F.x F.b dX7_readsOne_261 (by decide) ?_
                                              refine lv_iadd F.x F.b dX7_readsOne_262 ?_
                                              refine rp F w (ws' := wMo G.2.1 mo (wrI (wrI (wrA M 6 (5 * (M.1 10)) r1) 11 1) 10 ((M.1 10) + 1))) cl7 0 (at_Mo_0 _ _ _) 20 (by decide) q1567 rfl rfl rfl rfl (Nat.le_of_ble_eq_true rfl) (pt_Mo_0_20 _ _ _ _) dX7_readsOne_263 (fun H locs w => ?_)
                                              have z0 := sm h
                                              exact ev F w hr hlocks (by rw [← z0]) dX7_readsOne_266
                                            · have h := ie c48 h
                                              by_cases c49 : r1 = 119
                                              · have h := it c49 h
                                                rw [c49]
                                                refine lv_tableIn (tgt := 176) F.x F.b dX7_readsOne_19 (by decide) (by decide) rfl (by decide) ?_
                                                refine lv_aload_n F.x F.b dX7_readsOne_176 rfl (lv_at hl 1 rfl) ?_
                                                refine lv_bipush (v := 119) F.x F.b dX7_readsOne_177 (by decide) ?_
                                                refine va_ldcS F.x F.b F.o (F.rf hSG 18 rfl) dX7_readsOne_179 ?_
                                                obtain ⟨M_50, hc51, h⟩ := bd h
                                                try dsimp only at h
                                                refine kVv0 F w (As := [.int 119, .ref (ks 18)]) (rest := []) (w1 := wMo G.2.1 mo M_50) (t_X7_one F.1 hSG (by decide) hc51) m_X7_one v_X7_one q1997 (ci := 11) (q0 := 0) rfl rfl rfl ⟨Nat.le_of_ble_eq_true rfl, Nat.le_of_ble_eq_true rfl⟩ rfl hl.1 rfl (Nat.le_of_ble_eq_true rfl) dX7_readsOne_181 ⟨Nat.le_of_ble_eq_true rfl, Nat.le_of_ble_eq_true rfl⟩ (fun H locs w => ?_)
                                                refine lv_goto (tgt := 256) F.x F.b dX7_readsOne_184 (by decide) ?_
                                                refine lv_aload_n F.x F.b dX7_readsOne_256 rfl (lv_at hl 1 rfl) ?_
                                                refine lv_dup F.x F.b dX7_readsOne_257 rfl ?_
                                                refine rg F w cl7 0 (at_Mo_0 _ _ _) 20 (by decide) q1567 rfl (v := .int (M_50.1 10)) rfl dX7_readsOne_258 ?_
                                                refine lv_iconst (v := 1) F.x F.b dX7_readsOne_261 (by decide) ?_
                                                refine lv_iadd F.x F.b dX7_readsOne_262 ?_
                                                refine rp F w (ws' := wMo G.2.1 mo (wrI M_50 10 ((M_50.1 10) + 1))) cl7 0 (at_Mo_0 _ _ _) 20 (by decide) q1567 rfl rfl rfl rfl (Nat.le_of_ble_eq_true rfl) (pt_Mo_0_20 _ _ _ _) dX7_readsOne_263 (fun H locs w => ?_)
                                                have z0 := sm h
                                                exact ev F w hr hlocks (by rw [← z0]) dX7_readsOne_266
                                              · have h := ie c49 h
                                                refine lv_tableOut (tgt := 251) F.x F.b dX7_readsOne_19 (sw_out (97) (119) (by intro j h1 h2; rcases (show j = 97 ∨ j = 98 ∨ j = 99 ∨ j = 100 ∨ j = 101 ∨ j = 102 ∨ j = 103 ∨ j = 104 ∨ j = 105 ∨ j = 106 ∨ j = 107 ∨ j = 108 ∨ j = 109 ∨ j = 110 ∨ j = 111 ∨ j = 112 ∨ j = 113 ∨ j = 114 ∨ j = 115 ∨ j = 116 ∨ j = 117 ∨ j = 118 ∨ j = 119 by omega) with rfl | rfl | rfl | rfl | rfl | rfl | rfl | rfl | rfl | rfl | rfl | rfl | rfl | rfl | rfl | rfl | rfl | rfl | rfl | rfl | rfl | rfl | rfl <;> first | exact sw_ne c4 (by decide) | exact sw_ne c7 (by decide) | exact sw_ne c10 (by decide) | exact sw_ne c11 (by decide) | exact sw_ne c14 (by decide) | exact sw_ne c15 (by decide) | exact sw_ne c16 (by decide) | exact sw_ne c17 (by decide) | exact sw_ne c18 (by decide) | exact sw_ne c19 (by decide) | exact sw_ne c20 (by decide) | exact sw_ne c21 (by decide) | exact sw_ne c24 (by decide) | exact sw_ne c27 (by decide) | exact sw_ne c28 (by decide) | exact sw_ne c31 (by decide) | exact sw_ne c32 (by decide) | exact sw_ne c35 (by decide) | exact sw_ne c38 (by decide) | exact sw_ne c46 (by decide) | exact sw_ne c47 (by decide) | exact sw_ne c48 (by decide) | exact sw_ne c49 (by decide))) (by decide) ?_
                                                refine lv_aload_n F.x F.b dX7_readsOne_251 rfl (lv_at hl 1 rfl) ?_
                                                refine lv_iconst (v := 1) F.x F.b dX7_readsOne_252 (by decide) ?_
                                                refine rp F w (ws' := wMo G.2.1 mo (wrI (wrA M 6 (5 * (M.1 10)) r1) 11 1)) cl7 0 (at_Mo_0 _ _ _) 21 (by decide) q1568 rfl rfl rfl rfl (Nat.le_of_ble_eq_true rfl) (pt_Mo_0_21 _ _ _ _) dX7_readsOne_253 (fun H locs w => ?_)
                                                refine lv_aload_n F.x F.b dX7_readsOne_256 rfl (lv_at hl 1 rfl) ?_
                                                refine lv_dup F.x F.b dX7_readsOne_257 rfl ?_
                                                refine rg F w cl7 0 (at_Mo_0 _ _ _) 20 (by decide) q1567 rfl (v := .int (M.1 10)) rfl dX7_readsOne_258 ?_
                                                refine lv_iconst (v := 1) F.x F.b dX7_readsOne_261 (by decide) ?_
                                                refine lv_iadd F.x F.b dX7_readsOne_262 ?_
                                                refine rp F w (ws' := wMo G.2.1 mo (wrI (wrI (wrA M 6 (5 * (M.1 10)) r1) 11 1) 10 ((M.1 10) + 1))) cl7 0 (at_Mo_0 _ _ _) 20 (by decide) q1567 rfl rfl rfl rfl (Nat.le_of_ble_eq_true rfl) (pt_Mo_0_20 _ _ _ _) dX7_readsOne_263 (fun H locs w => ?_)
                                                have z0 := sm h
                                                exact ev F w hr hlocks (by rw [← z0]) dX7_readsOne_266
set_option maxRecDepth 100000 in
set_option maxHeartbeats 4000000 in
theorem t_X7_does {G : cG} (g : GOK G) {mo : Nat → Nat} {M : Mem} {x1 : Int32} {r : Int32} {M' : Mem} (h : f_X7_does M x1 = some (r, M')) : CI G yX7_does cX7_does 4 .int 4 92 [.ref (mo 0), .int x1] (wMo G.2.1 mo M) (wMo G.2.1 mo M') r := by
  unfold f_X7_does at h
  refine CI.of g (by decide) rfl (Nat.le_of_ble_eq_true rfl) ?_
  intro p l e s m below meth c A ls F hr hlocks w hl
  generalize ([.ref (mo 0), .int x1] : List Value).toArray = args
  have hl : lv_has ls 4 [(0, .ref (mo 0)), (1, .int x1)] := hl
  refine lv_aload_n F.x F.b dX7_does_0 rfl (lv_at hl 0 rfl) ?_
  refine rg F w cl7 0 (at_Mo_0 _ _ _) 9 (by decide) q1556 rfl (v := .ref (mo 7)) rfl dX7_does_1 ?_
  refine lv_iconst (v := 5) F.x F.b dX7_does_4 (by decide) ?_
  refine lv_iload_n F.x F.b dX7_does_5 rfl (lv_at hl 1 rfl) ?_
  refine lv_imul F.x F.b dX7_does_6 ?_
  refine lv_iconst (v := 1) F.x F.b dX7_does_7 (by decide) ?_
  refine lv_iadd F.x F.b dX7_does_8 ?_
  obtain ⟨g1, h⟩ := gd h
  refine ri F w 7 (n := 300) (f := M.2 6) (at_Mo_7 _ _ _) g1 dX7_does_9 ?_
  refine lv_istore_n (lv' := [(2, .int (M.2 6 (Int32.toNatClampNeg ((5 * x1) + 1)))), (0, .ref (mo 0)), (1, .int x1)]) F.x F.b dX7_does_10 rfl hl (by decide) rfl (fun ls hl => ?_)
  refine lv_aload_n F.x F.b dX7_does_11 rfl (lv_at hl 1 rfl) ?_
  refine rg F w cl7 0 (at_Mo_0 _ _ _) 9 (by decide) q1556 rfl (v := .ref (mo 7)) rfl dX7_does_12 ?_
  refine lv_iconst (v := 5) F.x F.b dX7_does_15 (by decide) ?_
  refine lv_iload_n F.x F.b dX7_does_16 rfl (lv_at hl 2 rfl) ?_
  refine lv_imul F.x F.b dX7_does_17 ?_
  refine lv_iconst (v := 2) F.x F.b dX7_does_18 (by decide) ?_
  refine lv_iadd F.x F.b dX7_does_19 ?_
  obtain ⟨g2, h⟩ := gd h
  refine ri F w 7 (n := 300) (f := M.2 6) (at_Mo_7 _ _ _) g2 dX7_does_20 ?_
  refine lv_istore_n (lv' := [(3, .int (M.2 6 (Int32.toNatClampNeg ((5 * x1) + 2)))), (2, .int (M.2 6 (Int32.toNatClampNeg ((5 * x1) + 1)))), (0, .ref (mo 0)), (1, .int x1)]) F.x F.b dX7_does_21 rfl hl (by decide) rfl (fun ls hl => ?_)
  refine lv_aload_n F.x F.b dX7_does_22 rfl (lv_at hl 2 rfl) ?_
  refine rg F w cl7 0 (at_Mo_0 _ _ _) 9 (by decide) q1556 rfl (v := .ref (mo 7)) rfl dX7_does_23 ?_
  refine lv_iconst (v := 5) F.x F.b dX7_does_26 (by decide) ?_
  refine lv_iload_n F.x F.b dX7_does_27 rfl (lv_at hl 3 rfl) ?_
  refine lv_imul F.x F.b dX7_does_28 ?_
  obtain ⟨g3, h⟩ := gd h
  refine ri F w 7 (n := 300) (f := M.2 6) (at_Mo_7 _ _ _) g3 dX7_does_29 ?_
  by_cases c4 : (M.2 6 (Int32.toNatClampNeg (5 * x1))) = 97
  · have h := it c4 h
    rw [c4]
    refine lv_tableIn (tgt := 207) F.x F.b dX7_does_30 (by decide) (by decide) rfl (by decide) ?_
    refine lv_aload_n F.x F.b dX7_does_207 rfl (lv_at hl 2 rfl) ?_
    obtain ⟨⟨r5, M_6⟩, hc7, h⟩ := bd h
    try dsimp only at h
    refine kVi0 F w (As := []) (rest := []) (w1 := wMo G.2.1 mo M_6) (t_X7_audits F.1 hc7) m_X7_audits v_X7_audits q1886 (ci := 11) (q0 := 0) rfl rfl rfl ⟨Nat.le_of_ble_eq_true rfl, Nat.le_of_ble_eq_true rfl⟩ rfl hl.1 rfl (Nat.le_of_ble_eq_true rfl) dX7_does_208 ⟨Nat.le_of_ble_eq_true rfl, Nat.le_of_ble_eq_true rfl⟩ (fun H locs w => ?_)
    obtain ⟨z0, z1⟩ := sm2 (sm h)
    exact ei F w hr hlocks rfl z0 (by rw [← z1]) dX7_does_211
  · have h := ie c4 h
    by_cases c8 : (M.2 6 (Int32.toNatClampNeg (5 * x1))) = 98
    · have h := it c8 h
      rw [c8]
      refine lv_tableIn (tgt := 212) F.x F.b dX7_does_30 (by decide) (by decide) rfl (by decide) ?_
      refine lv_aload_n F.x F.b dX7_does_212 rfl (lv_at hl 2 rfl) ?_
      refine lv_iload_n F.x F.b dX7_does_213 rfl (lv_at hl 1 rfl) ?_
      obtain ⟨⟨r9, M_10⟩, hc11, h⟩ := bd h
      try dsimp only at h
      refine kVi0 F w (As := [.int (M.2 6 (Int32.toNatClampNeg ((5 * x1) + 1)))]) (rest := []) (w1 := wMo G.2.1 mo M_10) (t_X7_deposits F.1 hc11) m_X7_deposits v_X7_deposits q1902 (ci := 11) (q0 := 0) rfl rfl rfl ⟨Nat.le_of_ble_eq_true rfl, Nat.le_of_ble_eq_true rfl⟩ rfl hl.1 rfl (Nat.le_of_ble_eq_true rfl) dX7_does_214 ⟨Nat.le_of_ble_eq_true rfl, Nat.le_of_ble_eq_true rfl⟩ (fun H locs w => ?_)
      obtain ⟨z0, z1⟩ := sm2 (sm h)
      exact ei F w hr hlocks rfl z0 (by rw [← z1]) dX7_does_217
    · have h := ie c8 h
      by_cases c12 : (M.2 6 (Int32.toNatClampNeg (5 * x1))) = 99
      · have h := it c12 h
        rw [c12]
        refine lv_tableIn (tgt := 218) F.x F.b dX7_does_30 (by decide) (by decide) rfl (by decide) ?_
        refine lv_aload_n F.x F.b dX7_does_218 rfl (lv_at hl 2 rfl) ?_
        refine lv_iconst (v := 1) F.x F.b dX7_does_219 (by decide) ?_
        obtain ⟨⟨r13, M_14⟩, hc15, h⟩ := bd h
        try dsimp only at h
        refine kVi0 F w (As := [.int 1]) (rest := []) (w1 := wMo G.2.1 mo M_14) (t_X7_passes F.1 hc15) m_X7_passes v_X7_passes q1829 (ci := 11) (q0 := 0) rfl rfl rfl ⟨Nat.le_of_ble_eq_true rfl, Nat.le_of_ble_eq_true rfl⟩ rfl hl.1 rfl (Nat.le_of_ble_eq_true rfl) dX7_does_220 ⟨Nat.le_of_ble_eq_true rfl, Nat.le_of_ble_eq_true rfl⟩ (fun H locs w => ?_)
        obtain ⟨z0, z1⟩ := sm2 (sm h)
        exact ei F w hr hlocks rfl z0 (by rw [← z1]) dX7_does_223
      · have h := ie c12 h
        by_cases c16 : (M.2 6 (Int32.toNatClampNeg (5 * x1))) = 100
        · have h := it c16 h
          rw [c16]
          refine lv_tableIn (tgt := 218) F.x F.b dX7_does_30 (by decide) (by decide) rfl (by decide) ?_
          refine lv_aload_n F.x F.b dX7_does_218 rfl (lv_at hl 2 rfl) ?_
          refine lv_iconst (v := 1) F.x F.b dX7_does_219 (by decide) ?_
          obtain ⟨⟨r17, M_18⟩, hc19, h⟩ := bd h
          try dsimp only at h
          refine kVi0 F w (As := [.int 1]) (rest := []) (w1 := wMo G.2.1 mo M_18) (t_X7_passes F.1 hc19) m_X7_passes v_X7_passes q1829 (ci := 11) (q0 := 0) rfl rfl rfl ⟨Nat.le_of_ble_eq_true rfl, Nat.le_of_ble_eq_true rfl⟩ rfl hl.1 rfl (Nat.le_of_ble_eq_true rfl) dX7_does_220 ⟨Nat.le_of_ble_eq_true rfl, Nat.le_of_ble_eq_true rfl⟩ (fun H locs w => ?_)
          obtain ⟨z0, z1⟩ := sm2 (sm h)
          exact ei F w hr hlocks rfl z0 (by rw [← z1]) dX7_does_223
        · have h := ie c16 h
          by_cases c20 : (M.2 6 (Int32.toNatClampNeg (5 * x1))) = 101
          · have h := it c20 h
            rw [c20]
            refine lv_tableIn (tgt := 218) F.x F.b dX7_does_30 (by decide) (by decide) rfl (by decide) ?_
            refine lv_aload_n F.x F.b dX7_does_218 rfl (lv_at hl 2 rfl) ?_
            refine lv_iconst (v := 1) F.x F.b dX7_does_219 (by decide) ?_
            obtain ⟨⟨r21, M_22⟩, hc23, h⟩ := bd h
            try dsimp only at h
            refine kVi0 F w (As := [.int 1]) (rest := []) (w1 := wMo G.2.1 mo M_22) (t_X7_passes F.1 hc23) m_X7_passes v_X7_passes q1829 (ci := 11) (q0 := 0) rfl rfl rfl ⟨Nat.le_of_ble_eq_true rfl, Nat.le_of_ble_eq_true rfl⟩ rfl hl.1 rfl (Nat.le_of_ble_eq_true rfl) dX7_does_220 ⟨Nat.le_of_ble_eq_true rfl, Nat.le_of_ble_eq_true rfl⟩ (fun H locs w => ?_)
            obtain ⟨z0, z1⟩ := sm2 (sm h)
            exact ei F w hr hlocks rfl z0 (by rw [← z1]) dX7_does_223
          · have h := ie c20 h
            by_cases c24 : (M.2 6 (Int32.toNatClampNeg (5 * x1))) = 102
            · have h := it c24 h
              rw [c24]
              refine lv_tableIn (tgt := 218) F.x F.b dX7_does_30 (by decide) (by decide) rfl (by decide) ?_
              refine lv_aload_n F.x F.b dX7_does_218 rfl (lv_at hl 2 rfl) ?_
              refine lv_iconst (v := 1) F.x F.b dX7_does_219 (by decide) ?_
              obtain ⟨⟨r25, M_26⟩, hc27, h⟩ := bd h
              try dsimp only at h
              refine kVi0 F w (As := [.int 1]) (rest := []) (w1 := wMo G.2.1 mo M_26) (t_X7_passes F.1 hc27) m_X7_passes v_X7_passes q1829 (ci := 11) (q0 := 0) rfl rfl rfl ⟨Nat.le_of_ble_eq_true rfl, Nat.le_of_ble_eq_true rfl⟩ rfl hl.1 rfl (Nat.le_of_ble_eq_true rfl) dX7_does_220 ⟨Nat.le_of_ble_eq_true rfl, Nat.le_of_ble_eq_true rfl⟩ (fun H locs w => ?_)
              obtain ⟨z0, z1⟩ := sm2 (sm h)
              exact ei F w hr hlocks rfl z0 (by rw [← z1]) dX7_does_223
            · have h := ie c24 h
              by_cases c28 : (M.2 6 (Int32.toNatClampNeg (5 * x1))) = 103
              · have h := it c28 h
                rw [c28]
                refine lv_tableIn (tgt := 218) F.x F.b dX7_does_30 (by decide) (by decide) rfl (by decide) ?_
                refine lv_aload_n F.x F.b dX7_does_218 rfl (lv_at hl 2 rfl) ?_
                refine lv_iconst (v := 1) F.x F.b dX7_does_219 (by decide) ?_
                obtain ⟨⟨r29, M_30⟩, hc31, h⟩ := bd h
                try dsimp only at h
                refine kVi0 F w (As := [.int 1]) (rest := []) (w1 := wMo G.2.1 mo M_30) (t_X7_passes F.1 hc31) m_X7_passes v_X7_passes q1829 (ci := 11) (q0 := 0) rfl rfl rfl ⟨Nat.le_of_ble_eq_true rfl, Nat.le_of_ble_eq_true rfl⟩ rfl hl.1 rfl (Nat.le_of_ble_eq_true rfl) dX7_does_220 ⟨Nat.le_of_ble_eq_true rfl, Nat.le_of_ble_eq_true rfl⟩ (fun H locs w => ?_)
                obtain ⟨z0, z1⟩ := sm2 (sm h)
                exact ei F w hr hlocks rfl z0 (by rw [← z1]) dX7_does_223
              · have h := ie c28 h
                by_cases c32 : (M.2 6 (Int32.toNatClampNeg (5 * x1))) = 104
                · have h := it c32 h
                  rw [c32]
                  refine lv_tableIn (tgt := 218) F.x F.b dX7_does_30 (by decide) (by decide) rfl (by decide) ?_
                  refine lv_aload_n F.x F.b dX7_does_218 rfl (lv_at hl 2 rfl) ?_
                  refine lv_iconst (v := 1) F.x F.b dX7_does_219 (by decide) ?_
                  obtain ⟨⟨r33, M_34⟩, hc35, h⟩ := bd h
                  try dsimp only at h
                  refine kVi0 F w (As := [.int 1]) (rest := []) (w1 := wMo G.2.1 mo M_34) (t_X7_passes F.1 hc35) m_X7_passes v_X7_passes q1829 (ci := 11) (q0 := 0) rfl rfl rfl ⟨Nat.le_of_ble_eq_true rfl, Nat.le_of_ble_eq_true rfl⟩ rfl hl.1 rfl (Nat.le_of_ble_eq_true rfl) dX7_does_220 ⟨Nat.le_of_ble_eq_true rfl, Nat.le_of_ble_eq_true rfl⟩ (fun H locs w => ?_)
                  obtain ⟨z0, z1⟩ := sm2 (sm h)
                  exact ei F w hr hlocks rfl z0 (by rw [← z1]) dX7_does_223
                · have h := ie c32 h
                  by_cases c36 : (M.2 6 (Int32.toNatClampNeg (5 * x1))) = 105
                  · have h := it c36 h
                    rw [c36]
                    refine lv_tableIn (tgt := 218) F.x F.b dX7_does_30 (by decide) (by decide) rfl (by decide) ?_
                    refine lv_aload_n F.x F.b dX7_does_218 rfl (lv_at hl 2 rfl) ?_
                    refine lv_iconst (v := 1) F.x F.b dX7_does_219 (by decide) ?_
                    obtain ⟨⟨r37, M_38⟩, hc39, h⟩ := bd h
                    try dsimp only at h
                    refine kVi0 F w (As := [.int 1]) (rest := []) (w1 := wMo G.2.1 mo M_38) (t_X7_passes F.1 hc39) m_X7_passes v_X7_passes q1829 (ci := 11) (q0 := 0) rfl rfl rfl ⟨Nat.le_of_ble_eq_true rfl, Nat.le_of_ble_eq_true rfl⟩ rfl hl.1 rfl (Nat.le_of_ble_eq_true rfl) dX7_does_220 ⟨Nat.le_of_ble_eq_true rfl, Nat.le_of_ble_eq_true rfl⟩ (fun H locs w => ?_)
                    obtain ⟨z0, z1⟩ := sm2 (sm h)
                    exact ei F w hr hlocks rfl z0 (by rw [← z1]) dX7_does_223
                  · have h := ie c36 h
                    by_cases c40 : (M.2 6 (Int32.toNatClampNeg (5 * x1))) = 106
                    · have h := it c40 h
                      rw [c40]
                      refine lv_tableIn (tgt := 218) F.x F.b dX7_does_30 (by decide) (by decide) rfl (by decide) ?_
                      refine lv_aload_n F.x F.b dX7_does_218 rfl (lv_at hl 2 rfl) ?_
                      refine lv_iconst (v := 1) F.x F.b dX7_does_219 (by decide) ?_
                      obtain ⟨⟨r41, M_42⟩, hc43, h⟩ := bd h
                      try dsimp only at h
                      refine kVi0 F w (As := [.int 1]) (rest := []) (w1 := wMo G.2.1 mo M_42) (t_X7_passes F.1 hc43) m_X7_passes v_X7_passes q1829 (ci := 11) (q0 := 0) rfl rfl rfl ⟨Nat.le_of_ble_eq_true rfl, Nat.le_of_ble_eq_true rfl⟩ rfl hl.1 rfl (Nat.le_of_ble_eq_true rfl) dX7_does_220 ⟨Nat.le_of_ble_eq_true rfl, Nat.le_of_ble_eq_true rfl⟩ (fun H locs w => ?_)
                      obtain ⟨z0, z1⟩ := sm2 (sm h)
                      exact ei F w hr hlocks rfl z0 (by rw [← z1]) dX7_does_223
                    · have h := ie c40 h
                      by_cases c44 : (M.2 6 (Int32.toNatClampNeg (5 * x1))) = 107
                      · have h := it c44 h
                        rw [c44]
                        refine lv_tableIn (tgt := 218) F.x F.b dX7_does_30 (by decide) (by decide) rfl (by decide) ?_
                        refine lv_aload_n F.x F.b dX7_does_218 rfl (lv_at hl 2 rfl) ?_
                        refine lv_iconst (v := 1) F.x F.b dX7_does_219 (by decide) ?_
                        obtain ⟨⟨r45, M_46⟩, hc47, h⟩ := bd h
                        try dsimp only at h
                        refine kVi0 F w (As := [.int 1]) (rest := []) (w1 := wMo G.2.1 mo M_46) (t_X7_passes F.1 hc47) m_X7_passes v_X7_passes q1829 (ci := 11) (q0 := 0) rfl rfl rfl ⟨Nat.le_of_ble_eq_true rfl, Nat.le_of_ble_eq_true rfl⟩ rfl hl.1 rfl (Nat.le_of_ble_eq_true rfl) dX7_does_220 ⟨Nat.le_of_ble_eq_true rfl, Nat.le_of_ble_eq_true rfl⟩ (fun H locs w => ?_)
                        obtain ⟨z0, z1⟩ := sm2 (sm h)
                        exact ei F w hr hlocks rfl z0 (by rw [← z1]) dX7_does_223
                      · have h := ie c44 h
                        by_cases c48 : (M.2 6 (Int32.toNatClampNeg (5 * x1))) = 108
                        · have h := it c48 h
                          rw [c48]
                          refine lv_tableIn (tgt := 136) F.x F.b dX7_does_30 (by decide) (by decide) rfl (by decide) ?_
                          refine lv_aload_n F.x F.b dX7_does_136 rfl (lv_at hl 2 rfl) ?_
                          refine lv_aload_n F.x F.b dX7_does_137 rfl (lv_at hl 2 rfl) ?_
                          refine rg F w cl7 0 (at_Mo_0 _ _ _) 9 (by decide) q1556 rfl (v := .ref (mo 7)) rfl dX7_does_138 ?_
                          refine lv_iconst (v := 5) F.x F.b dX7_does_141 (by decide) ?_
                          refine lv_iload_n F.x F.b dX7_does_142 rfl (lv_at hl 3 rfl) ?_
                          refine lv_imul F.x F.b dX7_does_143 ?_
                          refine lv_iconst (v := 4) F.x F.b dX7_does_144 (by decide) ?_
                          refine lv_iadd F.x F.b dX7_does_145 ?_
                          obtain ⟨g49, h⟩ := gd h
                          refine ri F w 7 (n := 300) (f := M.2 6) (at_Mo_7 _ _ _) g49 dX7_does_146 ?_
                          refine lv_iload_n F.x F.b dX7_does_147 rfl (lv_at hl 1 rfl) ?_
                          refine lv_iload_n F.x F.b dX7_does_148 rfl (lv_at hl 0 rfl) ?_
                          refine lv_aload_n F.x F.b dX7_does_149 rfl (lv_at hl 2 rfl) ?_
                          refine rg F w cl7 0 (at_Mo_0 _ _ _) 9 (by decide) q1556 rfl (v := .ref (mo 7)) rfl dX7_does_150 ?_
                          refine lv_iconst (v := 5) F.x F.b dX7_does_153 (by decide) ?_
                          refine lv_iload_n F.x F.b dX7_does_154 rfl (lv_at hl 3 rfl) ?_
                          refine lv_imul F.x F.b dX7_does_155 ?_
                          refine lv_iconst (v := 3) F.x F.b dX7_does_156 (by decide) ?_
                          refine lv_iadd F.x F.b dX7_does_157 ?_
                          obtain ⟨g50, h⟩ := gd h
                          refine ri F w 7 (n := 300) (f := M.2 6) (at_Mo_7 _ _ _) g50 dX7_does_158 ?_
                          obtain ⟨⟨r51, M_52⟩, hc53, h⟩ := bd h
                          try dsimp only at h
                          refine kVi0 F w (As := [.int (M.2 6 (Int32.toNatClampNeg ((5 * x1) + 4))), .int (M.2 6 (Int32.toNatClampNeg ((5 * x1) + 1))), .int (M.2 6 (Int32.toNatClampNeg ((5 * x1) + 2))), .int (M.2 6 (Int32.toNatClampNeg ((5 * x1) + 3)))]) (rest := []) (w1 := wMo G.2.1 mo M_52) (t_X7_adds F.1 hc53) m_X7_adds v_X7_adds q1626 (ci := 11) (q0 := 0) rfl rfl rfl ⟨Nat.le_of_ble_eq_true rfl, Nat.le_of_ble_eq_true rfl⟩ rfl hl.1 rfl (Nat.le_of_ble_eq_true rfl) dX7_does_159 ⟨Nat.le_of_ble_eq_true rfl, Nat.le_of_ble_eq_true rfl⟩ (fun H locs w => ?_)
                          obtain ⟨z0, z1⟩ := sm2 (sm h)
                          exact ei F w hr hlocks rfl z0 (by rw [← z1]) dX7_does_162
                        · have h := ie c48 h
                          by_cases c54 : (M.2 6 (Int32.toNatClampNeg (5 * x1))) = 109
                          · have h := it c54 h
                            rw [c54]
                            refine lv_tableIn (tgt := 200) F.x F.b dX7_does_30 (by decide) (by decide) rfl (by decide) ?_
                            refine lv_aload_n F.x F.b dX7_does_200 rfl (lv_at hl 2 rfl) ?_
                            refine lv_iload_n F.x F.b dX7_does_201 rfl (lv_at hl 1 rfl) ?_
                            refine lv_iload_n F.x F.b dX7_does_202 rfl (lv_at hl 0 rfl) ?_
                            obtain ⟨⟨r55, M_56⟩, hc57, h⟩ := bd h
                            try dsimp only at h
                            refine kVi0 F w (As := [.int (M.2 6 (Int32.toNatClampNeg ((5 * x1) + 1))), .int (M.2 6 (Int32.toNatClampNeg ((5 * x1) + 2)))]) (rest := []) (w1 := wMo G.2.1 mo M_56) (t_X7_moves F.1 hc57) m_X7_moves v_X7_moves q1703 (ci := 11) (q0 := 0) rfl rfl rfl ⟨Nat.le_of_ble_eq_true rfl, Nat.le_of_ble_eq_true rfl⟩ rfl hl.1 rfl (Nat.le_of_ble_eq_true rfl) dX7_does_203 ⟨Nat.le_of_ble_eq_true rfl, Nat.le_of_ble_eq_true rfl⟩ (fun H locs w => ?_)
                            obtain ⟨z0, z1⟩ := sm2 (sm h)
                            exact ei F w hr hlocks rfl z0 (by rw [← z1]) dX7_does_206
                          · have h := ie c54 h
                            by_cases c58 : (M.2 6 (Int32.toNatClampNeg (5 * x1))) = 110
                            · have h := it c58 h
                              rw [c58]
                              refine lv_tableIn (tgt := 218) F.x F.b dX7_does_30 (by decide) (by decide) rfl (by decide) ?_
                              refine lv_aload_n F.x F.b dX7_does_218 rfl (lv_at hl 2 rfl) ?_
                              refine lv_iconst (v := 1) F.x F.b dX7_does_219 (by decide) ?_
                              obtain ⟨⟨r59, M_60⟩, hc61, h⟩ := bd h
                              try dsimp only at h
                              refine kVi0 F w (As := [.int 1]) (rest := []) (w1 := wMo G.2.1 mo M_60) (t_X7_passes F.1 hc61) m_X7_passes v_X7_passes q1829 (ci := 11) (q0 := 0) rfl rfl rfl ⟨Nat.le_of_ble_eq_true rfl, Nat.le_of_ble_eq_true rfl⟩ rfl hl.1 rfl (Nat.le_of_ble_eq_true rfl) dX7_does_220 ⟨Nat.le_of_ble_eq_true rfl, Nat.le_of_ble_eq_true rfl⟩ (fun H locs w => ?_)
                              obtain ⟨z0, z1⟩ := sm2 (sm h)
                              exact ei F w hr hlocks rfl z0 (by rw [← z1]) dX7_does_223
                            · have h := ie c58 h
                              by_cases c62 : (M.2 6 (Int32.toNatClampNeg (5 * x1))) = 111
                              · have h := it c62 h
                                rw [c62]
                                refine lv_tableIn (tgt := 176) F.x F.b dX7_does_30 (by decide) (by decide) rfl (by decide) ?_
                                refine lv_aload_n F.x F.b dX7_does_176 rfl (lv_at hl 2 rfl) ?_
                                refine lv_iload_n F.x F.b dX7_does_177 rfl (lv_at hl 1 rfl) ?_
                                obtain ⟨⟨r63, M_64⟩, hc65, h⟩ := bd h
                                try dsimp only at h
                                refine kVi0 F w (As := [.int (M.2 6 (Int32.toNatClampNeg ((5 * x1) + 1)))]) (rest := []) (w1 := wMo G.2.1 mo M_64) (t_X7_opens F.1 hc65) m_X7_opens v_X7_opens q1687 (ci := 11) (q0 := 0) rfl rfl rfl ⟨Nat.le_of_ble_eq_true rfl, Nat.le_of_ble_eq_true rfl⟩ rfl hl.1 rfl (Nat.le_of_ble_eq_true rfl) dX7_does_178 ⟨Nat.le_of_ble_eq_true rfl, Nat.le_of_ble_eq_true rfl⟩ (fun H locs w => ?_)
                                obtain ⟨z0, z1⟩ := sm2 (sm h)
                                exact ei F w hr hlocks rfl z0 (by rw [← z1]) dX7_does_181
                              · have h := ie c62 h
                                by_cases c66 : (M.2 6 (Int32.toNatClampNeg (5 * x1))) = 112
                                · have h := it c66 h
                                  rw [c66]
                                  refine lv_tableIn (tgt := 218) F.x F.b dX7_does_30 (by decide) (by decide) rfl (by decide) ?_
                                  refine lv_aload_n F.x F.b dX7_does_218 rfl (lv_at hl 2 rfl) ?_
                                  refine lv_iconst (v := 1) F.x F.b dX7_does_219 (by decide) ?_
                                  obtain ⟨⟨r67, M_68⟩, hc69, h⟩ := bd h
                                  try dsimp only at h
                                  refine kVi0 F w (As := [.int 1]) (rest := []) (w1 := wMo G.2.1 mo M_68) (t_X7_passes F.1 hc69) m_X7_passes v_X7_passes q1829 (ci := 11) (q0 := 0) rfl rfl rfl ⟨Nat.le_of_ble_eq_true rfl, Nat.le_of_ble_eq_true rfl⟩ rfl hl.1 rfl (Nat.le_of_ble_eq_true rfl) dX7_does_220 ⟨Nat.le_of_ble_eq_true rfl, Nat.le_of_ble_eq_true rfl⟩ (fun H locs w => ?_)
                                  obtain ⟨z0, z1⟩ := sm2 (sm h)
                                  exact ei F w hr hlocks rfl z0 (by rw [← z1]) dX7_does_223
                                · have h := ie c66 h
                                  by_cases c70 : (M.2 6 (Int32.toNatClampNeg (5 * x1))) = 113
                                  · have h := it c70 h
                                    rw [c70]
                                    refine lv_tableIn (tgt := 188) F.x F.b dX7_does_30 (by decide) (by decide) rfl (by decide) ?_
                                    refine lv_aload_n F.x F.b dX7_does_188 rfl (lv_at hl 2 rfl) ?_
                                    refine lv_iload_n F.x F.b dX7_does_189 rfl (lv_at hl 1 rfl) ?_
                                    obtain ⟨⟨r71, M_72⟩, hc73, h⟩ := bd h
                                    try dsimp only at h
                                    refine kVi0 F w (As := [.int (M.2 6 (Int32.toNatClampNeg ((5 * x1) + 1)))]) (rest := []) (w1 := wMo G.2.1 mo M_72) (t_X7_joins F.1 hc73) m_X7_joins v_X7_joins q1878 (ci := 11) (q0 := 0) rfl rfl rfl ⟨Nat.le_of_ble_eq_true rfl, Nat.le_of_ble_eq_true rfl⟩ rfl hl.1 rfl (Nat.le_of_ble_eq_true rfl) dX7_does_190 ⟨Nat.le_of_ble_eq_true rfl, Nat.le_of_ble_eq_true rfl⟩ (fun H locs w => ?_)
                                    obtain ⟨z0, z1⟩ := sm2 (sm h)
                                    exact ei F w hr hlocks rfl z0 (by rw [← z1]) dX7_does_193
                                  · have h := ie c70 h
                                    by_cases c74 : (M.2 6 (Int32.toNatClampNeg (5 * x1))) = 114
                                    · have h := it c74 h
                                      rw [c74]
                                      refine lv_tableIn (tgt := 194) F.x F.b dX7_does_30 (by decide) (by decide) rfl (by decide) ?_
                                      refine lv_aload_n F.x F.b dX7_does_194 rfl (lv_at hl 2 rfl) ?_
                                      refine lv_iload_n F.x F.b dX7_does_195 rfl (lv_at hl 1 rfl) ?_
                                      obtain ⟨⟨r75, M_76⟩, hc77, h⟩ := bd h
                                      try dsimp only at h
                                      refine kVi0 F w (As := [.int (M.2 6 (Int32.toNatClampNeg ((5 * x1) + 1)))]) (rest := []) (w1 := wMo G.2.1 mo M_76) (t_X7_releases F.1 hc77) m_X7_releases v_X7_releases q1910 (ci := 11) (q0 := 0) rfl rfl rfl ⟨Nat.le_of_ble_eq_true rfl, Nat.le_of_ble_eq_true rfl⟩ rfl hl.1 rfl (Nat.le_of_ble_eq_true rfl) dX7_does_196 ⟨Nat.le_of_ble_eq_true rfl, Nat.le_of_ble_eq_true rfl⟩ (fun H locs w => ?_)
                                      obtain ⟨z0, z1⟩ := sm2 (sm h)
                                      exact ei F w hr hlocks rfl z0 (by rw [← z1]) dX7_does_199
                                    · have h := ie c74 h
                                      by_cases c78 : (M.2 6 (Int32.toNatClampNeg (5 * x1))) = 115
                                      · have h := it c78 h
                                        rw [c78]
                                        refine lv_tableIn (tgt := 170) F.x F.b dX7_does_30 (by decide) (by decide) rfl (by decide) ?_
                                        refine lv_aload_n F.x F.b dX7_does_170 rfl (lv_at hl 2 rfl) ?_
                                        refine lv_iload_n F.x F.b dX7_does_171 rfl (lv_at hl 1 rfl) ?_
                                        obtain ⟨⟨r79, M_80⟩, hc81, h⟩ := bd h
                                        try dsimp only at h
                                        refine kVi0 F w (As := [.int (M.2 6 (Int32.toNatClampNeg ((5 * x1) + 1)))]) (rest := []) (w1 := wMo G.2.1 mo M_80) (t_X7_seals F.1 hc81) m_X7_seals v_X7_seals q1671 (ci := 11) (q0 := 0) rfl rfl rfl ⟨Nat.le_of_ble_eq_true rfl, Nat.le_of_ble_eq_true rfl⟩ rfl hl.1 rfl (Nat.le_of_ble_eq_true rfl) dX7_does_172 ⟨Nat.le_of_ble_eq_true rfl, Nat.le_of_ble_eq_true rfl⟩ (fun H locs w => ?_)
                                        obtain ⟨z0, z1⟩ := sm2 (sm h)
                                        exact ei F w hr hlocks rfl z0 (by rw [← z1]) dX7_does_175
                                      · have h := ie c78 h
                                        by_cases c82 : (M.2 6 (Int32.toNatClampNeg (5 * x1))) = 116
                                        · have h := it c82 h
                                          rw [c82]
                                          refine lv_tableIn (tgt := 163) F.x F.b dX7_does_30 (by decide) (by decide) rfl (by decide) ?_
                                          refine lv_aload_n F.x F.b dX7_does_163 rfl (lv_at hl 2 rfl) ?_
                                          refine lv_iload_n F.x F.b dX7_does_164 rfl (lv_at hl 1 rfl) ?_
                                          refine lv_iload_n F.x F.b dX7_does_165 rfl (lv_at hl 0 rfl) ?_
                                          obtain ⟨⟨r83, M_84⟩, hc85, h⟩ := bd h
                                          try dsimp only at h
                                          refine kVi0 F w (As := [.int (M.2 6 (Int32.toNatClampNeg ((5 * x1) + 1))), .int (M.2 6 (Int32.toNatClampNeg ((5 * x1) + 2)))]) (rest := []) (w1 := wMo G.2.1 mo M_84) (t_X7_addsStep F.1 hc85) m_X7_addsStep v_X7_addsStep q1771 (ci := 11) (q0 := 0) rfl rfl rfl ⟨Nat.le_of_ble_eq_true rfl, Nat.le_of_ble_eq_true rfl⟩ rfl hl.1 rfl (Nat.le_of_ble_eq_true rfl) dX7_does_166 ⟨Nat.le_of_ble_eq_true rfl, Nat.le_of_ble_eq_true rfl⟩ (fun H locs w => ?_)
                                          obtain ⟨z0, z1⟩ := sm2 (sm h)
                                          exact ei F w hr hlocks rfl z0 (by rw [← z1]) dX7_does_169
                                        · have h := ie c82 h
                                          by_cases c86 : (M.2 6 (Int32.toNatClampNeg (5 * x1))) = 117
                                          · have h := it c86 h
                                            rw [c86]
                                            refine lv_tableIn (tgt := 218) F.x F.b dX7_does_30 (by decide) (by decide) rfl (by decide) ?_
                                            refine lv_aload_n F.x F.b dX7_does_218 rfl (lv_at hl 2 rfl) ?_
                                            refine lv_iconst (v := 1) F.x F.b dX7_does_219 (by decide) ?_
                                            obtain ⟨⟨r87, M_88⟩, hc89, h⟩ := bd h
                                            try dsimp only at h
                                            refine kVi0 F w (As := [.int 1]) (rest := []) (w1 := wMo G.2.1 mo M_88) (t_X7_passes F.1 hc89) m_X7_passes v_X7_passes q1829 (ci := 11) (q0 := 0) rfl rfl rfl ⟨Nat.le_of_ble_eq_true rfl, Nat.le_of_ble_eq_true rfl⟩ rfl hl.1 rfl (Nat.le_of_ble_eq_true rfl) dX7_does_220 ⟨Nat.le_of_ble_eq_true rfl, Nat.le_of_ble_eq_true rfl⟩ (fun H locs w => ?_)
                                            obtain ⟨z0, z1⟩ := sm2 (sm h)
                                            exact ei F w hr hlocks rfl z0 (by rw [← z1]) dX7_does_223
                                          · have h := ie c86 h
                                            by_cases c90 : (M.2 6 (Int32.toNatClampNeg (5 * x1))) = 118
                                            · have h := it c90 h
                                              rw [c90]
                                              refine lv_tableIn (tgt := 218) F.x F.b dX7_does_30 (by decide) (by decide) rfl (by decide) ?_
                                              refine lv_aload_n F.x F.b dX7_does_218 rfl (lv_at hl 2 rfl) ?_
                                              refine lv_iconst (v := 1) F.x F.b dX7_does_219 (by decide) ?_
                                              obtain ⟨⟨r91, M_92⟩, hc93, h⟩ := bd h
                                              try dsimp only at h
                                              refine kVi0 F w (As := [.int 1]) (rest := []) (w1 := wMo G.2.1 mo M_92) (t_X7_passes F.1 hc93) m_X7_passes v_X7_passes q1829 (ci := 11) (q0 := 0) rfl rfl rfl ⟨Nat.le_of_ble_eq_true rfl, Nat.le_of_ble_eq_true rfl⟩ rfl hl.1 rfl (Nat.le_of_ble_eq_true rfl) dX7_does_220 ⟨Nat.le_of_ble_eq_true rfl, Nat.le_of_ble_eq_true rfl⟩ (fun H locs w => ?_)
                                              obtain ⟨z0, z1⟩ := sm2 (sm h)
                                              exact ei F w hr hlocks rfl z0 (by rw [← z1]) dX7_does_223
                                            · have h := ie c90 h
                                              by_cases c94 : (M.2 6 (Int32.toNatClampNeg (5 * x1))) = 119
                                              · have h := it c94 h
                                                rw [c94]
                                                refine lv_tableIn (tgt := 182) F.x F.b dX7_does_30 (by decide) (by decide) rfl (by decide) ?_
                                                refine lv_aload_n F.x F.b dX7_does_182 rfl (lv_at hl 2 rfl) ?_
                                                refine lv_iload_n F.x F.b dX7_does_183 rfl (lv_at hl 1 rfl) ?_
                                                obtain ⟨⟨r95, M_96⟩, hc97, h⟩ := bd h
                                                try dsimp only at h
                                                refine kVi0 F w (As := [.int (M.2 6 (Int32.toNatClampNeg ((5 * x1) + 1)))]) (rest := []) (w1 := wMo G.2.1 mo M_96) (t_X7_wets F.1 hc97) m_X7_wets v_X7_wets q1695 (ci := 11) (q0 := 0) rfl rfl rfl ⟨Nat.le_of_ble_eq_true rfl, Nat.le_of_ble_eq_true rfl⟩ rfl hl.1 rfl (Nat.le_of_ble_eq_true rfl) dX7_does_184 ⟨Nat.le_of_ble_eq_true rfl, Nat.le_of_ble_eq_true rfl⟩ (fun H locs w => ?_)
                                                obtain ⟨z0, z1⟩ := sm2 (sm h)
                                                exact ei F w hr hlocks rfl z0 (by rw [← z1]) dX7_does_187
                                              · have h := ie c94 h
                                                refine lv_tableOut (tgt := 218) F.x F.b dX7_does_30 (sw_out (97) (119) (by intro j h1 h2; rcases (show j = 97 ∨ j = 98 ∨ j = 99 ∨ j = 100 ∨ j = 101 ∨ j = 102 ∨ j = 103 ∨ j = 104 ∨ j = 105 ∨ j = 106 ∨ j = 107 ∨ j = 108 ∨ j = 109 ∨ j = 110 ∨ j = 111 ∨ j = 112 ∨ j = 113 ∨ j = 114 ∨ j = 115 ∨ j = 116 ∨ j = 117 ∨ j = 118 ∨ j = 119 by omega) with rfl | rfl | rfl | rfl | rfl | rfl | rfl | rfl | rfl | rfl | rfl | rfl | rfl | rfl | rfl | rfl | rfl | rfl | rfl | rfl | rfl | rfl | rfl <;> first | exact sw_ne c4 (by decide) | exact sw_ne c8 (by decide) | exact sw_ne c12 (by decide) | exact sw_ne c16 (by decide) | exact sw_ne c20 (by decide) | exact sw_ne c24 (by decide) | exact sw_ne c28 (by decide) | exact sw_ne c32 (by decide) | exact sw_ne c36 (by decide) | exact sw_ne c40 (by decide) | exact sw_ne c44 (by decide) | exact sw_ne c48 (by decide) | exact sw_ne c54 (by decide) | exact sw_ne c58 (by decide) | exact sw_ne c62 (by decide) | exact sw_ne c66 (by decide) | exact sw_ne c70 (by decide) | exact sw_ne c74 (by decide) | exact sw_ne c78 (by decide) | exact sw_ne c82 (by decide) | exact sw_ne c86 (by decide) | exact sw_ne c90 (by decide) | exact sw_ne c94 (by decide))) (by decide) ?_
                                                refine lv_aload_n F.x F.b dX7_does_218 rfl (lv_at hl 2 rfl) ?_
                                                refine lv_iconst (v := 1) F.x F.b dX7_does_219 (by decide) ?_
                                                obtain ⟨⟨r98, M_99⟩, hc100, h⟩ := bd h
                                                try dsimp only at h
                                                refine kVi0 F w (As := [.int 1]) (rest := []) (w1 := wMo G.2.1 mo M_99) (t_X7_passes F.1 hc100) m_X7_passes v_X7_passes q1829 (ci := 11) (q0 := 0) rfl rfl rfl ⟨Nat.le_of_ble_eq_true rfl, Nat.le_of_ble_eq_true rfl⟩ rfl hl.1 rfl (Nat.le_of_ble_eq_true rfl) dX7_does_220 ⟨Nat.le_of_ble_eq_true rfl, Nat.le_of_ble_eq_true rfl⟩ (fun H locs w => ?_)
                                                obtain ⟨z0, z1⟩ := sm2 (sm h)
                                                exact ei F w hr hlocks rfl z0 (by rw [← z1]) dX7_does_223
set_option maxRecDepth 100000 in
set_option maxHeartbeats 4000000 in
theorem t_X7_execute {G : cG} (g : GOK G) {ks kv : Nat → Nat} (hSG : SG G ks kv) {mo : Nat → Nat} {M : Mem} {r : Int32} {M' : Mem} (h : f_X7_execute M = some (r, M')) : CI G yX7_execute cX7_execute 3 .int 8 173 [.ref (mo 0)] (wMo G.2.1 mo M) (wMo G.2.1 mo M') r := by
  unfold f_X7_execute at h
  refine CI.of g (by decide) rfl (Nat.le_of_ble_eq_true rfl) ?_
  intro p l e s m below meth c A ls F hr hlocks w hl
  generalize ([.ref (mo 0)] : List Value).toArray = args
  have hl : lv_has ls 3 [(0, .ref (mo 0))] := hl
  have L36 : ∀ {k : Mem → Option (Int32 × Mem)} (n : Nat) (M : Mem) (H : Heap) (locs : List Loc) (ls : Array Slot), Wd G A s.heap (wMo G.2.1 mo M) H locs → lv_has ls 3 [(0, .ref (mo 0))] → f_X7_execute_L36 k n M = some (r, M') → (∀ (M : Mem) (H : Heap) (locs : List Loc) (ls : Array Slot), Wd G A s.heap (wMo G.2.1 mo M) H locs → lv_has ls 3 [(0, .ref (mo 0))] → k M = some (r, M') → W p l e { frames := 8, cells := 0, slots := 0, locals := 173 } s m args below meth c H locs 0 0 (QI G A (wMo G.2.1 mo M') r below args s) (F0 m 70 ls [])) → W p l e { frames := 8, cells := 0, slots := 0, locals := 173 } s m args below meth c H locs 0 0 (QI G A (wMo G.2.1 mo M') r below args s) (F0 m 36 ls []) := by
    clear h w hl
    intro k n
    induction n with
    | zero =>
      intro M H locs ls w hl h hk
      exact nomatch (show (none : Option (Int32 × Mem)) = some (r, M') from h)
    | succ n ih =>
      intro M H locs ls w hl h hk
      rw [f_X7_execute_L36] at h
      refine lv_aload_n F.x F.b dX7_execute_36 rfl (lv_at hl 0 rfl) ?_
      refine rg F w cl7 0 (at_Mo_0 _ _ _) 21 (by decide) q1568 rfl (v := .int (M.1 11)) rfl dX7_execute_37 ?_
      refine lv_if_ne (tgt := 70) F.x F.b dX7_execute_40 (by decide) (fun c5 => ?_) (fun c5 => ?_)
      · have h := ie c5 h
        exact hk M _ _ _ w (lv_sub hl [0] rfl) h
      · have h := it c5 h
        refine lv_aload_n F.x F.b dX7_execute_43 rfl (lv_at hl 0 rfl) ?_
        refine lv_iconst (v := 0) F.x F.b dX7_execute_44 (by decide) ?_
        obtain ⟨r6, hc7, h⟩ := bd h
        try dsimp only at h
        refine kVi0 F w (As := [.int 0]) (rest := []) (w1 := wMo G.2.1 mo M) (t_X7_here F.1 hc7) m_X7_here v_X7_here q1970 (ci := 11) (q0 := 0) rfl rfl rfl ⟨Nat.le_of_ble_eq_true rfl, Nat.le_of_ble_eq_true rfl⟩ rfl hl.1 rfl (Nat.le_of_ble_eq_true rfl) dX7_execute_45 ⟨Nat.le_of_ble_eq_true rfl, Nat.le_of_ble_eq_true rfl⟩ (fun H locs w => ?_)
        refine lv_bipush (v := 59) F.x F.b dX7_execute_48 (by decide) ?_
        refine lv_icmp_ne (tgt := 70) F.x F.b dX7_execute_50 (by decide) (fun c8 => ?_) (fun c8 => ?_)
        · have h := ie c8 h
          exact hk M _ _ _ w (lv_sub hl [0] rfl) h
        · have h := it c8 h
          refine lv_aload_n F.x F.b dX7_execute_53 rfl (lv_at hl 0 rfl) ?_
          refine lv_dup F.x F.b dX7_execute_54 rfl ?_
          refine rg F w cl7 0 (at_Mo_0 _ _ _) 18 (by decide) q1565 rfl (v := .int (M.1 8)) rfl dX7_execute_55 ?_
          refine lv_iconst (v := 1) F.x F.b dX7_execute_58 (by decide) ?_
          refine lv_iadd F.x F.b dX7_execute_59 ?_
          refine rp F w (ws' := wMo G.2.1 mo (wrI M 8 ((M.1 8) + 1))) cl7 0 (at_Mo_0 _ _ _) 18 (by decide) q1565 rfl rfl rfl rfl (Nat.le_of_ble_eq_true rfl) (pt_Mo_0_18 _ _ _ _) dX7_execute_60 (fun H locs w => ?_)
          refine lv_aload_n F.x F.b dX7_execute_63 rfl (lv_at hl 0 rfl) ?_
          obtain ⟨M_9, hc10, h⟩ := bd h
          try dsimp only at h
          refine kVv0 F w (As := []) (rest := []) (w1 := wMo G.2.1 mo M_9) (t_X7_readsOne F.1 hSG hc10) m_X7_readsOne v_X7_readsOne q1966 (ci := 11) (q0 := 0) rfl rfl rfl ⟨Nat.le_of_ble_eq_true rfl, Nat.le_of_ble_eq_true rfl⟩ rfl hl.1 rfl (Nat.le_of_ble_eq_true rfl) dX7_execute_64 ⟨Nat.le_of_ble_eq_true rfl, Nat.le_of_ble_eq_true rfl⟩ (fun H locs w => ?_)
          refine lv_goto (tgt := 36) F.x F.b dX7_execute_67 (by decide) ?_
          exact ih M_9 _ _ _ w (lv_sub hl [0] rfl) h hk
  have L125 : ∀ (x1 : Int32) {k : Mem → Option (Int32 × Mem)} (n : Nat) (x2 : Int32) (M : Mem) (H : Heap) (locs : List Loc) (ls : Array Slot), Wd G A s.heap (wMo G.2.1 mo M) H locs → lv_has ls 3 [(0, .ref (mo 0)), (1, .int x1), (2, .int x2)] → f_X7_execute_L125 x1 k n x2 M = some (r, M') → (∀ (M : Mem) (H : Heap) (locs : List Loc) (ls : Array Slot), Wd G A s.heap (wMo G.2.1 mo M) H locs → lv_has ls 3 [(0, .ref (mo 0)), (1, .int x1)] → k M = some (r, M') → W p l e { frames := 8, cells := 0, slots := 0, locals := 173 } s m args below meth c H locs 0 0 (QI G A (wMo G.2.1 mo M') r below args s) (F0 m 150 ls [])) → W p l e { frames := 8, cells := 0, slots := 0, locals := 173 } s m args below meth c H locs 0 0 (QI G A (wMo G.2.1 mo M') r below args s) (F0 m 125 ls []) := by
    clear h w hl
    intro x1 k n
    induction n with
    | zero =>
      intro x2 M H locs ls w hl h hk
      exact nomatch (show (none : Option (Int32 × Mem)) = some (r, M') from h)
    | succ n ih =>
      intro x2 M H locs ls w hl h hk
      rw [f_X7_execute_L125] at h
      refine lv_iload_n F.x F.b dX7_execute_125 rfl (lv_at hl 2 rfl) ?_
      refine lv_sipush (v := 148) F.x F.b dX7_execute_126 (by decide) ?_
      refine lv_icmp_ge (tgt := 150) F.x F.b dX7_execute_129 (by decide) (fun c22 => ?_) (fun c22 => ?_)
      · have h := it c22 h
        exact hk M _ _ _ w (lv_sub hl [0, 1] rfl) h
      · have h := ie c22 h
        refine lv_aload_n F.x F.b dX7_execute_132 rfl (lv_at hl 0 rfl) ?_
        refine rg F w cl7 0 (at_Mo_0 _ _ _) 1 (by decide) q1548 rfl (v := .ref (mo 1)) rfl dX7_execute_133 ?_
        refine lv_iload_n F.x F.b dX7_execute_136 rfl (lv_at hl 2 rfl) ?_
        refine lv_aload_n F.x F.b dX7_execute_137 rfl (lv_at hl 0 rfl) ?_
        refine rg F w cl7 0 (at_Mo_0 _ _ _) 2 (by decide) q1549 rfl (v := .ref (mo 2)) rfl dX7_execute_138 ?_
        refine lv_iload_n F.x F.b dX7_execute_141 rfl (lv_at hl 2 rfl) ?_
        obtain ⟨g23, h⟩ := gd h
        refine ri F w 2 (n := 148) (f := M.2 1) (at_Mo_2 _ _ _) g23 dX7_execute_142 ?_
        obtain ⟨g24, h⟩ := gd h
        refine ris F w (ws' := wMo G.2.1 mo (wrA M 0 x2 (M.2 1 (Int32.toNatClampNeg x2)))) 1 (n := 148) (f := M.2 0) (at_Mo_1 _ _ _) g24 (st_Mo_1 _ _ _ _ _) dX7_execute_143 (fun H locs w => ?_)
        refine lv_iinc (v := (x2 + 1)) (lv' := [(2, .int (x2 + 1)), (0, .ref (mo 0)), (1, .int x1)]) F.x F.b dX7_execute_144 hl (k := 2) rfl rfl (by decide) rfl (fun ls hl => ?_)
        refine lv_goto (tgt := 125) F.x F.b dX7_execute_147 (by decide) ?_
        exact ih (x2 + 1) (wrA M 0 x2 (M.2 1 (Int32.toNatClampNeg x2))) _ _ _ w (lv_sub hl [1, 2, 0] rfl) h hk
  have L104 : ∀ {k : Mem → Option (Int32 × Mem)} (n : Nat) (x1 : Int32) (M : Mem) (H : Heap) (locs : List Loc) (ls : Array Slot), Wd G A s.heap (wMo G.2.1 mo M) H locs → lv_has ls 3 [(0, .ref (mo 0)), (1, .int x1)] → f_X7_execute_L104 k n x1 M = some (r, M') → (∀ (M : Mem) (H : Heap) (locs : List Loc) (ls : Array Slot), Wd G A s.heap (wMo G.2.1 mo M) H locs → lv_has ls 3 [(0, .ref (mo 0))] → k M = some (r, M') → W p l e { frames := 8, cells := 0, slots := 0, locals := 173 } s m args below meth c H locs 0 0 (QI G A (wMo G.2.1 mo M') r below args s) (F0 m 167 ls [])) → W p l e { frames := 8, cells := 0, slots := 0, locals := 173 } s m args below meth c H locs 0 0 (QI G A (wMo G.2.1 mo M') r below args s) (F0 m 104 ls []) := by
    clear h w hl
    intro k n
    induction n with
    | zero =>
      intro x1 M H locs ls w hl h hk
      exact nomatch (show (none : Option (Int32 × Mem)) = some (r, M') from h)
    | succ n ih =>
      intro x1 M H locs ls w hl h hk
      rw [f_X7_execute_L104] at h
      refine lv_iload_n F.x F.b dX7_execute_104 rfl (lv_at hl 1 rfl) ?_
      refine lv_aload_n F.x F.b dX7_execute_105 rfl (lv_at hl 0 rfl) ?_
      refine rg F w cl7 0 (at_Mo_0 _ _ _) 20 (by decide) q1567 rfl (v := .int (M.1 10)) rfl dX7_execute_106 ?_
      refine lv_icmp_ge (tgt := 167) F.x F.b dX7_execute_109 (by decide) (fun c17 => ?_) (fun c17 => ?_)
      · have h := it c17 h
        exact hk M _ _ _ w (lv_sub hl [0] rfl) h
      · have h := ie c17 h
        refine lv_aload_n F.x F.b dX7_execute_112 rfl (lv_at hl 0 rfl) ?_
        refine lv_iload_n F.x F.b dX7_execute_113 rfl (lv_at hl 1 rfl) ?_
        obtain ⟨⟨r18, M_19⟩, hc20, h⟩ := bd h
        try dsimp only at h
        refine kVi0 F w (As := [.int x1]) (rest := []) (w1 := wMo G.2.1 mo M_19) (t_X7_does F.1 hc20) m_X7_does v_X7_does q2010 (ci := 11) (q0 := 0) rfl rfl rfl ⟨Nat.le_of_ble_eq_true rfl, Nat.le_of_ble_eq_true rfl⟩ rfl hl.1 rfl (Nat.le_of_ble_eq_true rfl) dX7_execute_114 ⟨Nat.le_of_ble_eq_true rfl, Nat.le_of_ble_eq_true rfl⟩ (fun H locs w => ?_)
        refine lv_if_ne (tgt := 123) F.x F.b dX7_execute_117 (by decide) (fun c21 => ?_) (fun c21 => ?_)
        · have h := ie c21 h
          refine lv_iconst (v := 0) F.x F.b dX7_execute_123 (by decide) ?_
          refine lv_istore_n (lv' := [(2, .int 0), (0, .ref (mo 0)), (1, .int x1)]) F.x F.b dX7_execute_124 rfl hl (by decide) rfl (fun ls hl => ?_)
          refine L125 x1 _ 0 M_19 _ _ _ w (lv_sub hl [1, 2, 0] rfl) h ?_
          intro M_25 H locs ls w hl h
          try dsimp only at h
          refine lv_aload_n F.x F.b dX7_execute_150 rfl (lv_at hl 0 rfl) ?_
          refine lv_iload_n F.x F.b dX7_execute_151 rfl (lv_at hl 1 rfl) ?_
          refine rp F w (ws' := wMo G.2.1 mo (wrI M_25 6 x1)) cl7 0 (at_Mo_0 _ _ _) 16 (by decide) q1563 rfl rfl rfl rfl (Nat.le_of_ble_eq_true rfl) (pt_Mo_0_16 _ _ _ _) dX7_execute_152 (fun H locs w => ?_)
          refine lv_aload_n F.x F.b dX7_execute_155 rfl (lv_at hl 0 rfl) ?_
          refine lv_iconst (v := 2) F.x F.b dX7_execute_156 (by decide) ?_
          obtain ⟨⟨r26, M_27⟩, hc28, h⟩ := bd h
          try dsimp only at h
          refine kVi0 F w (As := [.int 2]) (rest := []) (w1 := wMo G.2.1 mo M_27) (t_X7_fails F.1 hc28) m_X7_fails v_X7_fails q1663 (ci := 11) (q0 := 0) rfl rfl rfl ⟨Nat.le_of_ble_eq_true rfl, Nat.le_of_ble_eq_true rfl⟩ rfl hl.1 rfl (Nat.le_of_ble_eq_true rfl) dX7_execute_157 ⟨Nat.le_of_ble_eq_true rfl, Nat.le_of_ble_eq_true rfl⟩ (fun H locs w => ?_)
          obtain ⟨z0, z1⟩ := sm2 (sm h)
          exact ei F w hr hlocks rfl z0 (by rw [← z1]) dX7_execute_160
        · have h := it c21 h
          refine lv_goto (tgt := 161) F.x F.b dX7_execute_120 (by decide) ?_
          refine lv_iinc (v := (x1 + 1)) (lv' := [(1, .int (x1 + 1)), (0, .ref (mo 0))]) F.x F.b dX7_execute_161 hl (k := 1) rfl rfl (by decide) rfl (fun ls hl => ?_)
          refine lv_goto (tgt := 104) F.x F.b dX7_execute_164 (by decide) ?_
          exact ih (x1 + 1) M_19 _ _ _ w (lv_sub hl [1, 0] rfl) h hk
  refine lv_aload_n F.x F.b dX7_execute_0 rfl (lv_at hl 0 rfl) ?_
  obtain ⟨M_1, hc2, h⟩ := bd h
  try dsimp only at h
  refine kVv0 F w (As := []) (rest := []) (w1 := wMo G.2.1 mo M_1) (t_X7_remembers F.1 hc2) m_X7_remembers v_X7_remembers q1622 (ci := 11) (q0 := 0) rfl rfl rfl ⟨Nat.le_of_ble_eq_true rfl, Nat.le_of_ble_eq_true rfl⟩ rfl hl.1 rfl (Nat.le_of_ble_eq_true rfl) dX7_execute_1 ⟨Nat.le_of_ble_eq_true rfl, Nat.le_of_ble_eq_true rfl⟩ (fun H locs w => ?_)
  refine lv_aload_n F.x F.b dX7_execute_4 rfl (lv_at hl 0 rfl) ?_
  refine lv_iconst (v := 0) F.x F.b dX7_execute_5 (by decide) ?_
  refine rp F w (ws' := wMo G.2.1 mo (wrI M_1 8 0)) cl7 0 (at_Mo_0 _ _ _) 18 (by decide) q1565 rfl rfl rfl rfl (Nat.le_of_ble_eq_true rfl) (pt_Mo_0_18 _ _ _ _) dX7_execute_6 (fun H locs w => ?_)
  refine lv_aload_n F.x F.b dX7_execute_9 rfl (lv_at hl 0 rfl) ?_
  refine lv_aload_n F.x F.b dX7_execute_10 rfl (lv_at hl 0 rfl) ?_
  refine rg F w cl7 0 (at_Mo_0 _ _ _) 13 (by decide) q1560 rfl (v := .int (M_1.1 3)) rfl dX7_execute_11 ?_
  refine rp F w (ws' := wMo G.2.1 mo (wrI (wrI M_1 8 0) 9 (M_1.1 3))) cl7 0 (at_Mo_0 _ _ _) 19 (by decide) q1566 rfl rfl rfl rfl (Nat.le_of_ble_eq_true rfl) (pt_Mo_0_19 _ _ _ _) dX7_execute_14 (fun H locs w => ?_)
  refine lv_aload_n F.x F.b dX7_execute_17 rfl (lv_at hl 0 rfl) ?_
  refine lv_iconst (v := 0) F.x F.b dX7_execute_18 (by decide) ?_
  refine rp F w (ws' := wMo G.2.1 mo (wrI (wrI (wrI M_1 8 0) 9 (M_1.1 3)) 3 0)) cl7 0 (at_Mo_0 _ _ _) 13 (by decide) q1560 rfl rfl rfl rfl (Nat.le_of_ble_eq_true rfl) (pt_Mo_0_13 _ _ _ _) dX7_execute_19 (fun H locs w => ?_)
  refine lv_aload_n F.x F.b dX7_execute_22 rfl (lv_at hl 0 rfl) ?_
  refine lv_iconst (v := 0) F.x F.b dX7_execute_23 (by decide) ?_
  refine rp F w (ws' := wMo G.2.1 mo (wrI (wrI (wrI (wrI M_1 8 0) 9 (M_1.1 3)) 3 0) 10 0)) cl7 0 (at_Mo_0 _ _ _) 20 (by decide) q1567 rfl rfl rfl rfl (Nat.le_of_ble_eq_true rfl) (pt_Mo_0_20 _ _ _ _) dX7_execute_24 (fun H locs w => ?_)
  refine lv_aload_n F.x F.b dX7_execute_27 rfl (lv_at hl 0 rfl) ?_
  refine lv_iconst (v := 0) F.x F.b dX7_execute_28 (by decide) ?_
  refine rp F w (ws' := wMo G.2.1 mo (wrI (wrI (wrI (wrI (wrI M_1 8 0) 9 (M_1.1 3)) 3 0) 10 0) 11 0)) cl7 0 (at_Mo_0 _ _ _) 21 (by decide) q1568 rfl rfl rfl rfl (Nat.le_of_ble_eq_true rfl) (pt_Mo_0_21 _ _ _ _) dX7_execute_29 (fun H locs w => ?_)
  refine lv_aload_n F.x F.b dX7_execute_32 rfl (lv_at hl 0 rfl) ?_
  obtain ⟨M_3, hc4, h⟩ := bd h
  try dsimp only at h
  refine kVv0 F w (As := []) (rest := []) (w1 := wMo G.2.1 mo M_3) (t_X7_readsOne F.1 hSG hc4) m_X7_readsOne v_X7_readsOne q1966 (ci := 11) (q0 := 0) rfl rfl rfl ⟨Nat.le_of_ble_eq_true rfl, Nat.le_of_ble_eq_true rfl⟩ rfl hl.1 rfl (Nat.le_of_ble_eq_true rfl) dX7_execute_33 ⟨Nat.le_of_ble_eq_true rfl, Nat.le_of_ble_eq_true rfl⟩ (fun H locs w => ?_)
  refine L36 _ M_3 _ _ _ w (lv_sub hl [0] rfl) h ?_
  intro M_11 H locs ls w hl h
  try dsimp only at h
  refine lv_aload_n F.x F.b dX7_execute_70 rfl (lv_at hl 0 rfl) ?_
  refine rg F w cl7 0 (at_Mo_0 _ _ _) 21 (by decide) q1568 rfl (v := .int (M_11.1 11)) rfl dX7_execute_71 ?_
  refine lv_if_ne (tgt := 88) F.x F.b dX7_execute_74 (by decide) (fun c12 => ?_) (fun c12 => ?_)
  · have h := ie c12 h
    refine lv_aload_n F.x F.b dX7_execute_88 rfl (lv_at hl 0 rfl) ?_
    refine lv_aload_n F.x F.b dX7_execute_89 rfl (lv_at hl 0 rfl) ?_
    refine rg F w cl7 0 (at_Mo_0 _ _ _) 18 (by decide) q1565 rfl (v := .int (M_11.1 8)) rfl dX7_execute_90 ?_
    refine rp F w (ws' := wMo G.2.1 mo (wrI M_11 5 (M_11.1 8))) cl7 0 (at_Mo_0 _ _ _) 15 (by decide) q1562 rfl rfl rfl rfl (Nat.le_of_ble_eq_true rfl) (pt_Mo_0_15 _ _ _ _) dX7_execute_93 (fun H locs w => ?_)
    refine lv_aload_n F.x F.b dX7_execute_96 rfl (lv_at hl 0 rfl) ?_
    refine lv_iconst (v := 1) F.x F.b dX7_execute_97 (by decide) ?_
    obtain ⟨⟨r13, M_14⟩, hc15, h⟩ := bd h
    try dsimp only at h
    refine kVi0 F w (As := [.int 1]) (rest := []) (w1 := wMo G.2.1 mo M_14) (t_X7_fails F.1 hc15) m_X7_fails v_X7_fails q1663 (ci := 11) (q0 := 0) rfl rfl rfl ⟨Nat.le_of_ble_eq_true rfl, Nat.le_of_ble_eq_true rfl⟩ rfl hl.1 rfl (Nat.le_of_ble_eq_true rfl) dX7_execute_98 ⟨Nat.le_of_ble_eq_true rfl, Nat.le_of_ble_eq_true rfl⟩ (fun H locs w => ?_)
    obtain ⟨z0, z1⟩ := sm2 (sm h)
    exact ei F w hr hlocks rfl z0 (by rw [← z1]) dX7_execute_101
  · have h := it c12 h
    refine lv_aload_n F.x F.b dX7_execute_77 rfl (lv_at hl 0 rfl) ?_
    refine rg F w cl7 0 (at_Mo_0 _ _ _) 18 (by decide) q1565 rfl (v := .int (M_11.1 8)) rfl dX7_execute_78 ?_
    refine lv_aload_n F.x F.b dX7_execute_81 rfl (lv_at hl 0 rfl) ?_
    refine rg F w cl7 0 (at_Mo_0 _ _ _) 19 (by decide) q1566 rfl (v := .int (M_11.1 9)) rfl dX7_execute_82 ?_
    refine lv_icmp_ge (tgt := 102) F.x F.b dX7_execute_85 (by decide) (fun c16 => ?_) (fun c16 => ?_)
    · have h := it c16 h
      refine lv_iconst (v := 0) F.x F.b dX7_execute_102 (by decide) ?_
      refine lv_istore_n (lv' := [(1, .int 0), (0, .ref (mo 0))]) F.x F.b dX7_execute_103 rfl hl (by decide) rfl (fun ls hl => ?_)
      refine L104 _ 0 M_11 _ _ _ w (lv_sub hl [1, 0] rfl) h ?_
      intro M_29 H locs ls w hl h
      try dsimp only at h
      refine lv_aload_n F.x F.b dX7_execute_167 rfl (lv_at hl 0 rfl) ?_
      refine lv_aload_n F.x F.b dX7_execute_168 rfl (lv_at hl 0 rfl) ?_
      refine rg F w cl7 0 (at_Mo_0 _ _ _) 20 (by decide) q1567 rfl (v := .int (M_29.1 10)) rfl dX7_execute_169 ?_
      obtain ⟨⟨r30, M_31⟩, hc32, h⟩ := bd h
      try dsimp only at h
      refine kVi0 F w (As := [.int (M_29.1 10)]) (rest := []) (w1 := wMo G.2.1 mo M_31) (t_X7_changed F.1 hc32) m_X7_changed v_X7_changed q1659 (ci := 11) (q0 := 0) rfl rfl rfl ⟨Nat.le_of_ble_eq_true rfl, Nat.le_of_ble_eq_true rfl⟩ rfl hl.1 rfl (Nat.le_of_ble_eq_true rfl) dX7_execute_172 ⟨Nat.le_of_ble_eq_true rfl, Nat.le_of_ble_eq_true rfl⟩ (fun H locs w => ?_)
      obtain ⟨z0, z1⟩ := sm2 (sm h)
      exact ei F w hr hlocks rfl z0 (by rw [← z1]) dX7_execute_175
    · have h := ie c16 h
      refine lv_aload_n F.x F.b dX7_execute_88 rfl (lv_at hl 0 rfl) ?_
      refine lv_aload_n F.x F.b dX7_execute_89 rfl (lv_at hl 0 rfl) ?_
      refine rg F w cl7 0 (at_Mo_0 _ _ _) 18 (by decide) q1565 rfl (v := .int (M_11.1 8)) rfl dX7_execute_90 ?_
      refine rp F w (ws' := wMo G.2.1 mo (wrI M_11 5 (M_11.1 8))) cl7 0 (at_Mo_0 _ _ _) 15 (by decide) q1562 rfl rfl rfl rfl (Nat.le_of_ble_eq_true rfl) (pt_Mo_0_15 _ _ _ _) dX7_execute_93 (fun H locs w => ?_)
      refine lv_aload_n F.x F.b dX7_execute_96 rfl (lv_at hl 0 rfl) ?_
      refine lv_iconst (v := 1) F.x F.b dX7_execute_97 (by decide) ?_
      obtain ⟨⟨r33, M_34⟩, hc35, h⟩ := bd h
      try dsimp only at h
      refine kVi0 F w (As := [.int 1]) (rest := []) (w1 := wMo G.2.1 mo M_34) (t_X7_fails F.1 hc35) m_X7_fails v_X7_fails q1663 (ci := 11) (q0 := 0) rfl rfl rfl ⟨Nat.le_of_ble_eq_true rfl, Nat.le_of_ble_eq_true rfl⟩ rfl hl.1 rfl (Nat.le_of_ble_eq_true rfl) dX7_execute_98 ⟨Nat.le_of_ble_eq_true rfl, Nat.le_of_ble_eq_true rfl⟩ (fun H locs w => ?_)
      obtain ⟨z0, z1⟩ := sm2 (sm h)
      exact ei F w hr hlocks rfl z0 (by rw [← z1]) dX7_execute_101
set_option maxRecDepth 100000 in
set_option maxHeartbeats 4000000 in
theorem t_X7_errorPosition {G : cG} (g : GOK G) {mo : Nat → Nat} {M : Mem} {r : Int32} {M' : Mem} (h : f_X7_errorPosition M = some (r, M')) : CI G yX7_errorPosition cX7_errorPosition 1 .int 1 21 [.ref (mo 0)] (wMo G.2.1 mo M) (wMo G.2.1 mo M') r := by
  unfold f_X7_errorPosition at h
  refine CI.of g (by decide) rfl (Nat.le_of_ble_eq_true rfl) ?_
  intro p l e s m below meth c A ls F hr hlocks w hl
  generalize ([.ref (mo 0)] : List Value).toArray = args
  have hl : lv_has ls 1 [(0, .ref (mo 0))] := hl
  refine lv_aload_n F.x F.b dX7_errorPosition_0 rfl (lv_at hl 0 rfl) ?_
  refine lv_iconst (v := 0) F.x F.b dX7_errorPosition_1 (by decide) ?_
  refine rp F w (ws' := wMo G.2.1 mo (wrI M 0 0)) cl7 0 (at_Mo_0 _ _ _) 0 (by decide) q1547 rfl rfl rfl rfl (Nat.le_of_ble_eq_true rfl) (pt_Mo_0_0 _ _ _ _) dX7_errorPosition_2 (fun H locs w => ?_)
  refine lv_aload_n F.x F.b dX7_errorPosition_5 rfl (lv_at hl 0 rfl) ?_
  refine rg F w cl7 0 (at_Mo_0 _ _ _) 15 (by decide) q1562 rfl (v := .int (M.1 5)) rfl dX7_errorPosition_6 ?_
  refine lv_iconst (v := (-1)) F.x F.b dX7_errorPosition_9 (by decide) ?_
  refine lv_icmp_ne (tgt := 21) F.x F.b dX7_errorPosition_10 (by decide) (fun c1 => ?_) (fun c1 => ?_)
  · have h := ie c1 h
    refine lv_aload_n F.x F.b dX7_errorPosition_21 rfl (lv_at hl 0 rfl) ?_
    refine rg F w cl7 0 (at_Mo_0 _ _ _) 15 (by decide) q1562 rfl (v := .int (M.1 5)) rfl dX7_errorPosition_22 ?_
    obtain ⟨z0, z1⟩ := sm2 (sm h)
    exact ei F w hr hlocks rfl z0 (by rw [← z1]) dX7_errorPosition_25
  · have h := it c1 h
    refine lv_aload_n F.x F.b dX7_errorPosition_13 rfl (lv_at hl 0 rfl) ?_
    refine lv_iconst (v := 1) F.x F.b dX7_errorPosition_14 (by decide) ?_
    obtain ⟨⟨r2, M_3⟩, hc4, h⟩ := bd h
    try dsimp only at h
    refine kVi0 F w (As := [.int 1]) (rest := []) (w1 := wMo G.2.1 mo M_3) (t_X7_fails F.1 hc4) m_X7_fails v_X7_fails q1663 (ci := 11) (q0 := 0) rfl rfl rfl ⟨Nat.le_of_ble_eq_true rfl, Nat.le_of_ble_eq_true rfl⟩ rfl hl.1 rfl (Nat.le_of_ble_eq_true rfl) dX7_errorPosition_15 ⟨Nat.le_of_ble_eq_true rfl, Nat.le_of_ble_eq_true rfl⟩ (fun H locs w => ?_)
    refine lv_goto (tgt := 25) F.x F.b dX7_errorPosition_18 (by decide) ?_
    obtain ⟨z0, z1⟩ := sm2 (sm h)
    exact ei F w hr hlocks rfl z0 (by rw [← z1]) dX7_errorPosition_25
set_option maxRecDepth 100000 in
set_option maxHeartbeats 4000000 in
theorem t_X7_failedCommand {G : cG} (g : GOK G) {mo : Nat → Nat} {M : Mem} {r : Int32} {M' : Mem} (h : f_X7_failedCommand M = some (r, M')) : CI G yX7_failedCommand cX7_failedCommand 1 .int 1 21 [.ref (mo 0)] (wMo G.2.1 mo M) (wMo G.2.1 mo M') r := by
  unfold f_X7_failedCommand at h
  refine CI.of g (by decide) rfl (Nat.le_of_ble_eq_true rfl) ?_
  intro p l e s m below meth c A ls F hr hlocks w hl
  generalize ([.ref (mo 0)] : List Value).toArray = args
  have hl : lv_has ls 1 [(0, .ref (mo 0))] := hl
  refine lv_aload_n F.x F.b dX7_failedCommand_0 rfl (lv_at hl 0 rfl) ?_
  refine lv_iconst (v := 0) F.x F.b dX7_failedCommand_1 (by decide) ?_
  refine rp F w (ws' := wMo G.2.1 mo (wrI M 0 0)) cl7 0 (at_Mo_0 _ _ _) 0 (by decide) q1547 rfl rfl rfl rfl (Nat.le_of_ble_eq_true rfl) (pt_Mo_0_0 _ _ _ _) dX7_failedCommand_2 (fun H locs w => ?_)
  refine lv_aload_n F.x F.b dX7_failedCommand_5 rfl (lv_at hl 0 rfl) ?_
  refine rg F w cl7 0 (at_Mo_0 _ _ _) 16 (by decide) q1563 rfl (v := .int (M.1 6)) rfl dX7_failedCommand_6 ?_
  refine lv_iconst (v := (-1)) F.x F.b dX7_failedCommand_9 (by decide) ?_
  refine lv_icmp_ne (tgt := 21) F.x F.b dX7_failedCommand_10 (by decide) (fun c1 => ?_) (fun c1 => ?_)
  · have h := ie c1 h
    refine lv_aload_n F.x F.b dX7_failedCommand_21 rfl (lv_at hl 0 rfl) ?_
    refine rg F w cl7 0 (at_Mo_0 _ _ _) 16 (by decide) q1563 rfl (v := .int (M.1 6)) rfl dX7_failedCommand_22 ?_
    obtain ⟨z0, z1⟩ := sm2 (sm h)
    exact ei F w hr hlocks rfl z0 (by rw [← z1]) dX7_failedCommand_25
  · have h := it c1 h
    refine lv_aload_n F.x F.b dX7_failedCommand_13 rfl (lv_at hl 0 rfl) ?_
    refine lv_iconst (v := 1) F.x F.b dX7_failedCommand_14 (by decide) ?_
    obtain ⟨⟨r2, M_3⟩, hc4, h⟩ := bd h
    try dsimp only at h
    refine kVi0 F w (As := [.int 1]) (rest := []) (w1 := wMo G.2.1 mo M_3) (t_X7_fails F.1 hc4) m_X7_fails v_X7_fails q1663 (ci := 11) (q0 := 0) rfl rfl rfl ⟨Nat.le_of_ble_eq_true rfl, Nat.le_of_ble_eq_true rfl⟩ rfl hl.1 rfl (Nat.le_of_ble_eq_true rfl) dX7_failedCommand_15 ⟨Nat.le_of_ble_eq_true rfl, Nat.le_of_ble_eq_true rfl⟩ (fun H locs w => ?_)
    refine lv_goto (tgt := 25) F.x F.b dX7_failedCommand_18 (by decide) ?_
    obtain ⟨z0, z1⟩ := sm2 (sm h)
    exact ei F w hr hlocks rfl z0 (by rw [← z1]) dX7_failedCommand_25
set_option maxRecDepth 100000 in
set_option maxHeartbeats 4000000 in
theorem t_X7_undo {G : cG} (g : GOK G) {mo : Nat → Nat} {M : Mem} {r : Int32} {M' : Mem} (h : f_X7_undo M = some (r, M')) : CI G yX7_undo cX7_undo 2 .int 1 21 [.ref (mo 0)] (wMo G.2.1 mo M) (wMo G.2.1 mo M') r := by
  unfold f_X7_undo at h
  refine CI.of g (by decide) rfl (Nat.le_of_ble_eq_true rfl) ?_
  intro p l e s m below meth c A ls F hr hlocks w hl
  generalize ([.ref (mo 0)] : List Value).toArray = args
  have hl : lv_has ls 2 [(0, .ref (mo 0))] := hl
  have L30 : ∀ {k : Mem → Option (Int32 × Mem)} (n : Nat) (x1 : Int32) (M : Mem) (H : Heap) (locs : List Loc) (ls : Array Slot), Wd G A s.heap (wMo G.2.1 mo M) H locs → lv_has ls 2 [(0, .ref (mo 0)), (1, .int x1)] → f_X7_undo_L30 k n x1 M = some (r, M') → (∀ (M : Mem) (H : Heap) (locs : List Loc) (ls : Array Slot), Wd G A s.heap (wMo G.2.1 mo M) H locs → lv_has ls 2 [(0, .ref (mo 0))] → k M = some (r, M') → W p l e { frames := 1, cells := 0, slots := 0, locals := 21 } s m args below meth c H locs 0 0 (QI G A (wMo G.2.1 mo M') r below args s) (F0 m 64 ls [])) → W p l e { frames := 1, cells := 0, slots := 0, locals := 21 } s m args below meth c H locs 0 0 (QI G A (wMo G.2.1 mo M') r below args s) (F0 m 30 ls []) := by
    clear h w hl
    intro k n
    induction n with
    | zero =>
      intro x1 M H locs ls w hl h hk
      exact nomatch (show (none : Option (Int32 × Mem)) = some (r, M') from h)
    | succ n ih =>
      intro x1 M H locs ls w hl h hk
      rw [f_X7_undo_L30] at h
      refine lv_iload_n F.x F.b dX7_undo_30 rfl (lv_at hl 1 rfl) ?_
      refine lv_sipush (v := 148) F.x F.b dX7_undo_31 (by decide) ?_
      refine lv_icmp_ge (tgt := 64) F.x F.b dX7_undo_34 (by decide) (fun c2 => ?_) (fun c2 => ?_)
      · have h := it c2 h
        exact hk M _ _ _ w (lv_sub hl [0] rfl) h
      · have h := ie c2 h
        refine lv_aload_n F.x F.b dX7_undo_37 rfl (lv_at hl 0 rfl) ?_
        refine rg F w cl7 0 (at_Mo_0 _ _ _) 1 (by decide) q1548 rfl (v := .ref (mo 1)) rfl dX7_undo_38 ?_
        refine lv_iload_n F.x F.b dX7_undo_41 rfl (lv_at hl 1 rfl) ?_
        refine lv_aload_n F.x F.b dX7_undo_42 rfl (lv_at hl 0 rfl) ?_
        refine rg F w cl7 0 (at_Mo_0 _ _ _) 4 (by decide) q1551 rfl (v := .ref (mo 4)) rfl dX7_undo_43 ?_
        refine lv_sipush (v := 148) F.x F.b dX7_undo_46 (by decide) ?_
        refine lv_aload_n F.x F.b dX7_undo_49 rfl (lv_at hl 0 rfl) ?_
        refine rg F w cl7 0 (at_Mo_0 _ _ _) 6 (by decide) q1553 rfl (v := .int (M.1 1)) rfl dX7_undo_50 ?_
        refine lv_imul F.x F.b dX7_undo_53 ?_
        refine lv_iload_n F.x F.b dX7_undo_54 rfl (lv_at hl 1 rfl) ?_
        refine lv_iadd F.x F.b dX7_undo_55 ?_
        obtain ⟨g3, h⟩ := gd h
        refine ri F w 4 (n := 1184) (f := M.2 3) (at_Mo_4 _ _ _) g3 dX7_undo_56 ?_
        obtain ⟨g4, h⟩ := gd h
        refine ris F w (ws' := wMo G.2.1 mo (wrA M 0 x1 (M.2 3 (Int32.toNatClampNeg ((148 * (M.1 1)) + x1))))) 1 (n := 148) (f := M.2 0) (at_Mo_1 _ _ _) g4 (st_Mo_1 _ _ _ _ _) dX7_undo_57 (fun H locs w => ?_)
        refine lv_iinc (v := (x1 + 1)) (lv' := [(1, .int (x1 + 1)), (0, .ref (mo 0))]) F.x F.b dX7_undo_58 hl (k := 1) rfl rfl (by decide) rfl (fun ls hl => ?_)
        refine lv_goto (tgt := 30) F.x F.b dX7_undo_61 (by decide) ?_
        exact ih (x1 + 1) (wrA M 0 x1 (M.2 3 (Int32.toNatClampNeg ((148 * (M.1 1)) + x1)))) _ _ _ w (lv_sub hl [1, 0] rfl) h hk
  refine lv_aload_n F.x F.b dX7_undo_0 rfl (lv_at hl 0 rfl) ?_
  refine lv_iconst (v := 0) F.x F.b dX7_undo_1 (by decide) ?_
  refine rp F w (ws' := wMo G.2.1 mo (wrI M 0 0)) cl7 0 (at_Mo_0 _ _ _) 0 (by decide) q1547 rfl rfl rfl rfl (Nat.le_of_ble_eq_true rfl) (pt_Mo_0_0 _ _ _ _) dX7_undo_2 (fun H locs w => ?_)
  refine lv_aload_n F.x F.b dX7_undo_5 rfl (lv_at hl 0 rfl) ?_
  refine rg F w cl7 0 (at_Mo_0 _ _ _) 6 (by decide) q1553 rfl (v := .int (M.1 1)) rfl dX7_undo_6 ?_
  refine lv_if_ne (tgt := 18) F.x F.b dX7_undo_9 (by decide) (fun c1 => ?_) (fun c1 => ?_)
  · have h := ie c1 h
    refine lv_aload_n F.x F.b dX7_undo_18 rfl (lv_at hl 0 rfl) ?_
    refine lv_dup F.x F.b dX7_undo_19 rfl ?_
    refine rg F w cl7 0 (at_Mo_0 _ _ _) 6 (by decide) q1553 rfl (v := .int (M.1 1)) rfl dX7_undo_20 ?_
    refine lv_iconst (v := 1) F.x F.b dX7_undo_23 (by decide) ?_
    refine lv_isub F.x F.b dX7_undo_24 ?_
    refine rp F w (ws' := wMo G.2.1 mo (wrI (wrI M 0 0) 1 ((M.1 1) - 1))) cl7 0 (at_Mo_0 _ _ _) 6 (by decide) q1553 rfl rfl rfl rfl (Nat.le_of_ble_eq_true rfl) (pt_Mo_0_6 _ _ _ _) dX7_undo_25 (fun H locs w => ?_)
    refine lv_iconst (v := 0) F.x F.b dX7_undo_28 (by decide) ?_
    refine lv_istore_n (lv' := [(1, .int 0), (0, .ref (mo 0))]) F.x F.b dX7_undo_29 rfl hl (by decide) rfl (fun ls hl => ?_)
    refine L30 _ 0 (wrI (wrI M 0 0) 1 ((M.1 1) - 1)) _ _ _ w (lv_sub hl [1, 0] rfl) h ?_
    intro M_5 H locs ls w hl h
    try dsimp only at h
    refine lv_aload_n F.x F.b dX7_undo_64 rfl (lv_at hl 0 rfl) ?_
    refine rg F w cl7 0 (at_Mo_0 _ _ _) 6 (by decide) q1553 rfl (v := .int (M_5.1 1)) rfl dX7_undo_65 ?_
    obtain ⟨z0, z1⟩ := sm2 (sm h)
    exact ei F w hr hlocks rfl z0 (by rw [← z1]) dX7_undo_68
  · have h := it c1 h
    refine lv_aload_n F.x F.b dX7_undo_12 rfl (lv_at hl 0 rfl) ?_
    refine lv_iconst (v := 1) F.x F.b dX7_undo_13 (by decide) ?_
    obtain ⟨⟨r6, M_7⟩, hc8, h⟩ := bd h
    try dsimp only at h
    refine kVi0 F w (As := [.int 1]) (rest := []) (w1 := wMo G.2.1 mo M_7) (t_X7_fails F.1 hc8) m_X7_fails v_X7_fails q1663 (ci := 11) (q0 := 0) rfl rfl rfl ⟨Nat.le_of_ble_eq_true rfl, Nat.le_of_ble_eq_true rfl⟩ rfl hl.1 rfl (Nat.le_of_ble_eq_true rfl) dX7_undo_14 ⟨Nat.le_of_ble_eq_true rfl, Nat.le_of_ble_eq_true rfl⟩ (fun H locs w => ?_)
    obtain ⟨z0, z1⟩ := sm2 (sm h)
    exact ei F w hr hlocks rfl z0 (by rw [← z1]) dX7_undo_17
set_option maxRecDepth 100000 in
set_option maxHeartbeats 4000000 in
theorem t_X7_undoCount {G : cG} (g : GOK G) {mo : Nat → Nat} {M : Mem} {r : Int32} {M' : Mem} (h : f_X7_undoCount M = some (r, M')) : CI G yX7_undoCount cX7_undoCount 1 .int 0 0 [.ref (mo 0)] (wMo G.2.1 mo M) (wMo G.2.1 mo M') r := by
  unfold f_X7_undoCount at h
  refine CI.of g (by decide) rfl (Nat.le_of_ble_eq_true rfl) ?_
  intro p l e s m below meth c A ls F hr hlocks w hl
  generalize ([.ref (mo 0)] : List Value).toArray = args
  have hl : lv_has ls 1 [(0, .ref (mo 0))] := hl
  refine lv_aload_n F.x F.b dX7_undoCount_0 rfl (lv_at hl 0 rfl) ?_
  refine lv_iconst (v := 0) F.x F.b dX7_undoCount_1 (by decide) ?_
  refine rp F w (ws' := wMo G.2.1 mo (wrI M 0 0)) cl7 0 (at_Mo_0 _ _ _) 0 (by decide) q1547 rfl rfl rfl rfl (Nat.le_of_ble_eq_true rfl) (pt_Mo_0_0 _ _ _ _) dX7_undoCount_2 (fun H locs w => ?_)
  refine lv_aload_n F.x F.b dX7_undoCount_5 rfl (lv_at hl 0 rfl) ?_
  refine rg F w cl7 0 (at_Mo_0 _ _ _) 6 (by decide) q1553 rfl (v := .int (M.1 1)) rfl dX7_undoCount_6 ?_
  obtain ⟨z0, z1⟩ := sm2 (sm h)
  exact ei F w hr hlocks rfl z0 (by rw [← z1]) dX7_undoCount_9
set_option maxRecDepth 100000 in
set_option maxHeartbeats 4000000 in
theorem t_X7_save {G : cG} (g : GOK G) {mo : Nat → Nat} {M : Mem} {r : Int32} {M' : Mem} (h : f_X7_save M = some (r, M')) : CI G yX7_save cX7_save 2 .int 0 0 [.ref (mo 0)] (wMo G.2.1 mo M) (wMo G.2.1 mo M') r := by
  unfold f_X7_save at h
  refine CI.of g (by decide) rfl (Nat.le_of_ble_eq_true rfl) ?_
  intro p l e s m below meth c A ls F hr hlocks w hl
  generalize ([.ref (mo 0)] : List Value).toArray = args
  have hl : lv_has ls 2 [(0, .ref (mo 0))] := hl
  have L7 : ∀ {k : Mem → Option (Int32 × Mem)} (n : Nat) (x1 : Int32) (M : Mem) (H : Heap) (locs : List Loc) (ls : Array Slot), Wd G A s.heap (wMo G.2.1 mo M) H locs → lv_has ls 2 [(0, .ref (mo 0)), (1, .int x1)] → f_X7_save_L7 k n x1 M = some (r, M') → (∀ (M : Mem) (H : Heap) (locs : List Loc) (ls : Array Slot), Wd G A s.heap (wMo G.2.1 mo M) H locs → lv_has ls 2 [(0, .ref (mo 0))] → k M = some (r, M') → W p l e { frames := 0, cells := 0, slots := 0, locals := 0 } s m args below meth c H locs 0 0 (QI G A (wMo G.2.1 mo M') r below args s) (F0 m 32 ls [])) → W p l e { frames := 0, cells := 0, slots := 0, locals := 0 } s m args below meth c H locs 0 0 (QI G A (wMo G.2.1 mo M') r below args s) (F0 m 7 ls []) := by
    clear h w hl
    intro k n
    induction n with
    | zero =>
      intro x1 M H locs ls w hl h hk
      exact nomatch (show (none : Option (Int32 × Mem)) = some (r, M') from h)
    | succ n ih =>
      intro x1 M H locs ls w hl h hk
      rw [f_X7_save_L7] at h
      refine lv_iload_n F.x F.b dX7_save_7 rfl (lv_at hl 1 rfl) ?_
      refine lv_sipush (v := 148) F.x F.b dX7_save_8 (by decide) ?_
      refine lv_icmp_ge (tgt := 32) F.x F.b dX7_save_11 (by decide) (fun c1 => ?_) (fun c1 => ?_)
      · have h := it c1 h
        exact hk M _ _ _ w (lv_sub hl [0] rfl) h
      · have h := ie c1 h
        refine lv_aload_n F.x F.b dX7_save_14 rfl (lv_at hl 0 rfl) ?_
        refine rg F w cl7 0 (at_Mo_0 _ _ _) 3 (by decide) q1550 rfl (v := .ref (mo 3)) rfl dX7_save_15 ?_
        refine lv_iload_n F.x F.b dX7_save_18 rfl (lv_at hl 1 rfl) ?_
        refine lv_aload_n F.x F.b dX7_save_19 rfl (lv_at hl 0 rfl) ?_
        refine rg F w cl7 0 (at_Mo_0 _ _ _) 1 (by decide) q1548 rfl (v := .ref (mo 1)) rfl dX7_save_20 ?_
        refine lv_iload_n F.x F.b dX7_save_23 rfl (lv_at hl 1 rfl) ?_
        obtain ⟨g2, h⟩ := gd h
        refine ri F w 1 (n := 148) (f := M.2 0) (at_Mo_1 _ _ _) g2 dX7_save_24 ?_
        obtain ⟨g3, h⟩ := gd h
        refine ris F w (ws' := wMo G.2.1 mo (wrA M 2 x1 (M.2 0 (Int32.toNatClampNeg x1)))) 3 (n := 148) (f := M.2 2) (at_Mo_3 _ _ _) g3 (st_Mo_3 _ _ _ _ _) dX7_save_25 (fun H locs w => ?_)
        refine lv_iinc (v := (x1 + 1)) (lv' := [(1, .int (x1 + 1)), (0, .ref (mo 0))]) F.x F.b dX7_save_26 hl (k := 1) rfl rfl (by decide) rfl (fun ls hl => ?_)
        refine lv_goto (tgt := 7) F.x F.b dX7_save_29 (by decide) ?_
        exact ih (x1 + 1) (wrA M 2 x1 (M.2 0 (Int32.toNatClampNeg x1))) _ _ _ w (lv_sub hl [1, 0] rfl) h hk
  refine lv_aload_n F.x F.b dX7_save_0 rfl (lv_at hl 0 rfl) ?_
  refine lv_iconst (v := 0) F.x F.b dX7_save_1 (by decide) ?_
  refine rp F w (ws' := wMo G.2.1 mo (wrI M 0 0)) cl7 0 (at_Mo_0 _ _ _) 0 (by decide) q1547 rfl rfl rfl rfl (Nat.le_of_ble_eq_true rfl) (pt_Mo_0_0 _ _ _ _) dX7_save_2 (fun H locs w => ?_)
  refine lv_iconst (v := 0) F.x F.b dX7_save_5 (by decide) ?_
  refine lv_istore_n (lv' := [(1, .int 0), (0, .ref (mo 0))]) F.x F.b dX7_save_6 rfl hl (by decide) rfl (fun ls hl => ?_)
  refine L7 _ 0 (wrI M 0 0) _ _ _ w (lv_sub hl [1, 0] rfl) h ?_
  intro M_4 H locs ls w hl h
  try dsimp only at h
  refine lv_aload_n F.x F.b dX7_save_32 rfl (lv_at hl 0 rfl) ?_
  refine lv_iconst (v := 1) F.x F.b dX7_save_33 (by decide) ?_
  refine rp F w (ws' := wMo G.2.1 mo (wrI M_4 2 1)) cl7 0 (at_Mo_0 _ _ _) 7 (by decide) q1554 rfl rfl rfl rfl (Nat.le_of_ble_eq_true rfl) (pt_Mo_0_7 _ _ _ _) dX7_save_34 (fun H locs w => ?_)
  refine lv_aload_n F.x F.b dX7_save_37 rfl (lv_at hl 0 rfl) ?_
  refine rg F w cl7 0 (at_Mo_0 _ _ _) 1 (by decide) q1548 rfl (v := .ref (mo 1)) rfl dX7_save_38 ?_
  refine lv_iconst (v := 1) F.x F.b dX7_save_41 (by decide) ?_
  obtain ⟨g5, h⟩ := gd h
  refine ri F w 1 (n := 148) (f := (wrI M_4 2 1).2 0) (at_Mo_1 _ _ _) g5 dX7_save_42 ?_
  obtain ⟨z0, z1⟩ := sm2 (sm h)
  exact ei F w hr hlocks rfl z0 (by rw [← z1]) dX7_save_43
set_option maxRecDepth 100000 in
set_option maxHeartbeats 4000000 in
theorem t_X7_restore {G : cG} (g : GOK G) {mo : Nat → Nat} {M : Mem} {r : Int32} {M' : Mem} (h : f_X7_restore M = some (r, M')) : CI G yX7_restore cX7_restore 2 .int 1 21 [.ref (mo 0)] (wMo G.2.1 mo M) (wMo G.2.1 mo M') r := by
  unfold f_X7_restore at h
  refine CI.of g (by decide) rfl (Nat.le_of_ble_eq_true rfl) ?_
  intro p l e s m below meth c A ls F hr hlocks w hl
  generalize ([.ref (mo 0)] : List Value).toArray = args
  have hl : lv_has ls 2 [(0, .ref (mo 0))] := hl
  have L20 : ∀ {k : Mem → Option (Int32 × Mem)} (n : Nat) (x1 : Int32) (M : Mem) (H : Heap) (locs : List Loc) (ls : Array Slot), Wd G A s.heap (wMo G.2.1 mo M) H locs → lv_has ls 2 [(0, .ref (mo 0)), (1, .int x1)] → f_X7_restore_L20 k n x1 M = some (r, M') → (∀ (M : Mem) (H : Heap) (locs : List Loc) (ls : Array Slot), Wd G A s.heap (wMo G.2.1 mo M) H locs → lv_has ls 2 [(0, .ref (mo 0))] → k M = some (r, M') → W p l e { frames := 1, cells := 0, slots := 0, locals := 21 } s m args below meth c H locs 0 0 (QI G A (wMo G.2.1 mo M') r below args s) (F0 m 45 ls [])) → W p l e { frames := 1, cells := 0, slots := 0, locals := 21 } s m args below meth c H locs 0 0 (QI G A (wMo G.2.1 mo M') r below args s) (F0 m 20 ls []) := by
    clear h w hl
    intro k n
    induction n with
    | zero =>
      intro x1 M H locs ls w hl h hk
      exact nomatch (show (none : Option (Int32 × Mem)) = some (r, M') from h)
    | succ n ih =>
      intro x1 M H locs ls w hl h hk
      rw [f_X7_restore_L20] at h
      refine lv_iload_n F.x F.b dX7_restore_20 rfl (lv_at hl 1 rfl) ?_
      refine lv_sipush (v := 148) F.x F.b dX7_restore_21 (by decide) ?_
      refine lv_icmp_ge (tgt := 45) F.x F.b dX7_restore_24 (by decide) (fun c2 => ?_) (fun c2 => ?_)
      · have h := it c2 h
        exact hk M _ _ _ w (lv_sub hl [0] rfl) h
      · have h := ie c2 h
        refine lv_aload_n F.x F.b dX7_restore_27 rfl (lv_at hl 0 rfl) ?_
        refine rg F w cl7 0 (at_Mo_0 _ _ _) 1 (by decide) q1548 rfl (v := .ref (mo 1)) rfl dX7_restore_28 ?_
        refine lv_iload_n F.x F.b dX7_restore_31 rfl (lv_at hl 1 rfl) ?_
        refine lv_aload_n F.x F.b dX7_restore_32 rfl (lv_at hl 0 rfl) ?_
        refine rg F w cl7 0 (at_Mo_0 _ _ _) 3 (by decide) q1550 rfl (v := .ref (mo 3)) rfl dX7_restore_33 ?_
        refine lv_iload_n F.x F.b dX7_restore_36 rfl (lv_at hl 1 rfl) ?_
        obtain ⟨g3, h⟩ := gd h
        refine ri F w 3 (n := 148) (f := M.2 2) (at_Mo_3 _ _ _) g3 dX7_restore_37 ?_
        obtain ⟨g4, h⟩ := gd h
        refine ris F w (ws' := wMo G.2.1 mo (wrA M 0 x1 (M.2 2 (Int32.toNatClampNeg x1)))) 1 (n := 148) (f := M.2 0) (at_Mo_1 _ _ _) g4 (st_Mo_1 _ _ _ _ _) dX7_restore_38 (fun H locs w => ?_)
        refine lv_iinc (v := (x1 + 1)) (lv' := [(1, .int (x1 + 1)), (0, .ref (mo 0))]) F.x F.b dX7_restore_39 hl (k := 1) rfl rfl (by decide) rfl (fun ls hl => ?_)
        refine lv_goto (tgt := 20) F.x F.b dX7_restore_42 (by decide) ?_
        exact ih (x1 + 1) (wrA M 0 x1 (M.2 2 (Int32.toNatClampNeg x1))) _ _ _ w (lv_sub hl [1, 0] rfl) h hk
  refine lv_aload_n F.x F.b dX7_restore_0 rfl (lv_at hl 0 rfl) ?_
  refine lv_iconst (v := 0) F.x F.b dX7_restore_1 (by decide) ?_
  refine rp F w (ws' := wMo G.2.1 mo (wrI M 0 0)) cl7 0 (at_Mo_0 _ _ _) 0 (by decide) q1547 rfl rfl rfl rfl (Nat.le_of_ble_eq_true rfl) (pt_Mo_0_0 _ _ _ _) dX7_restore_2 (fun H locs w => ?_)
  refine lv_aload_n F.x F.b dX7_restore_5 rfl (lv_at hl 0 rfl) ?_
  refine rg F w cl7 0 (at_Mo_0 _ _ _) 7 (by decide) q1554 rfl (v := .int (M.1 2)) rfl dX7_restore_6 ?_
  refine lv_if_ne (tgt := 18) F.x F.b dX7_restore_9 (by decide) (fun c1 => ?_) (fun c1 => ?_)
  · have h := ie c1 h
    refine lv_iconst (v := 0) F.x F.b dX7_restore_18 (by decide) ?_
    refine lv_istore_n (lv' := [(1, .int 0), (0, .ref (mo 0))]) F.x F.b dX7_restore_19 rfl hl (by decide) rfl (fun ls hl => ?_)
    refine L20 _ 0 (wrI M 0 0) _ _ _ w (lv_sub hl [1, 0] rfl) h ?_
    intro M_5 H locs ls w hl h
    try dsimp only at h
    refine lv_aload_n F.x F.b dX7_restore_45 rfl (lv_at hl 0 rfl) ?_
    refine lv_iconst (v := 0) F.x F.b dX7_restore_46 (by decide) ?_
    refine rp F w (ws' := wMo G.2.1 mo (wrI M_5 1 0)) cl7 0 (at_Mo_0 _ _ _) 6 (by decide) q1553 rfl rfl rfl rfl (Nat.le_of_ble_eq_true rfl) (pt_Mo_0_6 _ _ _ _) dX7_restore_47 (fun H locs w => ?_)
    refine lv_aload_n F.x F.b dX7_restore_50 rfl (lv_at hl 0 rfl) ?_
    refine rg F w cl7 0 (at_Mo_0 _ _ _) 1 (by decide) q1548 rfl (v := .ref (mo 1)) rfl dX7_restore_51 ?_
    refine lv_iconst (v := 1) F.x F.b dX7_restore_54 (by decide) ?_
    obtain ⟨g6, h⟩ := gd h
    refine ri F w 1 (n := 148) (f := (wrI M_5 1 0).2 0) (at_Mo_1 _ _ _) g6 dX7_restore_55 ?_
    obtain ⟨z0, z1⟩ := sm2 (sm h)
    exact ei F w hr hlocks rfl z0 (by rw [← z1]) dX7_restore_56
  · have h := it c1 h
    refine lv_aload_n F.x F.b dX7_restore_12 rfl (lv_at hl 0 rfl) ?_
    refine lv_iconst (v := 1) F.x F.b dX7_restore_13 (by decide) ?_
    obtain ⟨⟨r7, M_8⟩, hc9, h⟩ := bd h
    try dsimp only at h
    refine kVi0 F w (As := [.int 1]) (rest := []) (w1 := wMo G.2.1 mo M_8) (t_X7_fails F.1 hc9) m_X7_fails v_X7_fails q1663 (ci := 11) (q0 := 0) rfl rfl rfl ⟨Nat.le_of_ble_eq_true rfl, Nat.le_of_ble_eq_true rfl⟩ rfl hl.1 rfl (Nat.le_of_ble_eq_true rfl) dX7_restore_14 ⟨Nat.le_of_ble_eq_true rfl, Nat.le_of_ble_eq_true rfl⟩ (fun H locs w => ?_)
    obtain ⟨z0, z1⟩ := sm2 (sm h)
    exact ei F w hr hlocks rfl z0 (by rw [← z1]) dX7_restore_17

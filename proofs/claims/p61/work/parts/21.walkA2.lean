/-! printed by wip/p61/tools/emit.py: the walks -/
set_option maxRecDepth 100000 in
set_option maxHeartbeats 4000000 in
theorem t_X5_indexOf {G : cG} (g : GOK G) {a : Nat → Nat} {S : Mem} {x1 : Int32} {r : Int32} (h : f_X5_indexOf S x1 = some r) : CI G yX5_indexOf cX5_indexOf 3 .int 0 0 [.ref (a 9), .int x1] (wSh G.2.1 a S) (wSh G.2.1 a S) r := by
  unfold f_X5_indexOf at h
  refine CI.of g (by decide) rfl (Nat.le_of_ble_eq_true rfl) ?_
  intro p l e s m below meth c A ls F hr hlocks w hl
  generalize ([.ref (a 9), .int x1] : List Value).toArray = args
  have hl : lv_has ls 3 [(0, .ref (a 9)), (1, .int x1)] := hl
  have L2 : ∀ (x1 : Int32) (S : Mem) {k : Option (Int32)} (n : Nat) (x2 : Int32) (H : Heap) (locs : List Loc) (ls : Array Slot), Wd G A s.heap (wSh G.2.1 a S) H locs → lv_has ls 3 [(0, .ref (a 9)), (1, .int x1), (2, .int x2)] → f_X5_indexOf_L2 x1 S k n x2 = some r → (∀ (H : Heap) (locs : List Loc) (ls : Array Slot), Wd G A s.heap (wSh G.2.1 a S) H locs → lv_has ls 3 [] → k = some r → W p l e { frames := 0, cells := 0, slots := 0, locals := 0 } s m args below meth c H locs 0 0 (QI G A (wSh G.2.1 a S) r below args s) (F0 m 28 ls [])) → W p l e { frames := 0, cells := 0, slots := 0, locals := 0 } s m args below meth c H locs 0 0 (QI G A (wSh G.2.1 a S) r below args s) (F0 m 2 ls []) := by
    clear h w hl
    intro x1 S k n
    induction n with
    | zero =>
      intro x2 H locs ls w hl h hk
      exact nomatch (show (none : Option (Int32)) = some r from h)
    | succ n ih =>
      intro x2 H locs ls w hl h hk
      rw [f_X5_indexOf_L2] at h
      refine lv_iload_n F.x F.b dX5_indexOf_2 rfl (lv_at hl 2 rfl) ?_
      refine lv_aload_n F.x F.b dX5_indexOf_3 rfl (lv_at hl 0 rfl) ?_
      refine rg F w cl5 9 (at_Sh_9 _ _ _) 2 (by decide) q120 rfl (v := .int (S.1 2)) rfl dX5_indexOf_4 ?_
      refine lv_icmp_ge (tgt := 28) F.x F.b dX5_indexOf_7 (by decide) (fun c1 => ?_) (fun c1 => ?_)
      · have h := it c1 h
        exact hk _ _ _ w (lv_sub hl [] rfl) h
      · have h := ie c1 h
        refine lv_aload_n F.x F.b dX5_indexOf_10 rfl (lv_at hl 0 rfl) ?_
        refine rg F w cl5 9 (at_Sh_9 _ _ _) 0 (by decide) q116 rfl (v := .ref (a 10)) rfl dX5_indexOf_11 ?_
        refine lv_iload_n F.x F.b dX5_indexOf_14 rfl (lv_at hl 2 rfl) ?_
        obtain ⟨g2, h⟩ := gd h
        refine ri F w 10 (n := 6) (f := S.2 7) (at_Sh_10 _ _ _) g2 dX5_indexOf_15 ?_
        refine lv_iload_n F.x F.b dX5_indexOf_16 rfl (lv_at hl 1 rfl) ?_
        refine lv_icmp_ne (tgt := 22) F.x F.b dX5_indexOf_17 (by decide) (fun c3 => ?_) (fun c3 => ?_)
        · have h := ie c3 h
          refine lv_iinc (v := (x2 + 1)) (lv' := [(2, .int (x2 + 1)), (0, .ref (a 9)), (1, .int x1)]) F.x F.b dX5_indexOf_22 hl (k := 2) rfl rfl (by decide) rfl (fun ls hl => ?_)
          refine lv_goto (tgt := 2) F.x F.b dX5_indexOf_25 (by decide) ?_
          exact ih (x2 + 1) _ _ _ w (lv_sub hl [1, 2, 0] rfl) h hk
        · have h := it c3 h
          refine lv_iload_n F.x F.b dX5_indexOf_20 rfl (lv_at hl 2 rfl) ?_
          have z0 := sm h
          exact ei F w hr hlocks rfl z0 rfl dX5_indexOf_21
  refine lv_iconst (v := 0) F.x F.b dX5_indexOf_0 (by decide) ?_
  refine lv_istore_n (lv' := [(2, .int 0), (0, .ref (a 9)), (1, .int x1)]) F.x F.b dX5_indexOf_1 rfl hl (by decide) rfl (fun ls hl => ?_)
  refine L2 x1 S _ 0 _ _ _ w (lv_sub hl [1, 2, 0] rfl) h ?_
  intro  H locs ls w hl h
  try dsimp only at h
  refine lv_iconst (v := (-1)) F.x F.b dX5_indexOf_28 (by decide) ?_
  have z0 := sm h
  exact ei F w hr hlocks rfl z0 rfl dX5_indexOf_29
set_option maxRecDepth 100000 in
set_option maxHeartbeats 4000000 in
theorem t_X5_insert {G : cG} (g : GOK G) {a : Nat → Nat} {S : Mem} {x1 x2 : Int32} {r : Int32} {S' : Mem} (h : f_X5_insert S x1 x2 = some (r, S')) : CI G yX5_insert cX5_insert 4 .int 1 22 [.ref (a 9), .int x1, .int x2] (wSh G.2.1 a S) (wSh G.2.1 a S') r := by
  unfold f_X5_insert at h
  refine CI.of g (by decide) rfl (Nat.le_of_ble_eq_true rfl) ?_
  intro p l e s m below meth c A ls F hr hlocks w hl
  generalize ([.ref (a 9), .int x1, .int x2] : List Value).toArray = args
  have hl : lv_has ls 4 [(0, .ref (a 9)), (1, .int x1), (2, .int x2)] := hl
  have L52 : ∀ (x1 : Int32) (x2 : Int32) {k : Int32 → Mem → Option (Int32 × Mem)} (n : Nat) (x3 : Int32) (S : Mem) (H : Heap) (locs : List Loc) (ls : Array Slot), Wd G A s.heap (wSh G.2.1 a S) H locs → lv_has ls 4 [(0, .ref (a 9)), (1, .int x1), (2, .int x2), (3, .int x3)] → f_X5_insert_L52 x1 x2 k n x3 S = some (r, S') → (∀ (x3 : Int32) (S : Mem) (H : Heap) (locs : List Loc) (ls : Array Slot), Wd G A s.heap (wSh G.2.1 a S) H locs → lv_has ls 4 [(0, .ref (a 9)), (1, .int x1), (2, .int x2), (3, .int x3)] → k x3 S = some (r, S') → W p l e { frames := 1, cells := 0, slots := 0, locals := 22 } s m args below meth c H locs 0 0 (QI G A (wSh G.2.1 a S') r below args s) (F0 m 102 ls [])) → W p l e { frames := 1, cells := 0, slots := 0, locals := 22 } s m args below meth c H locs 0 0 (QI G A (wSh G.2.1 a S') r below args s) (F0 m 52 ls []) := by
    clear h w hl
    intro x1 x2 k n
    induction n with
    | zero =>
      intro x3 S H locs ls w hl h hk
      exact nomatch (show (none : Option (Int32 × Mem)) = some (r, S') from h)
    | succ n ih =>
      intro x3 S H locs ls w hl h hk
      rw [f_X5_insert_L52] at h
      refine lv_iload_n F.x F.b dX5_insert_52 rfl (lv_at hl 3 rfl) ?_
      refine lv_if_le (tgt := 102) F.x F.b dX5_insert_53 (by decide) (fun c9 => ?_) (fun c9 => ?_)
      · have h := it c9 h
        exact hk x3 S _ _ _ w (lv_sub hl [0, 1, 2, 3] rfl) h
      · have h := ie c9 h
        refine lv_aload_n F.x F.b dX5_insert_56 rfl (lv_at hl 0 rfl) ?_
        refine rg F w cl5 9 (at_Sh_9 _ _ _) 0 (by decide) q116 rfl (v := .ref (a 10)) rfl dX5_insert_57 ?_
        refine lv_iload_n F.x F.b dX5_insert_60 rfl (lv_at hl 3 rfl) ?_
        refine lv_iconst (v := 1) F.x F.b dX5_insert_61 (by decide) ?_
        refine lv_isub F.x F.b dX5_insert_62 ?_
        obtain ⟨g10, h⟩ := gd h
        refine ri F w 10 (n := 6) (f := S.2 7) (at_Sh_10 _ _ _) g10 dX5_insert_63 ?_
        refine lv_iload_n F.x F.b dX5_insert_64 rfl (lv_at hl 1 rfl) ?_
        refine lv_icmp_le (tgt := 102) F.x F.b dX5_insert_65 (by decide) (fun c11 => ?_) (fun c11 => ?_)
        · have h := it c11 h
          exact hk x3 S _ _ _ w (lv_sub hl [0, 1, 2, 3] rfl) h
        · have h := ie c11 h
          refine lv_aload_n F.x F.b dX5_insert_68 rfl (lv_at hl 0 rfl) ?_
          refine rg F w cl5 9 (at_Sh_9 _ _ _) 0 (by decide) q116 rfl (v := .ref (a 10)) rfl dX5_insert_69 ?_
          refine lv_iload_n F.x F.b dX5_insert_72 rfl (lv_at hl 3 rfl) ?_
          refine lv_aload_n F.x F.b dX5_insert_73 rfl (lv_at hl 0 rfl) ?_
          refine rg F w cl5 9 (at_Sh_9 _ _ _) 0 (by decide) q116 rfl (v := .ref (a 10)) rfl dX5_insert_74 ?_
          refine lv_iload_n F.x F.b dX5_insert_77 rfl (lv_at hl 3 rfl) ?_
          refine lv_iconst (v := 1) F.x F.b dX5_insert_78 (by decide) ?_
          refine lv_isub F.x F.b dX5_insert_79 ?_
          obtain ⟨g12, h⟩ := gd h
          refine ri F w 10 (n := 6) (f := S.2 7) (at_Sh_10 _ _ _) g12 dX5_insert_80 ?_
          obtain ⟨g13, h⟩ := gd h
          refine ris F w (ws' := wSh G.2.1 a (wrA S 7 x3 (S.2 7 (Int32.toNatClampNeg (x3 - 1))))) 10 (n := 6) (f := S.2 7) (at_Sh_10 _ _ _) g13 (st_Sh_10 _ _ _ _ _) dX5_insert_81 (fun H locs w => ?_)
          refine lv_aload_n F.x F.b dX5_insert_82 rfl (lv_at hl 0 rfl) ?_
          refine rg F w cl5 9 (at_Sh_9 _ _ _) 1 (by decide) q118 rfl (v := .ref (a 11)) rfl dX5_insert_83 ?_
          refine lv_iload_n F.x F.b dX5_insert_86 rfl (lv_at hl 3 rfl) ?_
          refine lv_aload_n F.x F.b dX5_insert_87 rfl (lv_at hl 0 rfl) ?_
          refine rg F w cl5 9 (at_Sh_9 _ _ _) 1 (by decide) q118 rfl (v := .ref (a 11)) rfl dX5_insert_88 ?_
          refine lv_iload_n F.x F.b dX5_insert_91 rfl (lv_at hl 3 rfl) ?_
          refine lv_iconst (v := 1) F.x F.b dX5_insert_92 (by decide) ?_
          refine lv_isub F.x F.b dX5_insert_93 ?_
          obtain ⟨g14, h⟩ := gd h
          refine ri F w 11 (n := 6) (f := (wrA S 7 x3 (S.2 7 (Int32.toNatClampNeg (x3 - 1)))).2 8) (at_Sh_11 _ _ _) g14 dX5_insert_94 ?_
          obtain ⟨g15, h⟩ := gd h
          refine ris F w (ws' := wSh G.2.1 a (wrA (wrA S 7 x3 (S.2 7 (Int32.toNatClampNeg (x3 - 1)))) 8 x3 (S.2 8 (Int32.toNatClampNeg (x3 - 1))))) 11 (n := 6) (f := (wrA S 7 x3 (S.2 7 (Int32.toNatClampNeg (x3 - 1)))).2 8) (at_Sh_11 _ _ _) g15 (st_Sh_11 _ _ _ _ _) dX5_insert_95 (fun H locs w => ?_)
          refine lv_iinc (v := (x3 + (-1))) (lv' := [(3, .int (x3 + (-1))), (0, .ref (a 9)), (1, .int x1), (2, .int x2)]) F.x F.b dX5_insert_96 hl (k := 3) rfl rfl (by decide) rfl (fun ls hl => ?_)
          refine lv_goto (tgt := 52) F.x F.b dX5_insert_99 (by decide) ?_
          exact ih (x3 + (-1)) (wrA (wrA S 7 x3 (S.2 7 (Int32.toNatClampNeg (x3 - 1)))) 8 x3 (S.2 8 (Int32.toNatClampNeg (x3 - 1)))) _ _ _ w (lv_sub hl [1, 2, 3, 0] rfl) h hk
  refine lv_iload_n F.x F.b dX5_insert_0 rfl (lv_at hl 1 rfl) ?_
  refine lv_if_lt (tgt := 21) F.x F.b dX5_insert_1 (by decide) (fun c1 => ?_) (fun c1 => ?_)
  · have h := it c1 h
    refine lv_bipush (v := (-3)) F.x F.b dX5_insert_21 (by decide) ?_
    obtain ⟨z0, z1⟩ := sm2 (sm h)
    exact ei F w hr hlocks rfl z0 (by rw [← z1]) dX5_insert_23
  · have h := ie c1 h
    refine lv_iload_n F.x F.b dX5_insert_4 rfl (lv_at hl 1 rfl) ?_
    refine lv_sipush (v := 9999) F.x F.b dX5_insert_5 (by decide) ?_
    refine lv_icmp_gt (tgt := 21) F.x F.b dX5_insert_8 (by decide) (fun c2 => ?_) (fun c2 => ?_)
    · have h := it c2 h
      refine lv_bipush (v := (-3)) F.x F.b dX5_insert_21 (by decide) ?_
      obtain ⟨z0, z1⟩ := sm2 (sm h)
      exact ei F w hr hlocks rfl z0 (by rw [← z1]) dX5_insert_23
    · have h := ie c2 h
      refine lv_iload_n F.x F.b dX5_insert_11 rfl (lv_at hl 2 rfl) ?_
      refine lv_if_lt (tgt := 21) F.x F.b dX5_insert_12 (by decide) (fun c3 => ?_) (fun c3 => ?_)
      · have h := it c3 h
        refine lv_bipush (v := (-3)) F.x F.b dX5_insert_21 (by decide) ?_
        obtain ⟨z0, z1⟩ := sm2 (sm h)
        exact ei F w hr hlocks rfl z0 (by rw [← z1]) dX5_insert_23
      · have h := ie c3 h
        refine lv_iload_n F.x F.b dX5_insert_15 rfl (lv_at hl 2 rfl) ?_
        refine lv_bipush (v := 100) F.x F.b dX5_insert_16 (by decide) ?_
        refine lv_icmp_le (tgt := 24) F.x F.b dX5_insert_18 (by decide) (fun c4 => ?_) (fun c4 => ?_)
        · have h := it c4 h
          refine lv_aload_n F.x F.b dX5_insert_24 rfl (lv_at hl 0 rfl) ?_
          refine lv_iload_n F.x F.b dX5_insert_25 rfl (lv_at hl 1 rfl) ?_
          obtain ⟨r5, hc6, h⟩ := bd h
          try dsimp only at h
          refine kVi0 F w (As := [.int x1]) (rest := []) (w1 := wSh G.2.1 a S) (t_X5_indexOf F.1 hc6) m_X5_indexOf v_X5_indexOf q743 (ci := 9) (q0 := 9) rfl rfl rfl ⟨Nat.le_of_ble_eq_true rfl, Nat.le_of_ble_eq_true rfl⟩ rfl hl.1 rfl (Nat.le_of_ble_eq_true rfl) dX5_insert_26 ⟨Nat.le_of_ble_eq_true rfl, Nat.le_of_ble_eq_true rfl⟩ (fun H locs w => ?_)
          refine lv_if_lt (tgt := 35) F.x F.b dX5_insert_29 (by decide) (fun c7 => ?_) (fun c7 => ?_)
          · have h := it c7 h
            refine lv_aload_n F.x F.b dX5_insert_35 rfl (lv_at hl 0 rfl) ?_
            refine rg F w cl5 9 (at_Sh_9 _ _ _) 2 (by decide) q120 rfl (v := .int (S.1 2)) rfl dX5_insert_36 ?_
            refine lv_bipush (v := 6) F.x F.b dX5_insert_39 (by decide) ?_
            refine lv_icmp_lt (tgt := 47) F.x F.b dX5_insert_41 (by decide) (fun c8 => ?_) (fun c8 => ?_)
            · have h := it c8 h
              refine lv_aload_n F.x F.b dX5_insert_47 rfl (lv_at hl 0 rfl) ?_
              refine rg F w cl5 9 (at_Sh_9 _ _ _) 2 (by decide) q120 rfl (v := .int (S.1 2)) rfl dX5_insert_48 ?_
              refine lv_istore_n (lv' := [(3, .int (S.1 2)), (0, .ref (a 9)), (1, .int x1), (2, .int x2)]) F.x F.b dX5_insert_51 rfl hl (by decide) rfl (fun ls hl => ?_)
              refine L52 x1 x2 _ (S.1 2) S _ _ _ w (lv_sub hl [1, 2, 3, 0] rfl) h ?_
              intro y16_3 S_16 H locs ls w hl h
              try dsimp only at h
              refine lv_aload_n F.x F.b dX5_insert_102 rfl (lv_at hl 0 rfl) ?_
              refine rg F w cl5 9 (at_Sh_9 _ _ _) 0 (by decide) q116 rfl (v := .ref (a 10)) rfl dX5_insert_103 ?_
              refine lv_iload_n F.x F.b dX5_insert_106 rfl (lv_at hl 3 rfl) ?_
              refine lv_iload_n F.x F.b dX5_insert_107 rfl (lv_at hl 1 rfl) ?_
              obtain ⟨g17, h⟩ := gd h
              refine ris F w (ws' := wSh G.2.1 a (wrA S_16 7 y16_3 x1)) 10 (n := 6) (f := S_16.2 7) (at_Sh_10 _ _ _) g17 (st_Sh_10 _ _ _ _ _) dX5_insert_108 (fun H locs w => ?_)
              refine lv_aload_n F.x F.b dX5_insert_109 rfl (lv_at hl 0 rfl) ?_
              refine rg F w cl5 9 (at_Sh_9 _ _ _) 1 (by decide) q118 rfl (v := .ref (a 11)) rfl dX5_insert_110 ?_
              refine lv_iload_n F.x F.b dX5_insert_113 rfl (lv_at hl 3 rfl) ?_
              refine lv_iload_n F.x F.b dX5_insert_114 rfl (lv_at hl 2 rfl) ?_
              obtain ⟨g18, h⟩ := gd h
              refine ris F w (ws' := wSh G.2.1 a (wrA (wrA S_16 7 y16_3 x1) 8 y16_3 x2)) 11 (n := 6) (f := (wrA S_16 7 y16_3 x1).2 8) (at_Sh_11 _ _ _) g18 (st_Sh_11 _ _ _ _ _) dX5_insert_115 (fun H locs w => ?_)
              refine lv_aload_n F.x F.b dX5_insert_116 rfl (lv_at hl 0 rfl) ?_
              refine lv_dup F.x F.b dX5_insert_117 rfl ?_
              refine rg F w cl5 9 (at_Sh_9 _ _ _) 2 (by decide) q120 rfl (v := .int (S_16.1 2)) rfl dX5_insert_118 ?_
              refine lv_iconst (v := 1) F.x F.b dX5_insert_121 (by decide) ?_
              refine lv_iadd F.x F.b dX5_insert_122 ?_
              refine rp F w (ws' := wSh G.2.1 a (wrI (wrA (wrA S_16 7 y16_3 x1) 8 y16_3 x2) 2 ((S_16.1 2) + 1))) cl5 9 (at_Sh_9 _ _ _) 2 (by decide) q120 rfl rfl rfl rfl (Nat.le_of_ble_eq_true rfl) (pt_Sh_9_2 _ _ _ _) dX5_insert_123 (fun H locs w => ?_)
              refine lv_aload_n F.x F.b dX5_insert_126 rfl (lv_at hl 0 rfl) ?_
              refine rg F w cl5 9 (at_Sh_9 _ _ _) 2 (by decide) q120 rfl (v := .int ((S_16.1 2) + 1)) rfl dX5_insert_127 ?_
              obtain ⟨z0, z1⟩ := sm2 (sm h)
              exact ei F w hr hlocks rfl z0 (by rw [← z1]) dX5_insert_130
            · have h := ie c8 h
              refine lv_bipush (v := (-4)) F.x F.b dX5_insert_44 (by decide) ?_
              obtain ⟨z0, z1⟩ := sm2 (sm h)
              exact ei F w hr hlocks rfl z0 (by rw [← z1]) dX5_insert_46
          · have h := ie c7 h
            refine lv_bipush (v := (-5)) F.x F.b dX5_insert_32 (by decide) ?_
            obtain ⟨z0, z1⟩ := sm2 (sm h)
            exact ei F w hr hlocks rfl z0 (by rw [← z1]) dX5_insert_34
        · have h := ie c4 h
          refine lv_bipush (v := (-3)) F.x F.b dX5_insert_21 (by decide) ?_
          obtain ⟨z0, z1⟩ := sm2 (sm h)
          exact ei F w hr hlocks rfl z0 (by rw [← z1]) dX5_insert_23
set_option maxRecDepth 100000 in
set_option maxHeartbeats 4000000 in
theorem t_X5_remove {G : cG} (g : GOK G) {a : Nat → Nat} {S : Mem} {x1 : Int32} {r : Int32} {S' : Mem} (h : f_X5_remove S x1 = some (r, S')) : CI G yX5_remove cX5_remove 5 .int 1 22 [.ref (a 9), .int x1] (wSh G.2.1 a S) (wSh G.2.1 a S') r := by
  unfold f_X5_remove at h
  refine CI.of g (by decide) rfl (Nat.le_of_ble_eq_true rfl) ?_
  intro p l e s m below meth c A ls F hr hlocks w hl
  generalize ([.ref (a 9), .int x1] : List Value).toArray = args
  have hl : lv_has ls 5 [(0, .ref (a 9)), (1, .int x1)] := hl
  have L22 : ∀ (x3 : Int32) {k : Mem → Option (Int32 × Mem)} (n : Nat) (x4 : Int32) (S : Mem) (H : Heap) (locs : List Loc) (ls : Array Slot), Wd G A s.heap (wSh G.2.1 a S) H locs → lv_has ls 5 [(0, .ref (a 9)), (3, .int x3), (4, .int x4)] → f_X5_remove_L22 x3 k n x4 S = some (r, S') → (∀ (S : Mem) (H : Heap) (locs : List Loc) (ls : Array Slot), Wd G A s.heap (wSh G.2.1 a S) H locs → lv_has ls 5 [(0, .ref (a 9)), (3, .int x3)] → k S = some (r, S') → W p l e { frames := 1, cells := 0, slots := 0, locals := 22 } s m args below meth c H locs 0 0 (QI G A (wSh G.2.1 a S') r below args s) (F0 m 71 ls [])) → W p l e { frames := 1, cells := 0, slots := 0, locals := 22 } s m args below meth c H locs 0 0 (QI G A (wSh G.2.1 a S') r below args s) (F0 m 22 ls []) := by
    clear h w hl
    intro x3 k n
    induction n with
    | zero =>
      intro x4 S H locs ls w hl h hk
      exact nomatch (show (none : Option (Int32 × Mem)) = some (r, S') from h)
    | succ n ih =>
      intro x4 S H locs ls w hl h hk
      rw [f_X5_remove_L22] at h
      refine lv_iload F.x F.b dX5_remove_22 (lv_at hl 2 rfl) ?_
      refine lv_iconst (v := 1) F.x F.b dX5_remove_24 (by decide) ?_
      refine lv_iadd F.x F.b dX5_remove_25 ?_
      refine lv_aload_n F.x F.b dX5_remove_26 rfl (lv_at hl 0 rfl) ?_
      refine rg F w cl5 9 (at_Sh_9 _ _ _) 2 (by decide) q120 rfl (v := .int (S.1 2)) rfl dX5_remove_27 ?_
      refine lv_icmp_ge (tgt := 71) F.x F.b dX5_remove_30 (by decide) (fun c5 => ?_) (fun c5 => ?_)
      · have h := it c5 h
        exact hk S _ _ _ w (lv_sub hl [0, 1] rfl) h
      · have h := ie c5 h
        refine lv_aload_n F.x F.b dX5_remove_33 rfl (lv_at hl 0 rfl) ?_
        refine rg F w cl5 9 (at_Sh_9 _ _ _) 0 (by decide) q116 rfl (v := .ref (a 10)) rfl dX5_remove_34 ?_
        refine lv_iload F.x F.b dX5_remove_37 (lv_at hl 2 rfl) ?_
        refine lv_aload_n F.x F.b dX5_remove_39 rfl (lv_at hl 0 rfl) ?_
        refine rg F w cl5 9 (at_Sh_9 _ _ _) 0 (by decide) q116 rfl (v := .ref (a 10)) rfl dX5_remove_40 ?_
        refine lv_iload F.x F.b dX5_remove_43 (lv_at hl 2 rfl) ?_
        refine lv_iconst (v := 1) F.x F.b dX5_remove_45 (by decide) ?_
        refine lv_iadd F.x F.b dX5_remove_46 ?_
        obtain ⟨g6, h⟩ := gd h
        refine ri F w 10 (n := 6) (f := S.2 7) (at_Sh_10 _ _ _) g6 dX5_remove_47 ?_
        obtain ⟨g7, h⟩ := gd h
        refine ris F w (ws' := wSh G.2.1 a (wrA S 7 x4 (S.2 7 (Int32.toNatClampNeg (x4 + 1))))) 10 (n := 6) (f := S.2 7) (at_Sh_10 _ _ _) g7 (st_Sh_10 _ _ _ _ _) dX5_remove_48 (fun H locs w => ?_)
        refine lv_aload_n F.x F.b dX5_remove_49 rfl (lv_at hl 0 rfl) ?_
        refine rg F w cl5 9 (at_Sh_9 _ _ _) 1 (by decide) q118 rfl (v := .ref (a 11)) rfl dX5_remove_50 ?_
        refine lv_iload F.x F.b dX5_remove_53 (lv_at hl 2 rfl) ?_
        refine lv_aload_n F.x F.b dX5_remove_55 rfl (lv_at hl 0 rfl) ?_
        refine rg F w cl5 9 (at_Sh_9 _ _ _) 1 (by decide) q118 rfl (v := .ref (a 11)) rfl dX5_remove_56 ?_
        refine lv_iload F.x F.b dX5_remove_59 (lv_at hl 2 rfl) ?_
        refine lv_iconst (v := 1) F.x F.b dX5_remove_61 (by decide) ?_
        refine lv_iadd F.x F.b dX5_remove_62 ?_
        obtain ⟨g8, h⟩ := gd h
        refine ri F w 11 (n := 6) (f := (wrA S 7 x4 (S.2 7 (Int32.toNatClampNeg (x4 + 1)))).2 8) (at_Sh_11 _ _ _) g8 dX5_remove_63 ?_
        obtain ⟨g9, h⟩ := gd h
        refine ris F w (ws' := wSh G.2.1 a (wrA (wrA S 7 x4 (S.2 7 (Int32.toNatClampNeg (x4 + 1)))) 8 x4 (S.2 8 (Int32.toNatClampNeg (x4 + 1))))) 11 (n := 6) (f := (wrA S 7 x4 (S.2 7 (Int32.toNatClampNeg (x4 + 1)))).2 8) (at_Sh_11 _ _ _) g9 (st_Sh_11 _ _ _ _ _) dX5_remove_64 (fun H locs w => ?_)
        refine lv_iinc (v := (x4 + 1)) (lv' := [(4, .int (x4 + 1)), (0, .ref (a 9)), (3, .int x3)]) F.x F.b dX5_remove_65 hl (k := 2) rfl rfl (by decide) rfl (fun ls hl => ?_)
        refine lv_goto (tgt := 22) F.x F.b dX5_remove_68 (by decide) ?_
        exact ih (x4 + 1) (wrA (wrA S 7 x4 (S.2 7 (Int32.toNatClampNeg (x4 + 1)))) 8 x4 (S.2 8 (Int32.toNatClampNeg (x4 + 1)))) _ _ _ w (lv_sub hl [1, 2, 0] rfl) h hk
  refine lv_aload_n F.x F.b dX5_remove_0 rfl (lv_at hl 0 rfl) ?_
  refine lv_iload_n F.x F.b dX5_remove_1 rfl (lv_at hl 1 rfl) ?_
  obtain ⟨r1, hc2, h⟩ := bd h
  try dsimp only at h
  refine kVi0 F w (As := [.int x1]) (rest := []) (w1 := wSh G.2.1 a S) (t_X5_indexOf F.1 hc2) m_X5_indexOf v_X5_indexOf q743 (ci := 9) (q0 := 9) rfl rfl rfl ⟨Nat.le_of_ble_eq_true rfl, Nat.le_of_ble_eq_true rfl⟩ rfl hl.1 rfl (Nat.le_of_ble_eq_true rfl) dX5_remove_2 ⟨Nat.le_of_ble_eq_true rfl, Nat.le_of_ble_eq_true rfl⟩ (fun H locs w => ?_)
  refine lv_istore_n (lv' := [(2, .int r1), (0, .ref (a 9)), (1, .int x1)]) F.x F.b dX5_remove_5 rfl hl (by decide) rfl (fun ls hl => ?_)
  refine lv_iload_n F.x F.b dX5_remove_6 rfl (lv_at hl 0 rfl) ?_
  refine lv_if_ge (tgt := 12) F.x F.b dX5_remove_7 (by decide) (fun c3 => ?_) (fun c3 => ?_)
  · have h := it c3 h
    refine lv_aload_n F.x F.b dX5_remove_12 rfl (lv_at hl 1 rfl) ?_
    refine rg F w cl5 9 (at_Sh_9 _ _ _) 1 (by decide) q118 rfl (v := .ref (a 11)) rfl dX5_remove_13 ?_
    refine lv_iload_n F.x F.b dX5_remove_16 rfl (lv_at hl 0 rfl) ?_
    obtain ⟨g4, h⟩ := gd h
    refine ri F w 11 (n := 6) (f := S.2 8) (at_Sh_11 _ _ _) g4 dX5_remove_17 ?_
    refine lv_istore_n (lv' := [(3, .int (S.2 8 (Int32.toNatClampNeg r1))), (2, .int r1), (0, .ref (a 9)), (1, .int x1)]) F.x F.b dX5_remove_18 rfl hl (by decide) rfl (fun ls hl => ?_)
    refine lv_iload_n F.x F.b dX5_remove_19 rfl (lv_at hl 1 rfl) ?_
    refine lv_istore (lv' := [(4, .int r1), (3, .int (S.2 8 (Int32.toNatClampNeg r1))), (2, .int r1), (0, .ref (a 9)), (1, .int x1)]) F.x F.b dX5_remove_20 hl (by decide) rfl (fun ls hl => ?_)
    refine L22 (S.2 8 (Int32.toNatClampNeg r1)) _ r1 S _ _ _ w (lv_sub hl [3, 1, 0] rfl) h ?_
    intro S_10 H locs ls w hl h
    try dsimp only at h
    refine lv_aload_n F.x F.b dX5_remove_71 rfl (lv_at hl 0 rfl) ?_
    refine lv_dup F.x F.b dX5_remove_72 rfl ?_
    refine rg F w cl5 9 (at_Sh_9 _ _ _) 2 (by decide) q120 rfl (v := .int (S_10.1 2)) rfl dX5_remove_73 ?_
    refine lv_iconst (v := 1) F.x F.b dX5_remove_76 (by decide) ?_
    refine lv_isub F.x F.b dX5_remove_77 ?_
    refine rp F w (ws' := wSh G.2.1 a (wrI S_10 2 ((S_10.1 2) - 1))) cl5 9 (at_Sh_9 _ _ _) 2 (by decide) q120 rfl rfl rfl rfl (Nat.le_of_ble_eq_true rfl) (pt_Sh_9_2 _ _ _ _) dX5_remove_78 (fun H locs w => ?_)
    refine lv_iload_n F.x F.b dX5_remove_81 rfl (lv_at hl 1 rfl) ?_
    obtain ⟨z0, z1⟩ := sm2 (sm h)
    exact ei F w hr hlocks rfl z0 (by rw [← z1]) dX5_remove_82
  · have h := ie c3 h
    refine lv_iconst (v := (-1)) F.x F.b dX5_remove_10 (by decide) ?_
    obtain ⟨z0, z1⟩ := sm2 (sm h)
    exact ei F w hr hlocks rfl z0 (by rw [← z1]) dX5_remove_11
set_option maxRecDepth 100000 in
set_option maxHeartbeats 4000000 in
theorem t_X5_dutyByParts {G : cG} (g : GOK G) {a : Nat → Nat} {S : Mem} {x1 : Int32} {r : Int32} (h : f_X5_dutyByParts S x1 = some r) : CI G yX5_dutyByParts cX5_dutyByParts 6 .int 1 21 [.ref (a 9), .int x1] (wSh G.2.1 a S) (wSh G.2.1 a S) r := by
  unfold f_X5_dutyByParts at h
  refine CI.of g (by decide) rfl (Nat.le_of_ble_eq_true rfl) ?_
  intro p l e s m below meth c A ls F hr hlocks w hl
  generalize ([.ref (a 9), .int x1] : List Value).toArray = args
  have hl : lv_has ls 6 [(0, .ref (a 9)), (1, .int x1)] := hl
  have L4 : ∀ (x1 : Int32) (S : Mem) {k : Int32 → Option (Int32)} (n : Nat) (x2 : Int32) (x3 : Int32) (H : Heap) (locs : List Loc) (ls : Array Slot), Wd G A s.heap (wSh G.2.1 a S) H locs → lv_has ls 6 [(0, .ref (a 9)), (1, .int x1), (2, .int x2), (3, .int x3)] → f_X5_dutyByParts_L4 x1 S k n x2 x3 = some r → (∀ (x2 : Int32) (H : Heap) (locs : List Loc) (ls : Array Slot), Wd G A s.heap (wSh G.2.1 a S) H locs → lv_has ls 6 [(2, .int x2)] → k x2 = some r → W p l e { frames := 1, cells := 0, slots := 0, locals := 21 } s m args below meth c H locs 0 0 (QI G A (wSh G.2.1 a S) r below args s) (F0 m 73 ls [])) → W p l e { frames := 1, cells := 0, slots := 0, locals := 21 } s m args below meth c H locs 0 0 (QI G A (wSh G.2.1 a S) r below args s) (F0 m 4 ls []) := by
    clear h w hl
    intro x1 S k n
    induction n with
    | zero =>
      intro x2 x3 H locs ls w hl h hk
      exact nomatch (show (none : Option (Int32)) = some r from h)
    | succ n ih =>
      intro x2 x3 H locs ls w hl h hk
      rw [f_X5_dutyByParts_L4] at h
      refine lv_iload_n F.x F.b dX5_dutyByParts_4 rfl (lv_at hl 3 rfl) ?_
      refine lv_aload_n F.x F.b dX5_dutyByParts_5 rfl (lv_at hl 0 rfl) ?_
      refine rg F w cl5 9 (at_Sh_9 _ _ _) 2 (by decide) q120 rfl (v := .int (S.1 2)) rfl dX5_dutyByParts_6 ?_
      refine lv_icmp_ge (tgt := 73) F.x F.b dX5_dutyByParts_9 (by decide) (fun c1 => ?_) (fun c1 => ?_)
      · have h := it c1 h
        exact hk x2 _ _ _ w (lv_sub hl [2] rfl) h
      · have h := ie c1 h
        refine lv_iload_n F.x F.b dX5_dutyByParts_12 rfl (lv_at hl 3 rfl) ?_
        refine lv_iconst (v := 1) F.x F.b dX5_dutyByParts_13 (by decide) ?_
        refine lv_iadd F.x F.b dX5_dutyByParts_14 ?_
        refine lv_aload_n F.x F.b dX5_dutyByParts_15 rfl (lv_at hl 0 rfl) ?_
        refine rg F w cl5 9 (at_Sh_9 _ _ _) 2 (by decide) q120 rfl (v := .int (S.1 2)) rfl dX5_dutyByParts_16 ?_
        refine lv_icmp_ge (tgt := 37) F.x F.b dX5_dutyByParts_19 (by decide) (fun c2 => ?_) (fun c2 => ?_)
        · have h := it c2 h
          refine lv_iload_n F.x F.b dX5_dutyByParts_37 rfl (lv_at hl 1 rfl) ?_
          refine lv_istore (lv' := [(4, .int x1), (0, .ref (a 9)), (1, .int x1), (2, .int x2), (3, .int x3)]) F.x F.b dX5_dutyByParts_38 hl (by decide) rfl (fun ls hl => ?_)
          refine lv_iconst (v := 0) F.x F.b dX5_dutyByParts_40 (by decide) ?_
          refine lv_iload F.x F.b dX5_dutyByParts_41 (lv_at hl 0 rfl) ?_
          refine lv_aload_n F.x F.b dX5_dutyByParts_43 rfl (lv_at hl 1 rfl) ?_
          refine rg F w cl5 9 (at_Sh_9 _ _ _) 0 (by decide) q116 rfl (v := .ref (a 10)) rfl dX5_dutyByParts_44 ?_
          refine lv_iload_n F.x F.b dX5_dutyByParts_47 rfl (lv_at hl 4 rfl) ?_
          obtain ⟨g3, h⟩ := gd h
          refine ri F w 10 (n := 6) (f := S.2 7) (at_Sh_10 _ _ _) g3 dX5_dutyByParts_48 ?_
          refine lv_isub F.x F.b dX5_dutyByParts_49 ?_
          refine va_mmax F.x F.b (F.ml.trans hl.1.symm) F.o (F.t _ q346 rfl _) (F.t _ q347 rfl _) (F.t _ q34 rfl _) (F.t _ q348 rfl _) (by decide) (Nat.le_of_ble_eq_true rfl) (by decide) (by decide) dX5_dutyByParts_50 ?_
          refine lv_istore (lv' := [(5, .int (if (0 : Int32) < (x1 - (S.2 7 (Int32.toNatClampNeg x3))) then (x1 - (S.2 7 (Int32.toNatClampNeg x3))) else 0)), (4, .int x1), (0, .ref (a 9)), (1, .int x1), (2, .int x2), (3, .int x3)]) F.x F.b dX5_dutyByParts_53 hl (by decide) rfl (fun ls hl => ?_)
          refine lv_iload_n F.x F.b dX5_dutyByParts_55 rfl (lv_at hl 4 rfl) ?_
          refine lv_iload F.x F.b dX5_dutyByParts_56 (lv_at hl 0 rfl) ?_
          refine lv_aload_n F.x F.b dX5_dutyByParts_58 rfl (lv_at hl 2 rfl) ?_
          refine rg F w cl5 9 (at_Sh_9 _ _ _) 1 (by decide) q118 rfl (v := .ref (a 11)) rfl dX5_dutyByParts_59 ?_
          refine lv_iload_n F.x F.b dX5_dutyByParts_62 rfl (lv_at hl 5 rfl) ?_
          obtain ⟨g4, h⟩ := gd h
          refine ri F w 11 (n := 6) (f := S.2 8) (at_Sh_11 _ _ _) g4 dX5_dutyByParts_63 ?_
          refine lv_imul F.x F.b dX5_dutyByParts_64 ?_
          refine lv_iadd F.x F.b dX5_dutyByParts_65 ?_
          refine lv_istore_n (lv' := [(2, .int (x2 + ((if (0 : Int32) < (x1 - (S.2 7 (Int32.toNatClampNeg x3))) then (x1 - (S.2 7 (Int32.toNatClampNeg x3))) else 0) * (S.2 8 (Int32.toNatClampNeg x3))))), (5, .int (if (0 : Int32) < (x1 - (S.2 7 (Int32.toNatClampNeg x3))) then (x1 - (S.2 7 (Int32.toNatClampNeg x3))) else 0)), (4, .int x1), (0, .ref (a 9)), (1, .int x1), (3, .int x3)]) F.x F.b dX5_dutyByParts_66 rfl hl (by decide) rfl (fun ls hl => ?_)
          refine lv_iinc (v := (x3 + 1)) (lv' := [(3, .int (x3 + 1)), (2, .int (x2 + ((if (0 : Int32) < (x1 - (S.2 7 (Int32.toNatClampNeg x3))) then (x1 - (S.2 7 (Int32.toNatClampNeg x3))) else 0) * (S.2 8 (Int32.toNatClampNeg x3))))), (5, .int (if (0 : Int32) < (x1 - (S.2 7 (Int32.toNatClampNeg x3))) then (x1 - (S.2 7 (Int32.toNatClampNeg x3))) else 0)), (4, .int x1), (0, .ref (a 9)), (1, .int x1)]) F.x F.b dX5_dutyByParts_67 hl (k := 5) rfl rfl (by decide) rfl (fun ls hl => ?_)
          refine lv_goto (tgt := 4) F.x F.b dX5_dutyByParts_70 (by decide) ?_
          exact ih (x2 + ((if (0 : Int32) < (x1 - (S.2 7 (Int32.toNatClampNeg x3))) then (x1 - (S.2 7 (Int32.toNatClampNeg x3))) else 0) * (S.2 8 (Int32.toNatClampNeg x3)))) (x3 + 1) _ _ _ w (lv_sub hl [4, 5, 1, 0] rfl) h hk
        · have h := ie c2 h
          refine lv_iload_n F.x F.b dX5_dutyByParts_22 rfl (lv_at hl 1 rfl) ?_
          refine lv_aload_n F.x F.b dX5_dutyByParts_23 rfl (lv_at hl 0 rfl) ?_
          refine rg F w cl5 9 (at_Sh_9 _ _ _) 0 (by decide) q116 rfl (v := .ref (a 10)) rfl dX5_dutyByParts_24 ?_
          refine lv_iload_n F.x F.b dX5_dutyByParts_27 rfl (lv_at hl 3 rfl) ?_
          refine lv_iconst (v := 1) F.x F.b dX5_dutyByParts_28 (by decide) ?_
          refine lv_iadd F.x F.b dX5_dutyByParts_29 ?_
          obtain ⟨g5, h⟩ := gd h
          refine ri F w 10 (n := 6) (f := S.2 7) (at_Sh_10 _ _ _) g5 dX5_dutyByParts_30 ?_
          refine va_mmin F.x F.b (F.ml.trans hl.1.symm) F.o (F.t _ q343 rfl _) (F.t _ q344 rfl _) (F.t _ q34 rfl _) (F.t _ q345 rfl _) (by decide) (Nat.le_of_ble_eq_true rfl) (by decide) (by decide) dX5_dutyByParts_31 ?_
          refine lv_goto (tgt := 38) F.x F.b dX5_dutyByParts_34 (by decide) ?_
          refine lv_istore (lv' := [(4, .int (if (S.2 7 (Int32.toNatClampNeg (x3 + 1))) < x1 then (S.2 7 (Int32.toNatClampNeg (x3 + 1))) else x1)), (0, .ref (a 9)), (1, .int x1), (2, .int x2), (3, .int x3)]) F.x F.b dX5_dutyByParts_38 hl (by decide) rfl (fun ls hl => ?_)
          refine lv_iconst (v := 0) F.x F.b dX5_dutyByParts_40 (by decide) ?_
          refine lv_iload F.x F.b dX5_dutyByParts_41 (lv_at hl 0 rfl) ?_
          refine lv_aload_n F.x F.b dX5_dutyByParts_43 rfl (lv_at hl 1 rfl) ?_
          refine rg F w cl5 9 (at_Sh_9 _ _ _) 0 (by decide) q116 rfl (v := .ref (a 10)) rfl dX5_dutyByParts_44 ?_
          refine lv_iload_n F.x F.b dX5_dutyByParts_47 rfl (lv_at hl 4 rfl) ?_
          obtain ⟨g6, h⟩ := gd h
          refine ri F w 10 (n := 6) (f := S.2 7) (at_Sh_10 _ _ _) g6 dX5_dutyByParts_48 ?_
          refine lv_isub F.x F.b dX5_dutyByParts_49 ?_
          refine va_mmax F.x F.b (F.ml.trans hl.1.symm) F.o (F.t _ q346 rfl _) (F.t _ q347 rfl _) (F.t _ q34 rfl _) (F.t _ q348 rfl _) (by decide) (Nat.le_of_ble_eq_true rfl) (by decide) (by decide) dX5_dutyByParts_50 ?_
          refine lv_istore (lv' := [(5, .int (if (0 : Int32) < ((if (S.2 7 (Int32.toNatClampNeg (x3 + 1))) < x1 then (S.2 7 (Int32.toNatClampNeg (x3 + 1))) else x1) - (S.2 7 (Int32.toNatClampNeg x3))) then ((if (S.2 7 (Int32.toNatClampNeg (x3 + 1))) < x1 then (S.2 7 (Int32.toNatClampNeg (x3 + 1))) else x1) - (S.2 7 (Int32.toNatClampNeg x3))) else 0)), (4, .int (if (S.2 7 (Int32.toNatClampNeg (x3 + 1))) < x1 then (S.2 7 (Int32.toNatClampNeg (x3 + 1))) else x1)), (0, .ref (a 9)), (1, .int x1), (2, .int x2), (3, .int x3)]) F.x F.b dX5_dutyByParts_53 hl (by decide) rfl (fun ls hl => ?_)
          refine lv_iload_n F.x F.b dX5_dutyByParts_55 rfl (lv_at hl 4 rfl) ?_
          refine lv_iload F.x F.b dX5_dutyByParts_56 (lv_at hl 0 rfl) ?_
          refine lv_aload_n F.x F.b dX5_dutyByParts_58 rfl (lv_at hl 2 rfl) ?_
          refine rg F w cl5 9 (at_Sh_9 _ _ _) 1 (by decide) q118 rfl (v := .ref (a 11)) rfl dX5_dutyByParts_59 ?_
          refine lv_iload_n F.x F.b dX5_dutyByParts_62 rfl (lv_at hl 5 rfl) ?_
          obtain ⟨g7, h⟩ := gd h
          refine ri F w 11 (n := 6) (f := S.2 8) (at_Sh_11 _ _ _) g7 dX5_dutyByParts_63 ?_
          refine lv_imul F.x F.b dX5_dutyByParts_64 ?_
          refine lv_iadd F.x F.b dX5_dutyByParts_65 ?_
          refine lv_istore_n (lv' := [(2, .int (x2 + ((if (0 : Int32) < ((if (S.2 7 (Int32.toNatClampNeg (x3 + 1))) < x1 then (S.2 7 (Int32.toNatClampNeg (x3 + 1))) else x1) - (S.2 7 (Int32.toNatClampNeg x3))) then ((if (S.2 7 (Int32.toNatClampNeg (x3 + 1))) < x1 then (S.2 7 (Int32.toNatClampNeg (x3 + 1))) else x1) - (S.2 7 (Int32.toNatClampNeg x3))) else 0) * (S.2 8 (Int32.toNatClampNeg x3))))), (5, .int (if (0 : Int32) < ((if (S.2 7 (Int32.toNatClampNeg (x3 + 1))) < x1 then (S.2 7 (Int32.toNatClampNeg (x3 + 1))) else x1) - (S.2 7 (Int32.toNatClampNeg x3))) then ((if (S.2 7 (Int32.toNatClampNeg (x3 + 1))) < x1 then (S.2 7 (Int32.toNatClampNeg (x3 + 1))) else x1) - (S.2 7 (Int32.toNatClampNeg x3))) else 0)), (4, .int (if (S.2 7 (Int32.toNatClampNeg (x3 + 1))) < x1 then (S.2 7 (Int32.toNatClampNeg (x3 + 1))) else x1)), (0, .ref (a 9)), (1, .int x1), (3, .int x3)]) F.x F.b dX5_dutyByParts_66 rfl hl (by decide) rfl (fun ls hl => ?_)
          refine lv_iinc (v := (x3 + 1)) (lv' := [(3, .int (x3 + 1)), (2, .int (x2 + ((if (0 : Int32) < ((if (S.2 7 (Int32.toNatClampNeg (x3 + 1))) < x1 then (S.2 7 (Int32.toNatClampNeg (x3 + 1))) else x1) - (S.2 7 (Int32.toNatClampNeg x3))) then ((if (S.2 7 (Int32.toNatClampNeg (x3 + 1))) < x1 then (S.2 7 (Int32.toNatClampNeg (x3 + 1))) else x1) - (S.2 7 (Int32.toNatClampNeg x3))) else 0) * (S.2 8 (Int32.toNatClampNeg x3))))), (5, .int (if (0 : Int32) < ((if (S.2 7 (Int32.toNatClampNeg (x3 + 1))) < x1 then (S.2 7 (Int32.toNatClampNeg (x3 + 1))) else x1) - (S.2 7 (Int32.toNatClampNeg x3))) then ((if (S.2 7 (Int32.toNatClampNeg (x3 + 1))) < x1 then (S.2 7 (Int32.toNatClampNeg (x3 + 1))) else x1) - (S.2 7 (Int32.toNatClampNeg x3))) else 0)), (4, .int (if (S.2 7 (Int32.toNatClampNeg (x3 + 1))) < x1 then (S.2 7 (Int32.toNatClampNeg (x3 + 1))) else x1)), (0, .ref (a 9)), (1, .int x1)]) F.x F.b dX5_dutyByParts_67 hl (k := 5) rfl rfl (by decide) rfl (fun ls hl => ?_)
          refine lv_goto (tgt := 4) F.x F.b dX5_dutyByParts_70 (by decide) ?_
          exact ih (x2 + ((if (0 : Int32) < ((if (S.2 7 (Int32.toNatClampNeg (x3 + 1))) < x1 then (S.2 7 (Int32.toNatClampNeg (x3 + 1))) else x1) - (S.2 7 (Int32.toNatClampNeg x3))) then ((if (S.2 7 (Int32.toNatClampNeg (x3 + 1))) < x1 then (S.2 7 (Int32.toNatClampNeg (x3 + 1))) else x1) - (S.2 7 (Int32.toNatClampNeg x3))) else 0) * (S.2 8 (Int32.toNatClampNeg x3)))) (x3 + 1) _ _ _ w (lv_sub hl [4, 5, 1, 0] rfl) h hk
  refine lv_iconst (v := 0) F.x F.b dX5_dutyByParts_0 (by decide) ?_
  refine lv_istore_n (lv' := [(2, .int 0), (0, .ref (a 9)), (1, .int x1)]) F.x F.b dX5_dutyByParts_1 rfl hl (by decide) rfl (fun ls hl => ?_)
  refine lv_iconst (v := 0) F.x F.b dX5_dutyByParts_2 (by decide) ?_
  refine lv_istore_n (lv' := [(3, .int 0), (2, .int 0), (0, .ref (a 9)), (1, .int x1)]) F.x F.b dX5_dutyByParts_3 rfl hl (by decide) rfl (fun ls hl => ?_)
  refine L4 x1 S _ 0 0 _ _ _ w (lv_sub hl [2, 3, 1, 0] rfl) h ?_
  intro y8_2 H locs ls w hl h
  try dsimp only at h
  refine lv_iload_n F.x F.b dX5_dutyByParts_73 rfl (lv_at hl 0 rfl) ?_
  refine lv_bipush (v := 100) F.x F.b dX5_dutyByParts_74 (by decide) ?_
  refine lv_idiv F.x F.b dX5_dutyByParts_76 (by decide) ?_
  have z0 := sm h
  exact ei F w hr hlocks rfl z0 rfl dX5_dutyByParts_77
set_option maxRecDepth 100000 in
set_option maxHeartbeats 4000000 in
theorem t_X5_dutyByCoins {G : cG} (g : GOK G) {a : Nat → Nat} {S : Mem} {x1 : Int32} {r : Int32} (h : f_X5_dutyByCoins S x1 = some r) : CI G yX5_dutyByCoins cX5_dutyByCoins 5 .int 0 0 [.ref (a 9), .int x1] (wSh G.2.1 a S) (wSh G.2.1 a S) r := by
  unfold f_X5_dutyByCoins at h
  refine CI.of g (by decide) rfl (Nat.le_of_ble_eq_true rfl) ?_
  intro p l e s m below meth c A ls F hr hlocks w hl
  generalize ([.ref (a 9), .int x1] : List Value).toArray = args
  have hl : lv_has ls 5 [(0, .ref (a 9)), (1, .int x1)] := hl
  have L13 : ∀ (x1 : Int32) (x2 : Int32) (x4 : Int32) (S : Mem) {k : Int32 → Option (Int32)} (n : Nat) (x3 : Int32) (H : Heap) (locs : List Loc) (ls : Array Slot), Wd G A s.heap (wSh G.2.1 a S) H locs → lv_has ls 5 [(0, .ref (a 9)), (1, .int x1), (2, .int x2), (3, .int x3), (4, .int x4)] → f_X5_dutyByCoins_L13 x1 x2 x4 S k n x3 = some r → (∀ (x3 : Int32) (H : Heap) (locs : List Loc) (ls : Array Slot), Wd G A s.heap (wSh G.2.1 a S) H locs → lv_has ls 5 [(0, .ref (a 9)), (1, .int x1), (2, .int x2), (3, .int x3), (4, .int x4)] → k x3 = some r → W p l e { frames := 0, cells := 0, slots := 0, locals := 0 } s m args below meth c H locs 0 0 (QI G A (wSh G.2.1 a S) r below args s) (F0 m 38 ls [])) → W p l e { frames := 0, cells := 0, slots := 0, locals := 0 } s m args below meth c H locs 0 0 (QI G A (wSh G.2.1 a S) r below args s) (F0 m 13 ls []) := by
    clear h w hl
    intro x1 x2 x4 S k n
    induction n with
    | zero =>
      intro x3 H locs ls w hl h hk
      exact nomatch (show (none : Option (Int32)) = some r from h)
    | succ n ih =>
      intro x3 H locs ls w hl h hk
      rw [f_X5_dutyByCoins_L13] at h
      refine lv_iload_n F.x F.b dX5_dutyByCoins_13 rfl (lv_at hl 3 rfl) ?_
      refine lv_aload_n F.x F.b dX5_dutyByCoins_14 rfl (lv_at hl 0 rfl) ?_
      refine rg F w cl5 9 (at_Sh_9 _ _ _) 2 (by decide) q120 rfl (v := .int (S.1 2)) rfl dX5_dutyByCoins_15 ?_
      refine lv_icmp_ge (tgt := 38) F.x F.b dX5_dutyByCoins_18 (by decide) (fun c2 => ?_) (fun c2 => ?_)
      · have h := it c2 h
        exact hk x3 _ _ _ w (lv_sub hl [0, 1, 2, 3, 4] rfl) h
      · have h := ie c2 h
        refine lv_aload_n F.x F.b dX5_dutyByCoins_21 rfl (lv_at hl 0 rfl) ?_
        refine rg F w cl5 9 (at_Sh_9 _ _ _) 0 (by decide) q116 rfl (v := .ref (a 10)) rfl dX5_dutyByCoins_22 ?_
        refine lv_iload_n F.x F.b dX5_dutyByCoins_25 rfl (lv_at hl 3 rfl) ?_
        obtain ⟨g3, h⟩ := gd h
        refine ri F w 10 (n := 6) (f := S.2 7) (at_Sh_10 _ _ _) g3 dX5_dutyByCoins_26 ?_
        refine lv_iload F.x F.b dX5_dutyByCoins_27 (lv_at hl 4 rfl) ?_
        refine lv_icmp_ge (tgt := 38) F.x F.b dX5_dutyByCoins_29 (by decide) (fun c4 => ?_) (fun c4 => ?_)
        · have h := it c4 h
          exact hk x3 _ _ _ w (lv_sub hl [0, 1, 2, 3, 4] rfl) h
        · have h := ie c4 h
          refine lv_iinc (v := (x3 + 1)) (lv' := [(3, .int (x3 + 1)), (0, .ref (a 9)), (1, .int x1), (2, .int x2), (4, .int x4)]) F.x F.b dX5_dutyByCoins_32 hl (k := 3) rfl rfl (by decide) rfl (fun ls hl => ?_)
          refine lv_goto (tgt := 13) F.x F.b dX5_dutyByCoins_35 (by decide) ?_
          exact ih (x3 + 1) _ _ _ w (lv_sub hl [1, 2, 3, 0, 4] rfl) h hk
  have L7 : ∀ (x1 : Int32) (S : Mem) {k : Int32 → Option (Int32)} (n : Nat) (x2 : Int32) (x3 : Int32) (x4 : Int32) (H : Heap) (locs : List Loc) (ls : Array Slot), Wd G A s.heap (wSh G.2.1 a S) H locs → lv_has ls 5 [(0, .ref (a 9)), (1, .int x1), (2, .int x2), (3, .int x3), (4, .int x4)] → f_X5_dutyByCoins_L7 x1 S k n x2 x3 x4 = some r → (∀ (x2 : Int32) (H : Heap) (locs : List Loc) (ls : Array Slot), Wd G A s.heap (wSh G.2.1 a S) H locs → lv_has ls 5 [(2, .int x2)] → k x2 = some r → W p l e { frames := 0, cells := 0, slots := 0, locals := 0 } s m args below meth c H locs 0 0 (QI G A (wSh G.2.1 a S) r below args s) (F0 m 59 ls [])) → W p l e { frames := 0, cells := 0, slots := 0, locals := 0 } s m args below meth c H locs 0 0 (QI G A (wSh G.2.1 a S) r below args s) (F0 m 7 ls []) := by
    clear h w hl
    intro x1 S k n
    induction n with
    | zero =>
      intro x2 x3 x4 H locs ls w hl h hk
      exact nomatch (show (none : Option (Int32)) = some r from h)
    | succ n ih =>
      intro x2 x3 x4 H locs ls w hl h hk
      rw [f_X5_dutyByCoins_L7] at h
      refine lv_iload F.x F.b dX5_dutyByCoins_7 (lv_at hl 4 rfl) ?_
      refine lv_iload_n F.x F.b dX5_dutyByCoins_9 rfl (lv_at hl 1 rfl) ?_
      refine lv_icmp_gt (tgt := 59) F.x F.b dX5_dutyByCoins_10 (by decide) (fun c1 => ?_) (fun c1 => ?_)
      · have h := it c1 h
        exact hk x2 _ _ _ w (lv_sub hl [2] rfl) h
      · have h := ie c1 h
        refine L13 x1 x2 x4 S _ x3 _ _ _ w (lv_sub hl [0, 1, 2, 3, 4] rfl) h ?_
        intro y5_3 H locs ls w hl h
        try dsimp only at h
        refine lv_iload_n F.x F.b dX5_dutyByCoins_38 rfl (lv_at hl 3 rfl) ?_
        refine lv_if_le (tgt := 53) F.x F.b dX5_dutyByCoins_39 (by decide) (fun c6 => ?_) (fun c6 => ?_)
        · have h := it c6 h
          refine lv_iinc (v := (x4 + 1)) (lv' := [(4, .int (x4 + 1)), (0, .ref (a 9)), (1, .int x1), (2, .int x2), (3, .int y5_3)]) F.x F.b dX5_dutyByCoins_53 hl (k := 4) rfl rfl (by decide) rfl (fun ls hl => ?_)
          refine lv_goto (tgt := 7) F.x F.b dX5_dutyByCoins_56 (by decide) ?_
          exact ih x2 y5_3 (x4 + 1) _ _ _ w (lv_sub hl [1, 2, 3, 4, 0] rfl) h hk
        · have h := ie c6 h
          refine lv_iload_n F.x F.b dX5_dutyByCoins_42 rfl (lv_at hl 2 rfl) ?_
          refine lv_aload_n F.x F.b dX5_dutyByCoins_43 rfl (lv_at hl 0 rfl) ?_
          refine rg F w cl5 9 (at_Sh_9 _ _ _) 1 (by decide) q118 rfl (v := .ref (a 11)) rfl dX5_dutyByCoins_44 ?_
          refine lv_iload_n F.x F.b dX5_dutyByCoins_47 rfl (lv_at hl 3 rfl) ?_
          refine lv_iconst (v := 1) F.x F.b dX5_dutyByCoins_48 (by decide) ?_
          refine lv_isub F.x F.b dX5_dutyByCoins_49 ?_
          obtain ⟨g7, h⟩ := gd h
          refine ri F w 11 (n := 6) (f := S.2 8) (at_Sh_11 _ _ _) g7 dX5_dutyByCoins_50 ?_
          refine lv_iadd F.x F.b dX5_dutyByCoins_51 ?_
          refine lv_istore_n (lv' := [(2, .int (x2 + (S.2 8 (Int32.toNatClampNeg (y5_3 - 1))))), (0, .ref (a 9)), (1, .int x1), (3, .int y5_3), (4, .int x4)]) F.x F.b dX5_dutyByCoins_52 rfl hl (by decide) rfl (fun ls hl => ?_)
          refine lv_iinc (v := (x4 + 1)) (lv' := [(4, .int (x4 + 1)), (2, .int (x2 + (S.2 8 (Int32.toNatClampNeg (y5_3 - 1))))), (0, .ref (a 9)), (1, .int x1), (3, .int y5_3)]) F.x F.b dX5_dutyByCoins_53 hl (k := 4) rfl rfl (by decide) rfl (fun ls hl => ?_)
          refine lv_goto (tgt := 7) F.x F.b dX5_dutyByCoins_56 (by decide) ?_
          exact ih (x2 + (S.2 8 (Int32.toNatClampNeg (y5_3 - 1)))) y5_3 (x4 + 1) _ _ _ w (lv_sub hl [2, 3, 1, 4, 0] rfl) h hk
  refine lv_iconst (v := 0) F.x F.b dX5_dutyByCoins_0 (by decide) ?_
  refine lv_istore_n (lv' := [(2, .int 0), (0, .ref (a 9)), (1, .int x1)]) F.x F.b dX5_dutyByCoins_1 rfl hl (by decide) rfl (fun ls hl => ?_)
  refine lv_iconst (v := 0) F.x F.b dX5_dutyByCoins_2 (by decide) ?_
  refine lv_istore_n (lv' := [(3, .int 0), (2, .int 0), (0, .ref (a 9)), (1, .int x1)]) F.x F.b dX5_dutyByCoins_3 rfl hl (by decide) rfl (fun ls hl => ?_)
  refine lv_iconst (v := 1) F.x F.b dX5_dutyByCoins_4 (by decide) ?_
  refine lv_istore (lv' := [(4, .int 1), (3, .int 0), (2, .int 0), (0, .ref (a 9)), (1, .int x1)]) F.x F.b dX5_dutyByCoins_5 hl (by decide) rfl (fun ls hl => ?_)
  refine L7 x1 S _ 0 0 1 _ _ _ w (lv_sub hl [3, 4, 2, 1, 0] rfl) h ?_
  intro y8_2 H locs ls w hl h
  try dsimp only at h
  refine lv_iload_n F.x F.b dX5_dutyByCoins_59 rfl (lv_at hl 0 rfl) ?_
  refine lv_bipush (v := 100) F.x F.b dX5_dutyByCoins_60 (by decide) ?_
  refine lv_idiv F.x F.b dX5_dutyByCoins_62 (by decide) ?_
  have z0 := sm h
  exact ei F w hr hlocks rfl z0 rfl dX5_dutyByCoins_63
set_option maxRecDepth 100000 in
set_option maxHeartbeats 4000000 in
theorem t_X5_copyFrom {G : cG} (g : GOK G) {a : Nat → Nat} {S : Mem} {b : Nat → Nat} {T : Mem} {S' : Mem} (h : f_X5_copyFrom S T = some S') : CV G yX5_copyFrom cX5_copyFrom 3 0 0 [.ref (a 9), .ref (b 9)] (wSh G.2.1 a S ++ wSh G.2.1 b T) (wSh G.2.1 a S' ++ wSh G.2.1 b T) := by
  unfold f_X5_copyFrom at h
  refine CV.of g (by decide) rfl (Nat.le_of_ble_eq_true rfl) ?_
  intro p l e s m below meth c A ls F hr hlocks w hl
  generalize ([.ref (a 9), .ref (b 9)] : List Value).toArray = args
  have hl : lv_has ls 3 [(0, .ref (a 9)), (1, .ref (b 9))] := hl
  have L2 : ∀ (T : Mem) {k : Mem → Option (Mem)} (n : Nat) (x2 : Int32) (S : Mem) (H : Heap) (locs : List Loc) (ls : Array Slot), Wd G A s.heap (wSh G.2.1 a S ++ wSh G.2.1 b T) H locs → lv_has ls 3 [(0, .ref (a 9)), (1, .ref (b 9)), (2, .int x2)] → f_X5_copyFrom_L2 T k n x2 S = some S' → (∀ (S : Mem) (H : Heap) (locs : List Loc) (ls : Array Slot), Wd G A s.heap (wSh G.2.1 a S ++ wSh G.2.1 b T) H locs → lv_has ls 3 [(0, .ref (a 9)), (1, .ref (b 9))] → k S = some S' → W p l e { frames := 0, cells := 0, slots := 0, locals := 0 } s m args below meth c H locs 0 0 (QV G A (wSh G.2.1 a S' ++ wSh G.2.1 b T) below args s) (F0 m 40 ls [])) → W p l e { frames := 0, cells := 0, slots := 0, locals := 0 } s m args below meth c H locs 0 0 (QV G A (wSh G.2.1 a S' ++ wSh G.2.1 b T) below args s) (F0 m 2 ls []) := by
    clear h w hl
    intro T k n
    induction n with
    | zero =>
      intro x2 S H locs ls w hl h hk
      exact nomatch (show (none : Option (Mem)) = some S' from h)
    | succ n ih =>
      intro x2 S H locs ls w hl h hk
      rw [f_X5_copyFrom_L2] at h
      refine lv_iload_n F.x F.b dX5_copyFrom_2 rfl (lv_at hl 2 rfl) ?_
      refine lv_aload_n F.x F.b dX5_copyFrom_3 rfl (lv_at hl 1 rfl) ?_
      refine rg F w cl5 23 rfl 2 (by decide) q120 rfl (v := .int (T.1 2)) rfl dX5_copyFrom_4 ?_
      refine lv_icmp_ge (tgt := 40) F.x F.b dX5_copyFrom_7 (by decide) (fun c1 => ?_) (fun c1 => ?_)
      · have h := it c1 h
        exact hk S _ _ _ w (lv_sub hl [0, 1] rfl) h
      · have h := ie c1 h
        refine lv_aload_n F.x F.b dX5_copyFrom_10 rfl (lv_at hl 0 rfl) ?_
        refine rg F w cl5 9 rfl 0 (by decide) q116 rfl (v := .ref (a 10)) rfl dX5_copyFrom_11 ?_
        refine lv_iload_n F.x F.b dX5_copyFrom_14 rfl (lv_at hl 2 rfl) ?_
        refine lv_aload_n F.x F.b dX5_copyFrom_15 rfl (lv_at hl 1 rfl) ?_
        refine rg F w cl5 23 rfl 0 (by decide) q116 rfl (v := .ref (b 10)) rfl dX5_copyFrom_16 ?_
        refine lv_iload_n F.x F.b dX5_copyFrom_19 rfl (lv_at hl 2 rfl) ?_
        obtain ⟨g2, h⟩ := gd h
        refine ri F w 24 (n := 6) (f := T.2 7) rfl g2 dX5_copyFrom_20 ?_
        obtain ⟨g3, h⟩ := gd h
        refine ris F w (ws' := wSh G.2.1 a (wrA S 7 x2 (T.2 7 (Int32.toNatClampNeg x2))) ++ wSh G.2.1 b T) 10 (n := 6) (f := S.2 7) rfl g3 rfl dX5_copyFrom_21 (fun H locs w => ?_)
        refine lv_aload_n F.x F.b dX5_copyFrom_22 rfl (lv_at hl 0 rfl) ?_
        refine rg F w cl5 9 rfl 1 (by decide) q118 rfl (v := .ref (a 11)) rfl dX5_copyFrom_23 ?_
        refine lv_iload_n F.x F.b dX5_copyFrom_26 rfl (lv_at hl 2 rfl) ?_
        refine lv_aload_n F.x F.b dX5_copyFrom_27 rfl (lv_at hl 1 rfl) ?_
        refine rg F w cl5 23 rfl 1 (by decide) q118 rfl (v := .ref (b 11)) rfl dX5_copyFrom_28 ?_
        refine lv_iload_n F.x F.b dX5_copyFrom_31 rfl (lv_at hl 2 rfl) ?_
        obtain ⟨g4, h⟩ := gd h
        refine ri F w 25 (n := 6) (f := T.2 8) rfl g4 dX5_copyFrom_32 ?_
        obtain ⟨g5, h⟩ := gd h
        refine ris F w (ws' := wSh G.2.1 a (wrA (wrA S 7 x2 (T.2 7 (Int32.toNatClampNeg x2))) 8 x2 (T.2 8 (Int32.toNatClampNeg x2))) ++ wSh G.2.1 b T) 11 (n := 6) (f := (wrA S 7 x2 (T.2 7 (Int32.toNatClampNeg x2))).2 8) rfl g5 rfl dX5_copyFrom_33 (fun H locs w => ?_)
        refine lv_iinc (v := (x2 + 1)) (lv' := [(2, .int (x2 + 1)), (0, .ref (a 9)), (1, .ref (b 9))]) F.x F.b dX5_copyFrom_34 hl (k := 2) rfl rfl (by decide) rfl (fun ls hl => ?_)
        refine lv_goto (tgt := 2) F.x F.b dX5_copyFrom_37 (by decide) ?_
        exact ih (x2 + 1) (wrA (wrA S 7 x2 (T.2 7 (Int32.toNatClampNeg x2))) 8 x2 (T.2 8 (Int32.toNatClampNeg x2))) _ _ _ w (lv_sub hl [1, 2, 0] rfl) h hk
  refine lv_iconst (v := 0) F.x F.b dX5_copyFrom_0 (by decide) ?_
  refine lv_istore_n (lv' := [(2, .int 0), (0, .ref (a 9)), (1, .ref (b 9))]) F.x F.b dX5_copyFrom_1 rfl hl (by decide) rfl (fun ls hl => ?_)
  refine L2 T _ 0 S _ _ _ w (lv_sub hl [1, 2, 0] rfl) h ?_
  intro S_6 H locs ls w hl h
  try dsimp only at h
  refine lv_aload_n F.x F.b dX5_copyFrom_40 rfl (lv_at hl 0 rfl) ?_
  refine lv_aload_n F.x F.b dX5_copyFrom_41 rfl (lv_at hl 1 rfl) ?_
  refine rg F w cl5 23 rfl 2 (by decide) q120 rfl (v := .int (T.1 2)) rfl dX5_copyFrom_42 ?_
  refine rp F w (ws' := wSh G.2.1 a (wrI S_6 2 (T.1 2)) ++ wSh G.2.1 b T) cl5 9 rfl 2 (by decide) q120 rfl rfl rfl rfl (Nat.le_of_ble_eq_true rfl) rfl dX5_copyFrom_45 (fun H locs w => ?_)
  have z0 := sm h
  exact ev F w hr hlocks (by rw [← z0]) dX5_copyFrom_48
set_option maxRecDepth 100000 in
set_option maxHeartbeats 4000000 in
theorem t_X0_placeOf {G : cG} (g : GOK G) {a : Nat → Nat} {S : Mem} {x1 : Int32} {r : Int32} (h : f_X0_placeOf S x1 = some r) : CI G yX0_placeOf cX0_placeOf 3 .int 0 0 [.ref (a 12), .int x1] (wSh G.2.1 a S) (wSh G.2.1 a S) r := by
  unfold f_X0_placeOf at h
  refine CI.of g (by decide) rfl (Nat.le_of_ble_eq_true rfl) ?_
  intro p l e s m below meth c A ls F hr hlocks w hl
  generalize ([.ref (a 12), .int x1] : List Value).toArray = args
  have hl : lv_has ls 3 [(0, .ref (a 12)), (1, .int x1)] := hl
  have L2 : ∀ (x1 : Int32) (S : Mem) {k : Option (Int32)} (n : Nat) (x2 : Int32) (H : Heap) (locs : List Loc) (ls : Array Slot), Wd G A s.heap (wSh G.2.1 a S) H locs → lv_has ls 3 [(0, .ref (a 12)), (1, .int x1), (2, .int x2)] → f_X0_placeOf_L2 x1 S k n x2 = some r → (∀ (H : Heap) (locs : List Loc) (ls : Array Slot), Wd G A s.heap (wSh G.2.1 a S) H locs → lv_has ls 3 [] → k = some r → W p l e { frames := 0, cells := 0, slots := 0, locals := 0 } s m args below meth c H locs 0 0 (QI G A (wSh G.2.1 a S) r below args s) (F0 m 28 ls [])) → W p l e { frames := 0, cells := 0, slots := 0, locals := 0 } s m args below meth c H locs 0 0 (QI G A (wSh G.2.1 a S) r below args s) (F0 m 2 ls []) := by
    clear h w hl
    intro x1 S k n
    induction n with
    | zero =>
      intro x2 H locs ls w hl h hk
      exact nomatch (show (none : Option (Int32)) = some r from h)
    | succ n ih =>
      intro x2 H locs ls w hl h hk
      rw [f_X0_placeOf_L2] at h
      refine lv_iload_n F.x F.b dX0_placeOf_2 rfl (lv_at hl 2 rfl) ?_
      refine lv_aload_n F.x F.b dX0_placeOf_3 rfl (lv_at hl 0 rfl) ?_
      refine rg F w cl0 12 (at_Sh_12 _ _ _) 1 (by decide) q138 rfl (v := .int (S.1 7)) rfl dX0_placeOf_4 ?_
      refine lv_icmp_ge (tgt := 28) F.x F.b dX0_placeOf_7 (by decide) (fun c1 => ?_) (fun c1 => ?_)
      · have h := it c1 h
        exact hk _ _ _ w (lv_sub hl [] rfl) h
      · have h := ie c1 h
        refine lv_aload_n F.x F.b dX0_placeOf_10 rfl (lv_at hl 0 rfl) ?_
        refine rg F w cl0 12 (at_Sh_12 _ _ _) 0 (by decide) q135 rfl (v := .ref (a 13)) rfl dX0_placeOf_11 ?_
        refine lv_iload_n F.x F.b dX0_placeOf_14 rfl (lv_at hl 2 rfl) ?_
        obtain ⟨g2, h⟩ := gd h
        refine ri F w 13 (n := 16) (f := S.2 9) (at_Sh_13 _ _ _) g2 dX0_placeOf_15 ?_
        refine lv_iload_n F.x F.b dX0_placeOf_16 rfl (lv_at hl 1 rfl) ?_
        refine lv_icmp_ne (tgt := 22) F.x F.b dX0_placeOf_17 (by decide) (fun c3 => ?_) (fun c3 => ?_)
        · have h := ie c3 h
          refine lv_iinc (v := (x2 + 1)) (lv' := [(2, .int (x2 + 1)), (0, .ref (a 12)), (1, .int x1)]) F.x F.b dX0_placeOf_22 hl (k := 2) rfl rfl (by decide) rfl (fun ls hl => ?_)
          refine lv_goto (tgt := 2) F.x F.b dX0_placeOf_25 (by decide) ?_
          exact ih (x2 + 1) _ _ _ w (lv_sub hl [1, 2, 0] rfl) h hk
        · have h := it c3 h
          refine lv_iload_n F.x F.b dX0_placeOf_20 rfl (lv_at hl 2 rfl) ?_
          have z0 := sm h
          exact ei F w hr hlocks rfl z0 rfl dX0_placeOf_21
  refine lv_iconst (v := 0) F.x F.b dX0_placeOf_0 (by decide) ?_
  refine lv_istore_n (lv' := [(2, .int 0), (0, .ref (a 12)), (1, .int x1)]) F.x F.b dX0_placeOf_1 rfl hl (by decide) rfl (fun ls hl => ?_)
  refine L2 x1 S _ 0 _ _ _ w (lv_sub hl [1, 2, 0] rfl) h ?_
  intro  H locs ls w hl h
  try dsimp only at h
  refine lv_iconst (v := (-1)) F.x F.b dX0_placeOf_28 (by decide) ?_
  have z0 := sm h
  exact ei F w hr hlocks rfl z0 rfl dX0_placeOf_29
set_option maxRecDepth 100000 in
set_option maxHeartbeats 4000000 in
theorem t_X0_append {G : cG} (g : GOK G) {a : Nat → Nat} {S : Mem} {x1 : Int32} {r : Int32} {S' : Mem} (h : f_X0_append S x1 = some (r, S')) : CI G yX0_append cX0_append 2 .int 1 22 [.ref (a 12), .int x1] (wSh G.2.1 a S) (wSh G.2.1 a S') r := by
  unfold f_X0_append at h
  refine CI.of g (by decide) rfl (Nat.le_of_ble_eq_true rfl) ?_
  intro p l e s m below meth c A ls F hr hlocks w hl
  generalize ([.ref (a 12), .int x1] : List Value).toArray = args
  have hl : lv_has ls 2 [(0, .ref (a 12)), (1, .int x1)] := hl
  refine lv_aload_n F.x F.b dX0_append_0 rfl (lv_at hl 0 rfl) ?_
  refine rg F w cl0 12 (at_Sh_12 _ _ _) 1 (by decide) q138 rfl (v := .int (S.1 7)) rfl dX0_append_1 ?_
  refine lv_bipush (v := 16) F.x F.b dX0_append_4 (by decide) ?_
  refine lv_icmp_ge (tgt := 17) F.x F.b dX0_append_6 (by decide) (fun c1 => ?_) (fun c1 => ?_)
  · have h := it c1 h
    refine lv_bipush (v := (-4)) F.x F.b dX0_append_17 (by decide) ?_
    obtain ⟨z0, z1⟩ := sm2 (sm h)
    exact ei F w hr hlocks rfl z0 (by rw [← z1]) dX0_append_19
  · have h := ie c1 h
    refine lv_aload_n F.x F.b dX0_append_9 rfl (lv_at hl 0 rfl) ?_
    refine lv_iload_n F.x F.b dX0_append_10 rfl (lv_at hl 1 rfl) ?_
    obtain ⟨r2, hc3, h⟩ := bd h
    try dsimp only at h
    refine kVi0 F w (As := [.int x1]) (rest := []) (w1 := wSh G.2.1 a S) (t_X0_placeOf F.1 hc3) m_X0_placeOf v_X0_placeOf q1129 (ci := 4) (q0 := 12) rfl rfl rfl ⟨Nat.le_of_ble_eq_true rfl, Nat.le_of_ble_eq_true rfl⟩ rfl hl.1 rfl (Nat.le_of_ble_eq_true rfl) dX0_append_11 ⟨Nat.le_of_ble_eq_true rfl, Nat.le_of_ble_eq_true rfl⟩ (fun H locs w => ?_)
    refine lv_if_lt (tgt := 20) F.x F.b dX0_append_14 (by decide) (fun c4 => ?_) (fun c4 => ?_)
    · have h := it c4 h
      refine lv_aload_n F.x F.b dX0_append_20 rfl (lv_at hl 0 rfl) ?_
      refine rg F w cl0 12 (at_Sh_12 _ _ _) 0 (by decide) q135 rfl (v := .ref (a 13)) rfl dX0_append_21 ?_
      refine lv_aload_n F.x F.b dX0_append_24 rfl (lv_at hl 0 rfl) ?_
      refine rg F w cl0 12 (at_Sh_12 _ _ _) 1 (by decide) q138 rfl (v := .int (S.1 7)) rfl dX0_append_25 ?_
      refine lv_iload_n F.x F.b dX0_append_28 rfl (lv_at hl 1 rfl) ?_
      obtain ⟨g5, h⟩ := gd h
      refine ris F w (ws' := wSh G.2.1 a (wrA S 9 (S.1 7) x1)) 13 (n := 16) (f := S.2 9) (at_Sh_13 _ _ _) g5 (st_Sh_13 _ _ _ _ _) dX0_append_29 (fun H locs w => ?_)
      refine lv_aload_n F.x F.b dX0_append_30 rfl (lv_at hl 0 rfl) ?_
      refine lv_dup F.x F.b dX0_append_31 rfl ?_
      refine rg F w cl0 12 (at_Sh_12 _ _ _) 1 (by decide) q138 rfl (v := .int (S.1 7)) rfl dX0_append_32 ?_
      refine lv_iconst (v := 1) F.x F.b dX0_append_35 (by decide) ?_
      refine lv_iadd F.x F.b dX0_append_36 ?_
      refine rp F w (ws' := wSh G.2.1 a (wrI (wrA S 9 (S.1 7) x1) 7 ((S.1 7) + 1))) cl0 12 (at_Sh_12 _ _ _) 1 (by decide) q138 rfl rfl rfl rfl (Nat.le_of_ble_eq_true rfl) (pt_Sh_12_1 _ _ _ _) dX0_append_37 (fun H locs w => ?_)
      refine lv_aload_n F.x F.b dX0_append_40 rfl (lv_at hl 0 rfl) ?_
      refine rg F w cl0 12 (at_Sh_12 _ _ _) 1 (by decide) q138 rfl (v := .int ((S.1 7) + 1)) rfl dX0_append_41 ?_
      obtain ⟨z0, z1⟩ := sm2 (sm h)
      exact ei F w hr hlocks rfl z0 (by rw [← z1]) dX0_append_44
    · have h := ie c4 h
      refine lv_bipush (v := (-4)) F.x F.b dX0_append_17 (by decide) ?_
      obtain ⟨z0, z1⟩ := sm2 (sm h)
      exact ei F w hr hlocks rfl z0 (by rw [← z1]) dX0_append_19
set_option maxRecDepth 100000 in
set_option maxHeartbeats 4000000 in
theorem t_X0_remove {G : cG} (g : GOK G) {a : Nat → Nat} {S : Mem} {x1 : Int32} {S' : Mem} (h : f_X0_remove S x1 = some S') : CV G yX0_remove cX0_remove 4 0 0 [.ref (a 12), .int x1] (wSh G.2.1 a S) (wSh G.2.1 a S') := by
  unfold f_X0_remove at h
  refine CV.of g (by decide) rfl (Nat.le_of_ble_eq_true rfl) ?_
  intro p l e s m below meth c A ls F hr hlocks w hl
  generalize ([.ref (a 12), .int x1] : List Value).toArray = args
  have hl : lv_has ls 4 [(0, .ref (a 12)), (1, .int x1)] := hl
  have L4 : ∀ (x1 : Int32) {k : Int32 → Mem → Option (Mem)} (n : Nat) (x2 : Int32) (x3 : Int32) (S : Mem) (H : Heap) (locs : List Loc) (ls : Array Slot), Wd G A s.heap (wSh G.2.1 a S) H locs → lv_has ls 4 [(0, .ref (a 12)), (1, .int x1), (2, .int x2), (3, .int x3)] → f_X0_remove_L4 x1 k n x2 x3 S = some S' → (∀ (x2 : Int32) (S : Mem) (H : Heap) (locs : List Loc) (ls : Array Slot), Wd G A s.heap (wSh G.2.1 a S) H locs → lv_has ls 4 [(0, .ref (a 12)), (2, .int x2)] → k x2 S = some S' → W p l e { frames := 0, cells := 0, slots := 0, locals := 0 } s m args below meth c H locs 0 0 (QV G A (wSh G.2.1 a S') below args s) (F0 m 43 ls [])) → W p l e { frames := 0, cells := 0, slots := 0, locals := 0 } s m args below meth c H locs 0 0 (QV G A (wSh G.2.1 a S') below args s) (F0 m 4 ls []) := by
    clear h w hl
    intro x1 k n
    induction n with
    | zero =>
      intro x2 x3 S H locs ls w hl h hk
      exact nomatch (show (none : Option (Mem)) = some S' from h)
    | succ n ih =>
      intro x2 x3 S H locs ls w hl h hk
      rw [f_X0_remove_L4] at h
      refine lv_iload_n F.x F.b dX0_remove_4 rfl (lv_at hl 3 rfl) ?_
      refine lv_aload_n F.x F.b dX0_remove_5 rfl (lv_at hl 0 rfl) ?_
      refine rg F w cl0 12 (at_Sh_12 _ _ _) 1 (by decide) q138 rfl (v := .int (S.1 7)) rfl dX0_remove_6 ?_
      refine lv_icmp_ge (tgt := 43) F.x F.b dX0_remove_9 (by decide) (fun c1 => ?_) (fun c1 => ?_)
      · have h := it c1 h
        exact hk x2 S _ _ _ w (lv_sub hl [0, 2] rfl) h
      · have h := ie c1 h
        refine lv_aload_n F.x F.b dX0_remove_12 rfl (lv_at hl 0 rfl) ?_
        refine rg F w cl0 12 (at_Sh_12 _ _ _) 0 (by decide) q135 rfl (v := .ref (a 13)) rfl dX0_remove_13 ?_
        refine lv_iload_n F.x F.b dX0_remove_16 rfl (lv_at hl 3 rfl) ?_
        obtain ⟨g2, h⟩ := gd h
        refine ri F w 13 (n := 16) (f := S.2 9) (at_Sh_13 _ _ _) g2 dX0_remove_17 ?_
        refine lv_iload_n F.x F.b dX0_remove_18 rfl (lv_at hl 1 rfl) ?_
        refine lv_icmp_eq (tgt := 37) F.x F.b dX0_remove_19 (by decide) (fun c3 => ?_) (fun c3 => ?_)
        · have h := it c3 h
          refine lv_iinc (v := (x3 + 1)) (lv' := [(3, .int (x3 + 1)), (0, .ref (a 12)), (1, .int x1), (2, .int x2)]) F.x F.b dX0_remove_37 hl (k := 3) rfl rfl (by decide) rfl (fun ls hl => ?_)
          refine lv_goto (tgt := 4) F.x F.b dX0_remove_40 (by decide) ?_
          exact ih x2 (x3 + 1) S _ _ _ w (lv_sub hl [1, 2, 3, 0] rfl) h hk
        · have h := ie c3 h
          refine lv_aload_n F.x F.b dX0_remove_22 rfl (lv_at hl 0 rfl) ?_
          refine rg F w cl0 12 (at_Sh_12 _ _ _) 0 (by decide) q135 rfl (v := .ref (a 13)) rfl dX0_remove_23 ?_
          refine lv_iload_n F.x F.b dX0_remove_26 rfl (lv_at hl 2 rfl) ?_
          refine lv_aload_n F.x F.b dX0_remove_27 rfl (lv_at hl 0 rfl) ?_
          refine rg F w cl0 12 (at_Sh_12 _ _ _) 0 (by decide) q135 rfl (v := .ref (a 13)) rfl dX0_remove_28 ?_
          refine lv_iload_n F.x F.b dX0_remove_31 rfl (lv_at hl 3 rfl) ?_
          obtain ⟨g4, h⟩ := gd h
          refine ri F w 13 (n := 16) (f := S.2 9) (at_Sh_13 _ _ _) g4 dX0_remove_32 ?_
          obtain ⟨g5, h⟩ := gd h
          refine ris F w (ws' := wSh G.2.1 a (wrA S 9 x2 (S.2 9 (Int32.toNatClampNeg x3)))) 13 (n := 16) (f := S.2 9) (at_Sh_13 _ _ _) g5 (st_Sh_13 _ _ _ _ _) dX0_remove_33 (fun H locs w => ?_)
          refine lv_iinc (v := (x2 + 1)) (lv' := [(2, .int (x2 + 1)), (0, .ref (a 12)), (1, .int x1), (3, .int x3)]) F.x F.b dX0_remove_34 hl (k := 2) rfl rfl (by decide) rfl (fun ls hl => ?_)
          refine lv_iinc (v := (x3 + 1)) (lv' := [(3, .int (x3 + 1)), (2, .int (x2 + 1)), (0, .ref (a 12)), (1, .int x1)]) F.x F.b dX0_remove_37 hl (k := 3) rfl rfl (by decide) rfl (fun ls hl => ?_)
          refine lv_goto (tgt := 4) F.x F.b dX0_remove_40 (by decide) ?_
          exact ih (x2 + 1) (x3 + 1) (wrA S 9 x2 (S.2 9 (Int32.toNatClampNeg x3))) _ _ _ w (lv_sub hl [2, 3, 1, 0] rfl) h hk
  refine lv_iconst (v := 0) F.x F.b dX0_remove_0 (by decide) ?_
  refine lv_istore_n (lv' := [(2, .int 0), (0, .ref (a 12)), (1, .int x1)]) F.x F.b dX0_remove_1 rfl hl (by decide) rfl (fun ls hl => ?_)
  refine lv_iconst (v := 0) F.x F.b dX0_remove_2 (by decide) ?_
  refine lv_istore_n (lv' := [(3, .int 0), (2, .int 0), (0, .ref (a 12)), (1, .int x1)]) F.x F.b dX0_remove_3 rfl hl (by decide) rfl (fun ls hl => ?_)
  refine L4 x1 _ 0 0 S _ _ _ w (lv_sub hl [2, 3, 1, 0] rfl) h ?_
  intro y6_2 S_6 H locs ls w hl h
  try dsimp only at h
  refine lv_aload_n F.x F.b dX0_remove_43 rfl (lv_at hl 0 rfl) ?_
  refine lv_iload_n F.x F.b dX0_remove_44 rfl (lv_at hl 1 rfl) ?_
  refine rp F w (ws' := wSh G.2.1 a (wrI S_6 7 y6_2)) cl0 12 (at_Sh_12 _ _ _) 1 (by decide) q138 rfl rfl rfl rfl (Nat.le_of_ble_eq_true rfl) (pt_Sh_12_1 _ _ _ _) dX0_remove_45 (fun H locs w => ?_)
  have z0 := sm h
  exact ev F w hr hlocks (by rw [← z0]) dX0_remove_48
set_option maxRecDepth 100000 in
set_option maxHeartbeats 4000000 in
theorem t_X0_copyFrom {G : cG} (g : GOK G) {a : Nat → Nat} {S : Mem} {b : Nat → Nat} {T : Mem} {S' : Mem} (h : f_X0_copyFrom S T = some S') : CV G yX0_copyFrom cX0_copyFrom 3 0 0 [.ref (a 12), .ref (b 12)] (wSh G.2.1 a S ++ wSh G.2.1 b T) (wSh G.2.1 a S' ++ wSh G.2.1 b T) := by
  unfold f_X0_copyFrom at h
  refine CV.of g (by decide) rfl (Nat.le_of_ble_eq_true rfl) ?_
  intro p l e s m below meth c A ls F hr hlocks w hl
  generalize ([.ref (a 12), .ref (b 12)] : List Value).toArray = args
  have hl : lv_has ls 3 [(0, .ref (a 12)), (1, .ref (b 12))] := hl
  have L2 : ∀ (T : Mem) {k : Mem → Option (Mem)} (n : Nat) (x2 : Int32) (S : Mem) (H : Heap) (locs : List Loc) (ls : Array Slot), Wd G A s.heap (wSh G.2.1 a S ++ wSh G.2.1 b T) H locs → lv_has ls 3 [(0, .ref (a 12)), (1, .ref (b 12)), (2, .int x2)] → f_X0_copyFrom_L2 T k n x2 S = some S' → (∀ (S : Mem) (H : Heap) (locs : List Loc) (ls : Array Slot), Wd G A s.heap (wSh G.2.1 a S ++ wSh G.2.1 b T) H locs → lv_has ls 3 [(0, .ref (a 12)), (1, .ref (b 12))] → k S = some S' → W p l e { frames := 0, cells := 0, slots := 0, locals := 0 } s m args below meth c H locs 0 0 (QV G A (wSh G.2.1 a S' ++ wSh G.2.1 b T) below args s) (F0 m 28 ls [])) → W p l e { frames := 0, cells := 0, slots := 0, locals := 0 } s m args below meth c H locs 0 0 (QV G A (wSh G.2.1 a S' ++ wSh G.2.1 b T) below args s) (F0 m 2 ls []) := by
    clear h w hl
    intro T k n
    induction n with
    | zero =>
      intro x2 S H locs ls w hl h hk
      exact nomatch (show (none : Option (Mem)) = some S' from h)
    | succ n ih =>
      intro x2 S H locs ls w hl h hk
      rw [f_X0_copyFrom_L2] at h
      refine lv_iload_n F.x F.b dX0_copyFrom_2 rfl (lv_at hl 2 rfl) ?_
      refine lv_aload_n F.x F.b dX0_copyFrom_3 rfl (lv_at hl 1 rfl) ?_
      refine rg F w cl0 26 rfl 1 (by decide) q138 rfl (v := .int (T.1 7)) rfl dX0_copyFrom_4 ?_
      refine lv_icmp_ge (tgt := 28) F.x F.b dX0_copyFrom_7 (by decide) (fun c1 => ?_) (fun c1 => ?_)
      · have h := it c1 h
        exact hk S _ _ _ w (lv_sub hl [0, 1] rfl) h
      · have h := ie c1 h
        refine lv_aload_n F.x F.b dX0_copyFrom_10 rfl (lv_at hl 0 rfl) ?_
        refine rg F w cl0 12 rfl 0 (by decide) q135 rfl (v := .ref (a 13)) rfl dX0_copyFrom_11 ?_
        refine lv_iload_n F.x F.b dX0_copyFrom_14 rfl (lv_at hl 2 rfl) ?_
        refine lv_aload_n F.x F.b dX0_copyFrom_15 rfl (lv_at hl 1 rfl) ?_
        refine rg F w cl0 26 rfl 0 (by decide) q135 rfl (v := .ref (b 13)) rfl dX0_copyFrom_16 ?_
        refine lv_iload_n F.x F.b dX0_copyFrom_19 rfl (lv_at hl 2 rfl) ?_
        obtain ⟨g2, h⟩ := gd h
        refine ri F w 27 (n := 16) (f := T.2 9) rfl g2 dX0_copyFrom_20 ?_
        obtain ⟨g3, h⟩ := gd h
        refine ris F w (ws' := wSh G.2.1 a (wrA S 9 x2 (T.2 9 (Int32.toNatClampNeg x2))) ++ wSh G.2.1 b T) 13 (n := 16) (f := S.2 9) rfl g3 rfl dX0_copyFrom_21 (fun H locs w => ?_)
        refine lv_iinc (v := (x2 + 1)) (lv' := [(2, .int (x2 + 1)), (0, .ref (a 12)), (1, .ref (b 12))]) F.x F.b dX0_copyFrom_22 hl (k := 2) rfl rfl (by decide) rfl (fun ls hl => ?_)
        refine lv_goto (tgt := 2) F.x F.b dX0_copyFrom_25 (by decide) ?_
        exact ih (x2 + 1) (wrA S 9 x2 (T.2 9 (Int32.toNatClampNeg x2))) _ _ _ w (lv_sub hl [1, 2, 0] rfl) h hk
  refine lv_iconst (v := 0) F.x F.b dX0_copyFrom_0 (by decide) ?_
  refine lv_istore_n (lv' := [(2, .int 0), (0, .ref (a 12)), (1, .ref (b 12))]) F.x F.b dX0_copyFrom_1 rfl hl (by decide) rfl (fun ls hl => ?_)
  refine L2 T _ 0 S _ _ _ w (lv_sub hl [1, 2, 0] rfl) h ?_
  intro S_4 H locs ls w hl h
  try dsimp only at h
  refine lv_aload_n F.x F.b dX0_copyFrom_28 rfl (lv_at hl 0 rfl) ?_
  refine lv_aload_n F.x F.b dX0_copyFrom_29 rfl (lv_at hl 1 rfl) ?_
  refine rg F w cl0 26 rfl 1 (by decide) q138 rfl (v := .int (T.1 7)) rfl dX0_copyFrom_30 ?_
  refine rp F w (ws' := wSh G.2.1 a (wrI S_4 7 (T.1 7)) ++ wSh G.2.1 b T) cl0 12 rfl 1 (by decide) q138 rfl rfl rfl rfl (Nat.le_of_ble_eq_true rfl) rfl dX0_copyFrom_33 (fun H locs w => ?_)
  have z0 := sm h
  exact ev F w hr hlocks (by rw [← z0]) dX0_copyFrom_36

/-! printed by wip/p61/tools/emit.py: the walks -/
set_option maxRecDepth 100000 in
set_option maxHeartbeats 4000000 in
theorem t_X6_isKind {G : cG} (g : GOK G) {x0 : Int32} {r : Int32} (h : f_X6_isKind x0 = some r) : CI G yX6_isKind cX6_isKind 1 .boolean 0 0 [.int x0] ([]) ([]) r := by
  unfold f_X6_isKind at h
  refine CI.of g (by decide) rfl (Nat.le_of_ble_eq_true rfl) ?_
  intro p l e s m below meth c A ls F hr hlocks w hl
  generalize ([.int x0] : List Value).toArray = args
  have hl : lv_has ls 1 [(0, .int x0)] := hl
  refine lv_iload_n F.x F.b dX6_isKind_0 rfl (lv_at hl 0 rfl) ?_
  refine lv_bipush (v := 97) F.x F.b dX6_isKind_1 (by decide) ?_
  refine lv_icmp_lt (tgt := 16) F.x F.b dX6_isKind_3 (by decide) (fun c1 => ?_) (fun c1 => ?_)
  · have h := it c1 h
    refine lv_iconst (v := 0) F.x F.b dX6_isKind_16 (by decide) ?_
    have z0 := sm h
    exact ei F w hr hlocks rfl z0 rfl dX6_isKind_17
  · have h := ie c1 h
    refine lv_iload_n F.x F.b dX6_isKind_6 rfl (lv_at hl 0 rfl) ?_
    refine lv_bipush (v := 101) F.x F.b dX6_isKind_7 (by decide) ?_
    refine lv_icmp_gt (tgt := 16) F.x F.b dX6_isKind_9 (by decide) (fun c2 => ?_) (fun c2 => ?_)
    · have h := it c2 h
      refine lv_iconst (v := 0) F.x F.b dX6_isKind_16 (by decide) ?_
      have z0 := sm h
      exact ei F w hr hlocks rfl z0 rfl dX6_isKind_17
    · have h := ie c2 h
      refine lv_iconst (v := 1) F.x F.b dX6_isKind_12 (by decide) ?_
      refine lv_goto (tgt := 17) F.x F.b dX6_isKind_13 (by decide) ?_
      have z0 := sm h
      exact ei F w hr hlocks rfl z0 rfl dX6_isKind_17
set_option maxRecDepth 100000 in
set_option maxHeartbeats 4000000 in
theorem t_X6_isBay {G : cG} (g : GOK G) {x0 : Int32} {r : Int32} (h : f_X6_isBay x0 = some r) : CI G yX6_isBay cX6_isBay 1 .boolean 0 0 [.int x0] ([]) ([]) r := by
  unfold f_X6_isBay at h
  refine CI.of g (by decide) rfl (Nat.le_of_ble_eq_true rfl) ?_
  intro p l e s m below meth c A ls F hr hlocks w hl
  generalize ([.int x0] : List Value).toArray = args
  have hl : lv_has ls 1 [(0, .int x0)] := hl
  refine lv_iload_n F.x F.b dX6_isBay_0 rfl (lv_at hl 0 rfl) ?_
  refine lv_if_lt (tgt := 14) F.x F.b dX6_isBay_1 (by decide) (fun c1 => ?_) (fun c1 => ?_)
  · have h := it c1 h
    refine lv_iconst (v := 0) F.x F.b dX6_isBay_14 (by decide) ?_
    have z0 := sm h
    exact ei F w hr hlocks rfl z0 rfl dX6_isBay_15
  · have h := ie c1 h
    refine lv_iload_n F.x F.b dX6_isBay_4 rfl (lv_at hl 0 rfl) ?_
    refine lv_bipush (v := 24) F.x F.b dX6_isBay_5 (by decide) ?_
    refine lv_icmp_ge (tgt := 14) F.x F.b dX6_isBay_7 (by decide) (fun c2 => ?_) (fun c2 => ?_)
    · have h := it c2 h
      refine lv_iconst (v := 0) F.x F.b dX6_isBay_14 (by decide) ?_
      have z0 := sm h
      exact ei F w hr hlocks rfl z0 rfl dX6_isBay_15
    · have h := ie c2 h
      refine lv_iconst (v := 1) F.x F.b dX6_isBay_10 (by decide) ?_
      refine lv_goto (tgt := 15) F.x F.b dX6_isBay_11 (by decide) ?_
      have z0 := sm h
      exact ei F w hr hlocks rfl z0 rfl dX6_isBay_15
set_option maxRecDepth 100000 in
set_option maxHeartbeats 4000000 in
theorem t_X6_hasBay {G : cG} (g : GOK G) {x0 x1 : Int32} {r : Int32} (h : f_X6_hasBay x0 x1 = some r) : CI G yX6_hasBay cX6_hasBay 2 .boolean 1 20 [.int x0, .int x1] ([]) ([]) r := by
  unfold f_X6_hasBay at h
  refine CI.of g (by decide) rfl (Nat.le_of_ble_eq_true rfl) ?_
  intro p l e s m below meth c A ls F hr hlocks w hl
  generalize ([.int x0, .int x1] : List Value).toArray = args
  have hl : lv_has ls 2 [(0, .int x0), (1, .int x1)] := hl
  refine lv_iload_n F.x F.b dX6_hasBay_0 rfl (lv_at hl 1 rfl) ?_
  obtain ⟨r1, hc2, h⟩ := bd h
  try dsimp only at h
  refine kSi F w (t_X6_isBay F.1 hc2) m_X6_isBay v_X6_isBay q581 (As := [.int x1]) (rest := []) ⟨Nat.le_of_ble_eq_true rfl, Nat.le_of_ble_eq_true rfl⟩ rfl hl.1 rfl (Nat.le_of_ble_eq_true rfl) dX6_hasBay_1 ⟨Nat.le_of_ble_eq_true rfl, Nat.le_of_ble_eq_true rfl⟩ (fun H locs w => ?_)
  refine lv_if_eq (tgt := 19) F.x F.b dX6_hasBay_4 (by decide) (fun c3 => ?_) (fun c3 => ?_)
  · have h := it c3 h
    refine lv_iconst (v := 0) F.x F.b dX6_hasBay_19 (by decide) ?_
    have z0 := sm h
    exact ei F w hr hlocks rfl z0 rfl dX6_hasBay_20
  · have h := ie c3 h
    refine lv_iload_n F.x F.b dX6_hasBay_7 rfl (lv_at hl 0 rfl) ?_
    refine lv_iload_n F.x F.b dX6_hasBay_8 rfl (lv_at hl 1 rfl) ?_
    refine lv_ishr F.x F.b dX6_hasBay_9 ?_
    refine lv_iconst (v := 1) F.x F.b dX6_hasBay_10 (by decide) ?_
    refine lv_iand F.x F.b dX6_hasBay_11 ?_
    refine lv_if_eq (tgt := 19) F.x F.b dX6_hasBay_12 (by decide) (fun c4 => ?_) (fun c4 => ?_)
    · have h := it c4 h
      refine lv_iconst (v := 0) F.x F.b dX6_hasBay_19 (by decide) ?_
      have z0 := sm h
      exact ei F w hr hlocks rfl z0 rfl dX6_hasBay_20
    · have h := ie c4 h
      refine lv_iconst (v := 1) F.x F.b dX6_hasBay_15 (by decide) ?_
      refine lv_goto (tgt := 20) F.x F.b dX6_hasBay_16 (by decide) ?_
      have z0 := sm h
      exact ei F w hr hlocks rfl z0 rfl dX6_hasBay_20
set_option maxRecDepth 100000 in
set_option maxHeartbeats 4000000 in
theorem t_X3_slotWith {G : cG} (g : GOK G) {a : Nat → Nat} {S : Mem} {x1 : Int32} {r : Int32} (h : f_X3_slotWith S x1 = some r) : CI G yX3_slotWith cX3_slotWith 3 .int 0 0 [.ref (a 1), .int x1] (wSh G.2.1 a S) (wSh G.2.1 a S) r := by
  unfold f_X3_slotWith at h
  refine CI.of g (by decide) rfl (Nat.le_of_ble_eq_true rfl) ?_
  intro p l e s m below meth c A ls F hr hlocks w hl
  generalize ([.ref (a 1), .int x1] : List Value).toArray = args
  have hl : lv_has ls 3 [(0, .ref (a 1)), (1, .int x1)] := hl
  have L2 : ∀ (x1 : Int32) (S : Mem) {k : Option (Int32)} (n : Nat) (x2 : Int32) (H : Heap) (locs : List Loc) (ls : Array Slot), Wd G A s.heap (wSh G.2.1 a S) H locs → lv_has ls 3 [(0, .ref (a 1)), (1, .int x1), (2, .int x2)] → f_X3_slotWith_L2 x1 S k n x2 = some r → (∀ (H : Heap) (locs : List Loc) (ls : Array Slot), Wd G A s.heap (wSh G.2.1 a S) H locs → lv_has ls 3 [] → k = some r → W p l e { frames := 0, cells := 0, slots := 0, locals := 0 } s m args below meth c H locs 0 0 (QI G A (wSh G.2.1 a S) r below args s) (F0 m 28 ls [])) → W p l e { frames := 0, cells := 0, slots := 0, locals := 0 } s m args below meth c H locs 0 0 (QI G A (wSh G.2.1 a S) r below args s) (F0 m 2 ls []) := by
    clear h w hl
    intro x1 S k n
    induction n with
    | zero =>
      intro x2 H locs ls w hl h hk
      exact nomatch (show (none : Option (Int32)) = some r from h)
    | succ n ih =>
      intro x2 H locs ls w hl h hk
      rw [f_X3_slotWith_L2] at h
      refine lv_iload_n F.x F.b dX3_slotWith_2 rfl (lv_at hl 2 rfl) ?_
      refine lv_aload_n F.x F.b dX3_slotWith_3 rfl (lv_at hl 0 rfl) ?_
      refine rg F w cl3 1 (at_Sh_1 _ _ _) 7 (by decide) q84 rfl (v := .int (S.1 0)) rfl dX3_slotWith_4 ?_
      refine lv_icmp_ge (tgt := 28) F.x F.b dX3_slotWith_7 (by decide) (fun c1 => ?_) (fun c1 => ?_)
      · have h := it c1 h
        exact hk _ _ _ w (lv_sub hl [] rfl) h
      · have h := ie c1 h
        refine lv_aload_n F.x F.b dX3_slotWith_10 rfl (lv_at hl 0 rfl) ?_
        refine rg F w cl3 1 (at_Sh_1 _ _ _) 0 (by decide) q65 rfl (v := .ref (a 2)) rfl dX3_slotWith_11 ?_
        refine lv_iload_n F.x F.b dX3_slotWith_14 rfl (lv_at hl 2 rfl) ?_
        obtain ⟨g2, h⟩ := gd h
        refine ri F w 2 (n := 16) (f := S.2 0) (at_Sh_2 _ _ _) g2 dX3_slotWith_15 ?_
        refine lv_iload_n F.x F.b dX3_slotWith_16 rfl (lv_at hl 1 rfl) ?_
        refine lv_icmp_ne (tgt := 22) F.x F.b dX3_slotWith_17 (by decide) (fun c3 => ?_) (fun c3 => ?_)
        · have h := ie c3 h
          refine lv_iinc (v := (x2 + 1)) (lv' := [(2, .int (x2 + 1)), (0, .ref (a 1)), (1, .int x1)]) F.x F.b dX3_slotWith_22 hl (k := 2) rfl rfl (by decide) rfl (fun ls hl => ?_)
          refine lv_goto (tgt := 2) F.x F.b dX3_slotWith_25 (by decide) ?_
          exact ih (x2 + 1) _ _ _ w (lv_sub hl [1, 2, 0] rfl) h hk
        · have h := it c3 h
          refine lv_iload_n F.x F.b dX3_slotWith_20 rfl (lv_at hl 2 rfl) ?_
          have z0 := sm h
          exact ei F w hr hlocks rfl z0 rfl dX3_slotWith_21
  refine lv_iconst (v := 0) F.x F.b dX3_slotWith_0 (by decide) ?_
  refine lv_istore_n (lv' := [(2, .int 0), (0, .ref (a 1)), (1, .int x1)]) F.x F.b dX3_slotWith_1 rfl hl (by decide) rfl (fun ls hl => ?_)
  refine L2 x1 S _ 0 _ _ _ w (lv_sub hl [1, 2, 0] rfl) h ?_
  intro  H locs ls w hl h
  try dsimp only at h
  refine lv_iconst (v := (-1)) F.x F.b dX3_slotWith_28 (by decide) ?_
  have z0 := sm h
  exact ei F w hr hlocks rfl z0 rfl dX3_slotWith_29
set_option maxRecDepth 100000 in
set_option maxHeartbeats 4000000 in
theorem t_X3_slotAt {G : cG} (g : GOK G) {a : Nat → Nat} {S : Mem} {x1 : Int32} {r : Int32} (h : f_X3_slotAt S x1 = some r) : CI G yX3_slotAt cX3_slotAt 3 .int 0 0 [.ref (a 1), .int x1] (wSh G.2.1 a S) (wSh G.2.1 a S) r := by
  unfold f_X3_slotAt at h
  refine CI.of g (by decide) rfl (Nat.le_of_ble_eq_true rfl) ?_
  intro p l e s m below meth c A ls F hr hlocks w hl
  generalize ([.ref (a 1), .int x1] : List Value).toArray = args
  have hl : lv_has ls 3 [(0, .ref (a 1)), (1, .int x1)] := hl
  have L2 : ∀ (x1 : Int32) (S : Mem) {k : Option (Int32)} (n : Nat) (x2 : Int32) (H : Heap) (locs : List Loc) (ls : Array Slot), Wd G A s.heap (wSh G.2.1 a S) H locs → lv_has ls 3 [(0, .ref (a 1)), (1, .int x1), (2, .int x2)] → f_X3_slotAt_L2 x1 S k n x2 = some r → (∀ (H : Heap) (locs : List Loc) (ls : Array Slot), Wd G A s.heap (wSh G.2.1 a S) H locs → lv_has ls 3 [] → k = some r → W p l e { frames := 0, cells := 0, slots := 0, locals := 0 } s m args below meth c H locs 0 0 (QI G A (wSh G.2.1 a S) r below args s) (F0 m 28 ls [])) → W p l e { frames := 0, cells := 0, slots := 0, locals := 0 } s m args below meth c H locs 0 0 (QI G A (wSh G.2.1 a S) r below args s) (F0 m 2 ls []) := by
    clear h w hl
    intro x1 S k n
    induction n with
    | zero =>
      intro x2 H locs ls w hl h hk
      exact nomatch (show (none : Option (Int32)) = some r from h)
    | succ n ih =>
      intro x2 H locs ls w hl h hk
      rw [f_X3_slotAt_L2] at h
      refine lv_iload_n F.x F.b dX3_slotAt_2 rfl (lv_at hl 2 rfl) ?_
      refine lv_aload_n F.x F.b dX3_slotAt_3 rfl (lv_at hl 0 rfl) ?_
      refine rg F w cl3 1 (at_Sh_1 _ _ _) 7 (by decide) q84 rfl (v := .int (S.1 0)) rfl dX3_slotAt_4 ?_
      refine lv_icmp_ge (tgt := 28) F.x F.b dX3_slotAt_7 (by decide) (fun c1 => ?_) (fun c1 => ?_)
      · have h := it c1 h
        exact hk _ _ _ w (lv_sub hl [] rfl) h
      · have h := ie c1 h
        refine lv_aload_n F.x F.b dX3_slotAt_10 rfl (lv_at hl 0 rfl) ?_
        refine rg F w cl3 1 (at_Sh_1 _ _ _) 4 (by decide) q75 rfl (v := .ref (a 6)) rfl dX3_slotAt_11 ?_
        refine lv_iload_n F.x F.b dX3_slotAt_14 rfl (lv_at hl 2 rfl) ?_
        obtain ⟨g2, h⟩ := gd h
        refine ri F w 6 (n := 16) (f := S.2 4) (at_Sh_6 _ _ _) g2 dX3_slotAt_15 ?_
        refine lv_iload_n F.x F.b dX3_slotAt_16 rfl (lv_at hl 1 rfl) ?_
        refine lv_icmp_ne (tgt := 22) F.x F.b dX3_slotAt_17 (by decide) (fun c3 => ?_) (fun c3 => ?_)
        · have h := ie c3 h
          refine lv_iinc (v := (x2 + 1)) (lv' := [(2, .int (x2 + 1)), (0, .ref (a 1)), (1, .int x1)]) F.x F.b dX3_slotAt_22 hl (k := 2) rfl rfl (by decide) rfl (fun ls hl => ?_)
          refine lv_goto (tgt := 2) F.x F.b dX3_slotAt_25 (by decide) ?_
          exact ih (x2 + 1) _ _ _ w (lv_sub hl [1, 2, 0] rfl) h hk
        · have h := it c3 h
          refine lv_iload_n F.x F.b dX3_slotAt_20 rfl (lv_at hl 2 rfl) ?_
          have z0 := sm h
          exact ei F w hr hlocks rfl z0 rfl dX3_slotAt_21
  refine lv_iconst (v := 0) F.x F.b dX3_slotAt_0 (by decide) ?_
  refine lv_istore_n (lv' := [(2, .int 0), (0, .ref (a 1)), (1, .int x1)]) F.x F.b dX3_slotAt_1 rfl hl (by decide) rfl (fun ls hl => ?_)
  refine L2 x1 S _ 0 _ _ _ w (lv_sub hl [1, 2, 0] rfl) h ?_
  intro  H locs ls w hl h
  try dsimp only at h
  refine lv_iconst (v := (-1)) F.x F.b dX3_slotAt_28 (by decide) ?_
  have z0 := sm h
  exact ei F w hr hlocks rfl z0 rfl dX3_slotAt_29
set_option maxRecDepth 100000 in
set_option maxHeartbeats 4000000 in
theorem t_X3_valueOf {G : cG} (g : GOK G) {a : Nat → Nat} {S : Mem} {x1 : Int32} {r : Int32} (h : f_X3_valueOf S x1 = some r) : CI G yX3_valueOf cX3_valueOf 2 .int 0 0 [.ref (a 1), .int x1] (wSh G.2.1 a S) (wSh G.2.1 a S) r := by
  unfold f_X3_valueOf at h
  refine CI.of g (by decide) rfl (Nat.le_of_ble_eq_true rfl) ?_
  intro p l e s m below meth c A ls F hr hlocks w hl
  generalize ([.ref (a 1), .int x1] : List Value).toArray = args
  have hl : lv_has ls 2 [(0, .ref (a 1)), (1, .int x1)] := hl
  refine lv_aload_n F.x F.b dX3_valueOf_0 rfl (lv_at hl 0 rfl) ?_
  refine rg F w cl3 1 (at_Sh_1 _ _ _) 2 (by decide) q70 rfl (v := .ref (a 4)) rfl dX3_valueOf_1 ?_
  refine lv_iload_n F.x F.b dX3_valueOf_4 rfl (lv_at hl 1 rfl) ?_
  obtain ⟨g1, h⟩ := gd h
  refine ri F w 4 (n := 16) (f := S.2 2) (at_Sh_4 _ _ _) g1 dX3_valueOf_5 ?_
  refine lv_aload_n F.x F.b dX3_valueOf_6 rfl (lv_at hl 0 rfl) ?_
  refine rg F w cl3 1 (at_Sh_1 _ _ _) 3 (by decide) q73 rfl (v := .ref (a 5)) rfl dX3_valueOf_7 ?_
  refine lv_iload_n F.x F.b dX3_valueOf_10 rfl (lv_at hl 1 rfl) ?_
  obtain ⟨g2, h⟩ := gd h
  refine ri F w 5 (n := 16) (f := S.2 3) (at_Sh_5 _ _ _) g2 dX3_valueOf_11 ?_
  refine lv_imul F.x F.b dX3_valueOf_12 ?_
  have z0 := sm h
  exact ei F w hr hlocks rfl z0 rfl dX3_valueOf_13
set_option maxRecDepth 100000 in
set_option maxHeartbeats 4000000 in
theorem t_X3_sumOfValues {G : cG} (g : GOK G) {a : Nat → Nat} {S : Mem} {r : Int32} (h : f_X3_sumOfValues S = some r) : CI G yX3_sumOfValues cX3_sumOfValues 3 .int 1 21 [.ref (a 1)] (wSh G.2.1 a S) (wSh G.2.1 a S) r := by
  unfold f_X3_sumOfValues at h
  refine CI.of g (by decide) rfl (Nat.le_of_ble_eq_true rfl) ?_
  intro p l e s m below meth c A ls F hr hlocks w hl
  generalize ([.ref (a 1)] : List Value).toArray = args
  have hl : lv_has ls 3 [(0, .ref (a 1))] := hl
  have L4 : ∀ (S : Mem) {k : Int32 → Option (Int32)} (n : Nat) (x1 : Int32) (x2 : Int32) (H : Heap) (locs : List Loc) (ls : Array Slot), Wd G A s.heap (wSh G.2.1 a S) H locs → lv_has ls 3 [(0, .ref (a 1)), (1, .int x1), (2, .int x2)] → f_X3_sumOfValues_L4 S k n x1 x2 = some r → (∀ (x1 : Int32) (H : Heap) (locs : List Loc) (ls : Array Slot), Wd G A s.heap (wSh G.2.1 a S) H locs → lv_has ls 3 [(1, .int x1)] → k x1 = some r → W p l e { frames := 1, cells := 0, slots := 0, locals := 21 } s m args below meth c H locs 0 0 (QI G A (wSh G.2.1 a S) r below args s) (F0 m 26 ls [])) → W p l e { frames := 1, cells := 0, slots := 0, locals := 21 } s m args below meth c H locs 0 0 (QI G A (wSh G.2.1 a S) r below args s) (F0 m 4 ls []) := by
    clear h w hl
    intro S k n
    induction n with
    | zero =>
      intro x1 x2 H locs ls w hl h hk
      exact nomatch (show (none : Option (Int32)) = some r from h)
    | succ n ih =>
      intro x1 x2 H locs ls w hl h hk
      rw [f_X3_sumOfValues_L4] at h
      refine lv_iload_n F.x F.b dX3_sumOfValues_4 rfl (lv_at hl 2 rfl) ?_
      refine lv_aload_n F.x F.b dX3_sumOfValues_5 rfl (lv_at hl 0 rfl) ?_
      refine rg F w cl3 1 (at_Sh_1 _ _ _) 7 (by decide) q84 rfl (v := .int (S.1 0)) rfl dX3_sumOfValues_6 ?_
      refine lv_icmp_ge (tgt := 26) F.x F.b dX3_sumOfValues_9 (by decide) (fun c1 => ?_) (fun c1 => ?_)
      · have h := it c1 h
        exact hk x1 _ _ _ w (lv_sub hl [1] rfl) h
      · have h := ie c1 h
        refine lv_iload_n F.x F.b dX3_sumOfValues_12 rfl (lv_at hl 1 rfl) ?_
        refine lv_aload_n F.x F.b dX3_sumOfValues_13 rfl (lv_at hl 0 rfl) ?_
        refine lv_iload_n F.x F.b dX3_sumOfValues_14 rfl (lv_at hl 2 rfl) ?_
        obtain ⟨r2, hc3, h⟩ := bd h
        try dsimp only at h
        refine kVi0 F w (As := [.int x2]) (rest := [.int x1]) (w1 := wSh G.2.1 a S) (t_X3_valueOf F.1 hc3) m_X3_valueOf v_X3_valueOf q1407 (ci := 7) (q0 := 1) rfl rfl rfl ⟨Nat.le_of_ble_eq_true rfl, Nat.le_of_ble_eq_true rfl⟩ rfl hl.1 rfl (Nat.le_of_ble_eq_true rfl) dX3_sumOfValues_15 ⟨Nat.le_of_ble_eq_true rfl, Nat.le_of_ble_eq_true rfl⟩ (fun H locs w => ?_)
        refine lv_iadd F.x F.b dX3_sumOfValues_18 ?_
        refine lv_istore_n (lv' := [(1, .int (x1 + r2)), (0, .ref (a 1)), (2, .int x2)]) F.x F.b dX3_sumOfValues_19 rfl hl (by decide) rfl (fun ls hl => ?_)
        refine lv_iinc (v := (x2 + 1)) (lv' := [(2, .int (x2 + 1)), (1, .int (x1 + r2)), (0, .ref (a 1))]) F.x F.b dX3_sumOfValues_20 hl (k := 2) rfl rfl (by decide) rfl (fun ls hl => ?_)
        refine lv_goto (tgt := 4) F.x F.b dX3_sumOfValues_23 (by decide) ?_
        exact ih (x1 + r2) (x2 + 1) _ _ _ w (lv_sub hl [2, 1, 0] rfl) h hk
  refine lv_iconst (v := 0) F.x F.b dX3_sumOfValues_0 (by decide) ?_
  refine lv_istore_n (lv' := [(1, .int 0), (0, .ref (a 1))]) F.x F.b dX3_sumOfValues_1 rfl hl (by decide) rfl (fun ls hl => ?_)
  refine lv_iconst (v := 0) F.x F.b dX3_sumOfValues_2 (by decide) ?_
  refine lv_istore_n (lv' := [(2, .int 0), (1, .int 0), (0, .ref (a 1))]) F.x F.b dX3_sumOfValues_3 rfl hl (by decide) rfl (fun ls hl => ?_)
  refine L4 S _ 0 0 _ _ _ w (lv_sub hl [2, 1, 0] rfl) h ?_
  intro y4_1 H locs ls w hl h
  try dsimp only at h
  refine lv_iload_n F.x F.b dX3_sumOfValues_26 rfl (lv_at hl 0 rfl) ?_
  have z0 := sm h
  exact ei F w hr hlocks rfl z0 rfl dX3_sumOfValues_27
set_option maxRecDepth 100000 in
set_option maxHeartbeats 4000000 in
theorem t_X3_quantityOf {G : cG} (g : GOK G) {a : Nat → Nat} {S : Mem} {x1 : Int32} {r : Int32} (h : f_X3_quantityOf S x1 = some r) : CI G yX3_quantityOf cX3_quantityOf 4 .int 0 0 [.ref (a 1), .int x1] (wSh G.2.1 a S) (wSh G.2.1 a S) r := by
  unfold f_X3_quantityOf at h
  refine CI.of g (by decide) rfl (Nat.le_of_ble_eq_true rfl) ?_
  intro p l e s m below meth c A ls F hr hlocks w hl
  generalize ([.ref (a 1), .int x1] : List Value).toArray = args
  have hl : lv_has ls 4 [(0, .ref (a 1)), (1, .int x1)] := hl
  have L4 : ∀ (x1 : Int32) (S : Mem) {k : Int32 → Option (Int32)} (n : Nat) (x2 : Int32) (x3 : Int32) (H : Heap) (locs : List Loc) (ls : Array Slot), Wd G A s.heap (wSh G.2.1 a S) H locs → lv_has ls 4 [(0, .ref (a 1)), (1, .int x1), (2, .int x2), (3, .int x3)] → f_X3_quantityOf_L4 x1 S k n x2 x3 = some r → (∀ (x2 : Int32) (H : Heap) (locs : List Loc) (ls : Array Slot), Wd G A s.heap (wSh G.2.1 a S) H locs → lv_has ls 4 [(2, .int x2)] → k x2 = some r → W p l e { frames := 0, cells := 0, slots := 0, locals := 0 } s m args below meth c H locs 0 0 (QI G A (wSh G.2.1 a S) r below args s) (F0 m 37 ls [])) → W p l e { frames := 0, cells := 0, slots := 0, locals := 0 } s m args below meth c H locs 0 0 (QI G A (wSh G.2.1 a S) r below args s) (F0 m 4 ls []) := by
    clear h w hl
    intro x1 S k n
    induction n with
    | zero =>
      intro x2 x3 H locs ls w hl h hk
      exact nomatch (show (none : Option (Int32)) = some r from h)
    | succ n ih =>
      intro x2 x3 H locs ls w hl h hk
      rw [f_X3_quantityOf_L4] at h
      refine lv_iload_n F.x F.b dX3_quantityOf_4 rfl (lv_at hl 3 rfl) ?_
      refine lv_aload_n F.x F.b dX3_quantityOf_5 rfl (lv_at hl 0 rfl) ?_
      refine rg F w cl3 1 (at_Sh_1 _ _ _) 7 (by decide) q84 rfl (v := .int (S.1 0)) rfl dX3_quantityOf_6 ?_
      refine lv_icmp_ge (tgt := 37) F.x F.b dX3_quantityOf_9 (by decide) (fun c1 => ?_) (fun c1 => ?_)
      · have h := it c1 h
        exact hk x2 _ _ _ w (lv_sub hl [2] rfl) h
      · have h := ie c1 h
        refine lv_aload_n F.x F.b dX3_quantityOf_12 rfl (lv_at hl 0 rfl) ?_
        refine rg F w cl3 1 (at_Sh_1 _ _ _) 1 (by decide) q68 rfl (v := .ref (a 3)) rfl dX3_quantityOf_13 ?_
        refine lv_iload_n F.x F.b dX3_quantityOf_16 rfl (lv_at hl 3 rfl) ?_
        obtain ⟨g2, h⟩ := gd h
        refine rc F w 3 (n := 16) (f := S.2 1) (at_Sh_3 _ _ _) g2 dX3_quantityOf_17 ?_
        refine lv_iload_n F.x F.b dX3_quantityOf_18 rfl (lv_at hl 1 rfl) ?_
        refine lv_icmp_ne (tgt := 31) F.x F.b dX3_quantityOf_19 (by decide) (fun c3 => ?_) (fun c3 => ?_)
        · have h := ie c3 h
          refine lv_iinc (v := (x3 + 1)) (lv' := [(3, .int (x3 + 1)), (0, .ref (a 1)), (1, .int x1), (2, .int x2)]) F.x F.b dX3_quantityOf_31 hl (k := 3) rfl rfl (by decide) rfl (fun ls hl => ?_)
          refine lv_goto (tgt := 4) F.x F.b dX3_quantityOf_34 (by decide) ?_
          exact ih x2 (x3 + 1) _ _ _ w (lv_sub hl [1, 2, 3, 0] rfl) h hk
        · have h := it c3 h
          refine lv_iload_n F.x F.b dX3_quantityOf_22 rfl (lv_at hl 2 rfl) ?_
          refine lv_aload_n F.x F.b dX3_quantityOf_23 rfl (lv_at hl 0 rfl) ?_
          refine rg F w cl3 1 (at_Sh_1 _ _ _) 2 (by decide) q70 rfl (v := .ref (a 4)) rfl dX3_quantityOf_24 ?_
          refine lv_iload_n F.x F.b dX3_quantityOf_27 rfl (lv_at hl 3 rfl) ?_
          obtain ⟨g4, h⟩ := gd h
          refine ri F w 4 (n := 16) (f := S.2 2) (at_Sh_4 _ _ _) g4 dX3_quantityOf_28 ?_
          refine lv_iadd F.x F.b dX3_quantityOf_29 ?_
          refine lv_istore_n (lv' := [(2, .int (x2 + (S.2 2 (Int32.toNatClampNeg x3)))), (0, .ref (a 1)), (1, .int x1), (3, .int x3)]) F.x F.b dX3_quantityOf_30 rfl hl (by decide) rfl (fun ls hl => ?_)
          refine lv_iinc (v := (x3 + 1)) (lv' := [(3, .int (x3 + 1)), (2, .int (x2 + (S.2 2 (Int32.toNatClampNeg x3)))), (0, .ref (a 1)), (1, .int x1)]) F.x F.b dX3_quantityOf_31 hl (k := 3) rfl rfl (by decide) rfl (fun ls hl => ?_)
          refine lv_goto (tgt := 4) F.x F.b dX3_quantityOf_34 (by decide) ?_
          exact ih (x2 + (S.2 2 (Int32.toNatClampNeg x3))) (x3 + 1) _ _ _ w (lv_sub hl [2, 3, 1, 0] rfl) h hk
  refine lv_iconst (v := 0) F.x F.b dX3_quantityOf_0 (by decide) ?_
  refine lv_istore_n (lv' := [(2, .int 0), (0, .ref (a 1)), (1, .int x1)]) F.x F.b dX3_quantityOf_1 rfl hl (by decide) rfl (fun ls hl => ?_)
  refine lv_iconst (v := 0) F.x F.b dX3_quantityOf_2 (by decide) ?_
  refine lv_istore_n (lv' := [(3, .int 0), (2, .int 0), (0, .ref (a 1)), (1, .int x1)]) F.x F.b dX3_quantityOf_3 rfl hl (by decide) rfl (fun ls hl => ?_)
  refine L4 x1 S _ 0 0 _ _ _ w (lv_sub hl [2, 3, 1, 0] rfl) h ?_
  intro y5_2 H locs ls w hl h
  try dsimp only at h
  refine lv_iload_n F.x F.b dX3_quantityOf_37 rfl (lv_at hl 0 rfl) ?_
  have z0 := sm h
  exact ei F w hr hlocks rfl z0 rfl dX3_quantityOf_38
set_option maxRecDepth 100000 in
set_option maxHeartbeats 4000000 in
theorem t_X3_countAhead {G : cG} (g : GOK G) {a : Nat → Nat} {S : Mem} {x1 : Int32} {r : Int32} (h : f_X3_countAhead S x1 = some r) : CI G yX3_countAhead cX3_countAhead 6 .int 1 21 [.ref (a 1), .int x1] (wSh G.2.1 a S) (wSh G.2.1 a S) r := by
  unfold f_X3_countAhead at h
  refine CI.of g (by decide) rfl (Nat.le_of_ble_eq_true rfl) ?_
  intro p l e s m below meth c A ls F hr hlocks w hl
  generalize ([.ref (a 1), .int x1] : List Value).toArray = args
  have hl : lv_has ls 6 [(0, .ref (a 1)), (1, .int x1)] := hl
  have L11 : ∀ (x1 : Int32) (x2 : Int32) (S : Mem) {k : Int32 → Option (Int32)} (n : Nat) (x3 : Int32) (x4 : Int32) (H : Heap) (locs : List Loc) (ls : Array Slot), Wd G A s.heap (wSh G.2.1 a S) H locs → lv_has ls 6 [(0, .ref (a 1)), (1, .int x1), (2, .int x2), (3, .int x3), (4, .int x4)] → f_X3_countAhead_L11 x1 x2 S k n x3 x4 = some r → (∀ (x3 : Int32) (H : Heap) (locs : List Loc) (ls : Array Slot), Wd G A s.heap (wSh G.2.1 a S) H locs → lv_has ls 6 [(3, .int x3)] → k x3 = some r → W p l e { frames := 1, cells := 0, slots := 0, locals := 21 } s m args below meth c H locs 0 0 (QI G A (wSh G.2.1 a S) r below args s) (F0 m 55 ls [])) → W p l e { frames := 1, cells := 0, slots := 0, locals := 21 } s m args below meth c H locs 0 0 (QI G A (wSh G.2.1 a S) r below args s) (F0 m 11 ls []) := by
    clear h w hl
    intro x1 x2 S k n
    induction n with
    | zero =>
      intro x3 x4 H locs ls w hl h hk
      exact nomatch (show (none : Option (Int32)) = some r from h)
    | succ n ih =>
      intro x3 x4 H locs ls w hl h hk
      rw [f_X3_countAhead_L11] at h
      refine lv_iload F.x F.b dX3_countAhead_11 (lv_at hl 4 rfl) ?_
      refine lv_aload_n F.x F.b dX3_countAhead_13 rfl (lv_at hl 0 rfl) ?_
      refine rg F w cl3 1 (at_Sh_1 _ _ _) 7 (by decide) q84 rfl (v := .int (S.1 0)) rfl dX3_countAhead_14 ?_
      refine lv_icmp_ge (tgt := 55) F.x F.b dX3_countAhead_17 (by decide) (fun c3 => ?_) (fun c3 => ?_)
      · have h := it c3 h
        exact hk x3 _ _ _ w (lv_sub hl [3] rfl) h
      · have h := ie c3 h
        refine lv_aload_n F.x F.b dX3_countAhead_20 rfl (lv_at hl 0 rfl) ?_
        refine lv_iload F.x F.b dX3_countAhead_21 (lv_at hl 4 rfl) ?_
        obtain ⟨r4, hc5, h⟩ := bd h
        try dsimp only at h
        refine kVi0 F w (As := [.int x4]) (rest := []) (w1 := wSh G.2.1 a S) (t_X3_valueOf F.1 hc5) m_X3_valueOf v_X3_valueOf q1407 (ci := 7) (q0 := 1) rfl rfl rfl ⟨Nat.le_of_ble_eq_true rfl, Nat.le_of_ble_eq_true rfl⟩ rfl hl.1 rfl (Nat.le_of_ble_eq_true rfl) dX3_countAhead_23 ⟨Nat.le_of_ble_eq_true rfl, Nat.le_of_ble_eq_true rfl⟩ (fun H locs w => ?_)
        refine lv_istore (lv' := [(5, .int r4), (0, .ref (a 1)), (1, .int x1), (2, .int x2), (3, .int x3), (4, .int x4)]) F.x F.b dX3_countAhead_26 hl (by decide) rfl (fun ls hl => ?_)
        refine lv_iload F.x F.b dX3_countAhead_28 (lv_at hl 0 rfl) ?_
        refine lv_iload_n F.x F.b dX3_countAhead_30 rfl (lv_at hl 3 rfl) ?_
        refine lv_icmp_gt (tgt := 46) F.x F.b dX3_countAhead_31 (by decide) (fun c6 => ?_) (fun c6 => ?_)
        · have h := it c6 h
          refine lv_iinc (v := (x3 + 1)) (lv' := [(3, .int (x3 + 1)), (5, .int r4), (0, .ref (a 1)), (1, .int x1), (2, .int x2), (4, .int x4)]) F.x F.b dX3_countAhead_46 hl (k := 4) rfl rfl (by decide) rfl (fun ls hl => ?_)
          refine lv_iinc (v := (x4 + 1)) (lv' := [(4, .int (x4 + 1)), (3, .int (x3 + 1)), (5, .int r4), (0, .ref (a 1)), (1, .int x1), (2, .int x2)]) F.x F.b dX3_countAhead_49 hl (k := 5) rfl rfl (by decide) rfl (fun ls hl => ?_)
          refine lv_goto (tgt := 11) F.x F.b dX3_countAhead_52 (by decide) ?_
          exact ih (x3 + 1) (x4 + 1) _ _ _ w (lv_sub hl [3, 4, 5, 1, 0] rfl) h hk
        · have h := ie c6 h
          refine lv_iload F.x F.b dX3_countAhead_34 (lv_at hl 0 rfl) ?_
          refine lv_iload_n F.x F.b dX3_countAhead_36 rfl (lv_at hl 3 rfl) ?_
          refine lv_icmp_ne (tgt := 49) F.x F.b dX3_countAhead_37 (by decide) (fun c7 => ?_) (fun c7 => ?_)
          · have h := ie c7 h
            refine lv_iinc (v := (x4 + 1)) (lv' := [(4, .int (x4 + 1)), (5, .int r4), (0, .ref (a 1)), (1, .int x1), (2, .int x2), (3, .int x3)]) F.x F.b dX3_countAhead_49 hl (k := 5) rfl rfl (by decide) rfl (fun ls hl => ?_)
            refine lv_goto (tgt := 11) F.x F.b dX3_countAhead_52 (by decide) ?_
            exact ih x3 (x4 + 1) _ _ _ w (lv_sub hl [2, 3, 4, 5, 0] rfl) h hk
          · have h := it c7 h
            refine lv_iload F.x F.b dX3_countAhead_40 (lv_at hl 5 rfl) ?_
            refine lv_iload_n F.x F.b dX3_countAhead_42 rfl (lv_at hl 2 rfl) ?_
            refine lv_icmp_ge (tgt := 49) F.x F.b dX3_countAhead_43 (by decide) (fun c8 => ?_) (fun c8 => ?_)
            · have h := it c8 h
              refine lv_iinc (v := (x4 + 1)) (lv' := [(4, .int (x4 + 1)), (5, .int r4), (0, .ref (a 1)), (1, .int x1), (2, .int x2), (3, .int x3)]) F.x F.b dX3_countAhead_49 hl (k := 5) rfl rfl (by decide) rfl (fun ls hl => ?_)
              refine lv_goto (tgt := 11) F.x F.b dX3_countAhead_52 (by decide) ?_
              exact ih x3 (x4 + 1) _ _ _ w (lv_sub hl [2, 3, 4, 5, 0] rfl) h hk
            · have h := ie c8 h
              refine lv_iinc (v := (x3 + 1)) (lv' := [(3, .int (x3 + 1)), (5, .int r4), (0, .ref (a 1)), (1, .int x1), (2, .int x2), (4, .int x4)]) F.x F.b dX3_countAhead_46 hl (k := 4) rfl rfl (by decide) rfl (fun ls hl => ?_)
              refine lv_iinc (v := (x4 + 1)) (lv' := [(4, .int (x4 + 1)), (3, .int (x3 + 1)), (5, .int r4), (0, .ref (a 1)), (1, .int x1), (2, .int x2)]) F.x F.b dX3_countAhead_49 hl (k := 5) rfl rfl (by decide) rfl (fun ls hl => ?_)
              refine lv_goto (tgt := 11) F.x F.b dX3_countAhead_52 (by decide) ?_
              exact ih (x3 + 1) (x4 + 1) _ _ _ w (lv_sub hl [3, 4, 5, 1, 0] rfl) h hk
  refine lv_aload_n F.x F.b dX3_countAhead_0 rfl (lv_at hl 0 rfl) ?_
  refine lv_iload_n F.x F.b dX3_countAhead_1 rfl (lv_at hl 1 rfl) ?_
  obtain ⟨r1, hc2, h⟩ := bd h
  try dsimp only at h
  refine kVi0 F w (As := [.int x1]) (rest := []) (w1 := wSh G.2.1 a S) (t_X3_valueOf F.1 hc2) m_X3_valueOf v_X3_valueOf q1407 (ci := 7) (q0 := 1) rfl rfl rfl ⟨Nat.le_of_ble_eq_true rfl, Nat.le_of_ble_eq_true rfl⟩ rfl hl.1 rfl (Nat.le_of_ble_eq_true rfl) dX3_countAhead_2 ⟨Nat.le_of_ble_eq_true rfl, Nat.le_of_ble_eq_true rfl⟩ (fun H locs w => ?_)
  refine lv_istore_n (lv' := [(2, .int r1), (0, .ref (a 1)), (1, .int x1)]) F.x F.b dX3_countAhead_5 rfl hl (by decide) rfl (fun ls hl => ?_)
  refine lv_iconst (v := 0) F.x F.b dX3_countAhead_6 (by decide) ?_
  refine lv_istore_n (lv' := [(3, .int 0), (2, .int r1), (0, .ref (a 1)), (1, .int x1)]) F.x F.b dX3_countAhead_7 rfl hl (by decide) rfl (fun ls hl => ?_)
  refine lv_iconst (v := 0) F.x F.b dX3_countAhead_8 (by decide) ?_
  refine lv_istore (lv' := [(4, .int 0), (3, .int 0), (2, .int r1), (0, .ref (a 1)), (1, .int x1)]) F.x F.b dX3_countAhead_9 hl (by decide) rfl (fun ls hl => ?_)
  refine L11 x1 r1 S _ 0 0 _ _ _ w (lv_sub hl [3, 4, 2, 1, 0] rfl) h ?_
  intro y9_3 H locs ls w hl h
  try dsimp only at h
  refine lv_iload_n F.x F.b dX3_countAhead_55 rfl (lv_at hl 0 rfl) ?_
  have z0 := sm h
  exact ei F w hr hlocks rfl z0 rfl dX3_countAhead_56
set_option maxRecDepth 100000 in
set_option maxHeartbeats 4000000 in
theorem t_X3_slotByValue {G : cG} (g : GOK G) {a : Nat → Nat} {S : Mem} {x1 : Int32} {r : Int32} (h : f_X3_slotByValue S x1 = some r) : CI G yX3_slotByValue cX3_slotByValue 3 .int 2 46 [.ref (a 1), .int x1] (wSh G.2.1 a S) (wSh G.2.1 a S) r := by
  unfold f_X3_slotByValue at h
  refine CI.of g (by decide) rfl (Nat.le_of_ble_eq_true rfl) ?_
  intro p l e s m below meth c A ls F hr hlocks w hl
  generalize ([.ref (a 1), .int x1] : List Value).toArray = args
  have hl : lv_has ls 3 [(0, .ref (a 1)), (1, .int x1)] := hl
  have L2 : ∀ (x1 : Int32) (S : Mem) {k : Option (Int32)} (n : Nat) (x2 : Int32) (H : Heap) (locs : List Loc) (ls : Array Slot), Wd G A s.heap (wSh G.2.1 a S) H locs → lv_has ls 3 [(0, .ref (a 1)), (1, .int x1), (2, .int x2)] → f_X3_slotByValue_L2 x1 S k n x2 = some r → (∀ (H : Heap) (locs : List Loc) (ls : Array Slot), Wd G A s.heap (wSh G.2.1 a S) H locs → lv_has ls 3 [] → k = some r → W p l e { frames := 2, cells := 0, slots := 0, locals := 46 } s m args below meth c H locs 0 0 (QI G A (wSh G.2.1 a S) r below args s) (F0 m 27 ls [])) → W p l e { frames := 2, cells := 0, slots := 0, locals := 46 } s m args below meth c H locs 0 0 (QI G A (wSh G.2.1 a S) r below args s) (F0 m 2 ls []) := by
    clear h w hl
    intro x1 S k n
    induction n with
    | zero =>
      intro x2 H locs ls w hl h hk
      exact nomatch (show (none : Option (Int32)) = some r from h)
    | succ n ih =>
      intro x2 H locs ls w hl h hk
      rw [f_X3_slotByValue_L2] at h
      refine lv_iload_n F.x F.b dX3_slotByValue_2 rfl (lv_at hl 2 rfl) ?_
      refine lv_aload_n F.x F.b dX3_slotByValue_3 rfl (lv_at hl 0 rfl) ?_
      refine rg F w cl3 1 (at_Sh_1 _ _ _) 7 (by decide) q84 rfl (v := .int (S.1 0)) rfl dX3_slotByValue_4 ?_
      refine lv_icmp_ge (tgt := 27) F.x F.b dX3_slotByValue_7 (by decide) (fun c1 => ?_) (fun c1 => ?_)
      · have h := it c1 h
        exact hk _ _ _ w (lv_sub hl [] rfl) h
      · have h := ie c1 h
        refine lv_aload_n F.x F.b dX3_slotByValue_10 rfl (lv_at hl 0 rfl) ?_
        refine lv_iload_n F.x F.b dX3_slotByValue_11 rfl (lv_at hl 2 rfl) ?_
        obtain ⟨r2, hc3, h⟩ := bd h
        try dsimp only at h
        refine kVi0 F w (As := [.int x2]) (rest := []) (w1 := wSh G.2.1 a S) (t_X3_countAhead F.1 hc3) m_X3_countAhead v_X3_countAhead q1403 (ci := 7) (q0 := 1) rfl rfl rfl ⟨Nat.le_of_ble_eq_true rfl, Nat.le_of_ble_eq_true rfl⟩ rfl hl.1 rfl (Nat.le_of_ble_eq_true rfl) dX3_slotByValue_12 ⟨Nat.le_of_ble_eq_true rfl, Nat.le_of_ble_eq_true rfl⟩ (fun H locs w => ?_)
        refine lv_iload_n F.x F.b dX3_slotByValue_15 rfl (lv_at hl 1 rfl) ?_
        refine lv_icmp_ne (tgt := 21) F.x F.b dX3_slotByValue_16 (by decide) (fun c4 => ?_) (fun c4 => ?_)
        · have h := ie c4 h
          refine lv_iinc (v := (x2 + 1)) (lv' := [(2, .int (x2 + 1)), (0, .ref (a 1)), (1, .int x1)]) F.x F.b dX3_slotByValue_21 hl (k := 2) rfl rfl (by decide) rfl (fun ls hl => ?_)
          refine lv_goto (tgt := 2) F.x F.b dX3_slotByValue_24 (by decide) ?_
          exact ih (x2 + 1) _ _ _ w (lv_sub hl [1, 2, 0] rfl) h hk
        · have h := it c4 h
          refine lv_iload_n F.x F.b dX3_slotByValue_19 rfl (lv_at hl 2 rfl) ?_
          have z0 := sm h
          exact ei F w hr hlocks rfl z0 rfl dX3_slotByValue_20
  refine lv_iconst (v := 0) F.x F.b dX3_slotByValue_0 (by decide) ?_
  refine lv_istore_n (lv' := [(2, .int 0), (0, .ref (a 1)), (1, .int x1)]) F.x F.b dX3_slotByValue_1 rfl hl (by decide) rfl (fun ls hl => ?_)
  refine L2 x1 S _ 0 _ _ _ w (lv_sub hl [1, 2, 0] rfl) h ?_
  intro  H locs ls w hl h
  try dsimp only at h
  refine lv_iconst (v := (-1)) F.x F.b dX3_slotByValue_27 (by decide) ?_
  have z0 := sm h
  exact ei F w hr hlocks rfl z0 rfl dX3_slotByValue_28
set_option maxRecDepth 100000 in
set_option maxHeartbeats 4000000 in
theorem t_X3_countSealed {G : cG} (g : GOK G) {a : Nat → Nat} {S : Mem} {r : Int32} (h : f_X3_countSealed S = some r) : CI G yX3_countSealed cX3_countSealed 3 .int 0 0 [.ref (a 1)] (wSh G.2.1 a S) (wSh G.2.1 a S) r := by
  unfold f_X3_countSealed at h
  refine CI.of g (by decide) rfl (Nat.le_of_ble_eq_true rfl) ?_
  intro p l e s m below meth c A ls F hr hlocks w hl
  generalize ([.ref (a 1)] : List Value).toArray = args
  have hl : lv_has ls 3 [(0, .ref (a 1))] := hl
  have L4 : ∀ (S : Mem) {k : Int32 → Option (Int32)} (n : Nat) (x1 : Int32) (x2 : Int32) (H : Heap) (locs : List Loc) (ls : Array Slot), Wd G A s.heap (wSh G.2.1 a S) H locs → lv_has ls 3 [(0, .ref (a 1)), (1, .int x1), (2, .int x2)] → f_X3_countSealed_L4 S k n x1 x2 = some r → (∀ (x1 : Int32) (H : Heap) (locs : List Loc) (ls : Array Slot), Wd G A s.heap (wSh G.2.1 a S) H locs → lv_has ls 3 [(1, .int x1)] → k x1 = some r → W p l e { frames := 0, cells := 0, slots := 0, locals := 0 } s m args below meth c H locs 0 0 (QI G A (wSh G.2.1 a S) r below args s) (F0 m 30 ls [])) → W p l e { frames := 0, cells := 0, slots := 0, locals := 0 } s m args below meth c H locs 0 0 (QI G A (wSh G.2.1 a S) r below args s) (F0 m 4 ls []) := by
    clear h w hl
    intro S k n
    induction n with
    | zero =>
      intro x1 x2 H locs ls w hl h hk
      exact nomatch (show (none : Option (Int32)) = some r from h)
    | succ n ih =>
      intro x1 x2 H locs ls w hl h hk
      rw [f_X3_countSealed_L4] at h
      refine lv_iload_n F.x F.b dX3_countSealed_4 rfl (lv_at hl 2 rfl) ?_
      refine lv_aload_n F.x F.b dX3_countSealed_5 rfl (lv_at hl 0 rfl) ?_
      refine rg F w cl3 1 (at_Sh_1 _ _ _) 7 (by decide) q84 rfl (v := .int (S.1 0)) rfl dX3_countSealed_6 ?_
      refine lv_icmp_ge (tgt := 30) F.x F.b dX3_countSealed_9 (by decide) (fun c1 => ?_) (fun c1 => ?_)
      · have h := it c1 h
        exact hk x1 _ _ _ w (lv_sub hl [1] rfl) h
      · have h := ie c1 h
        refine lv_aload_n F.x F.b dX3_countSealed_12 rfl (lv_at hl 0 rfl) ?_
        refine rg F w cl3 1 (at_Sh_1 _ _ _) 5 (by decide) q78 rfl (v := .ref (a 7)) rfl dX3_countSealed_13 ?_
        refine lv_iload_n F.x F.b dX3_countSealed_16 rfl (lv_at hl 2 rfl) ?_
        obtain ⟨g2, h⟩ := gd h
        refine rz F w 7 (n := 16) (f := S.2 5) (at_Sh_7 _ _ _) g2 dX3_countSealed_17 ?_
        refine lv_if_eq (tgt := 24) F.x F.b dX3_countSealed_18 (by decide) (fun c3 => ?_) (fun c3 => ?_)
        · have h := it c3 h
          refine lv_iinc (v := (x2 + 1)) (lv' := [(2, .int (x2 + 1)), (0, .ref (a 1)), (1, .int x1)]) F.x F.b dX3_countSealed_24 hl (k := 2) rfl rfl (by decide) rfl (fun ls hl => ?_)
          refine lv_goto (tgt := 4) F.x F.b dX3_countSealed_27 (by decide) ?_
          exact ih x1 (x2 + 1) _ _ _ w (lv_sub hl [1, 2, 0] rfl) h hk
        · have h := ie c3 h
          refine lv_iinc (v := (x1 + 1)) (lv' := [(1, .int (x1 + 1)), (0, .ref (a 1)), (2, .int x2)]) F.x F.b dX3_countSealed_21 hl (k := 1) rfl rfl (by decide) rfl (fun ls hl => ?_)
          refine lv_iinc (v := (x2 + 1)) (lv' := [(2, .int (x2 + 1)), (1, .int (x1 + 1)), (0, .ref (a 1))]) F.x F.b dX3_countSealed_24 hl (k := 2) rfl rfl (by decide) rfl (fun ls hl => ?_)
          refine lv_goto (tgt := 4) F.x F.b dX3_countSealed_27 (by decide) ?_
          exact ih (x1 + 1) (x2 + 1) _ _ _ w (lv_sub hl [2, 1, 0] rfl) h hk
  refine lv_iconst (v := 0) F.x F.b dX3_countSealed_0 (by decide) ?_
  refine lv_istore_n (lv' := [(1, .int 0), (0, .ref (a 1))]) F.x F.b dX3_countSealed_1 rfl hl (by decide) rfl (fun ls hl => ?_)
  refine lv_iconst (v := 0) F.x F.b dX3_countSealed_2 (by decide) ?_
  refine lv_istore_n (lv' := [(2, .int 0), (1, .int 0), (0, .ref (a 1))]) F.x F.b dX3_countSealed_3 rfl hl (by decide) rfl (fun ls hl => ?_)
  refine L4 S _ 0 0 _ _ _ w (lv_sub hl [2, 1, 0] rfl) h ?_
  intro y4_1 H locs ls w hl h
  try dsimp only at h
  refine lv_iload_n F.x F.b dX3_countSealed_30 rfl (lv_at hl 0 rfl) ?_
  have z0 := sm h
  exact ei F w hr hlocks rfl z0 rfl dX3_countSealed_31
set_option maxRecDepth 100000 in
set_option maxHeartbeats 4000000 in
theorem t_X3_countDamp {G : cG} (g : GOK G) {a : Nat → Nat} {S : Mem} {r : Int32} (h : f_X3_countDamp S = some r) : CI G yX3_countDamp cX3_countDamp 3 .int 0 0 [.ref (a 1)] (wSh G.2.1 a S) (wSh G.2.1 a S) r := by
  unfold f_X3_countDamp at h
  refine CI.of g (by decide) rfl (Nat.le_of_ble_eq_true rfl) ?_
  intro p l e s m below meth c A ls F hr hlocks w hl
  generalize ([.ref (a 1)] : List Value).toArray = args
  have hl : lv_has ls 3 [(0, .ref (a 1))] := hl
  have L4 : ∀ (S : Mem) {k : Int32 → Option (Int32)} (n : Nat) (x1 : Int32) (x2 : Int32) (H : Heap) (locs : List Loc) (ls : Array Slot), Wd G A s.heap (wSh G.2.1 a S) H locs → lv_has ls 3 [(0, .ref (a 1)), (1, .int x1), (2, .int x2)] → f_X3_countDamp_L4 S k n x1 x2 = some r → (∀ (x1 : Int32) (H : Heap) (locs : List Loc) (ls : Array Slot), Wd G A s.heap (wSh G.2.1 a S) H locs → lv_has ls 3 [(1, .int x1)] → k x1 = some r → W p l e { frames := 0, cells := 0, slots := 0, locals := 0 } s m args below meth c H locs 0 0 (QI G A (wSh G.2.1 a S) r below args s) (F0 m 30 ls [])) → W p l e { frames := 0, cells := 0, slots := 0, locals := 0 } s m args below meth c H locs 0 0 (QI G A (wSh G.2.1 a S) r below args s) (F0 m 4 ls []) := by
    clear h w hl
    intro S k n
    induction n with
    | zero =>
      intro x1 x2 H locs ls w hl h hk
      exact nomatch (show (none : Option (Int32)) = some r from h)
    | succ n ih =>
      intro x1 x2 H locs ls w hl h hk
      rw [f_X3_countDamp_L4] at h
      refine lv_iload_n F.x F.b dX3_countDamp_4 rfl (lv_at hl 2 rfl) ?_
      refine lv_aload_n F.x F.b dX3_countDamp_5 rfl (lv_at hl 0 rfl) ?_
      refine rg F w cl3 1 (at_Sh_1 _ _ _) 7 (by decide) q84 rfl (v := .int (S.1 0)) rfl dX3_countDamp_6 ?_
      refine lv_icmp_ge (tgt := 30) F.x F.b dX3_countDamp_9 (by decide) (fun c1 => ?_) (fun c1 => ?_)
      · have h := it c1 h
        exact hk x1 _ _ _ w (lv_sub hl [1] rfl) h
      · have h := ie c1 h
        refine lv_aload_n F.x F.b dX3_countDamp_12 rfl (lv_at hl 0 rfl) ?_
        refine rg F w cl3 1 (at_Sh_1 _ _ _) 6 (by decide) q81 rfl (v := .ref (a 8)) rfl dX3_countDamp_13 ?_
        refine lv_iload_n F.x F.b dX3_countDamp_16 rfl (lv_at hl 2 rfl) ?_
        obtain ⟨g2, h⟩ := gd h
        refine rz F w 8 (n := 16) (f := S.2 6) (at_Sh_8 _ _ _) g2 dX3_countDamp_17 ?_
        refine lv_if_eq (tgt := 24) F.x F.b dX3_countDamp_18 (by decide) (fun c3 => ?_) (fun c3 => ?_)
        · have h := it c3 h
          refine lv_iinc (v := (x2 + 1)) (lv' := [(2, .int (x2 + 1)), (0, .ref (a 1)), (1, .int x1)]) F.x F.b dX3_countDamp_24 hl (k := 2) rfl rfl (by decide) rfl (fun ls hl => ?_)
          refine lv_goto (tgt := 4) F.x F.b dX3_countDamp_27 (by decide) ?_
          exact ih x1 (x2 + 1) _ _ _ w (lv_sub hl [1, 2, 0] rfl) h hk
        · have h := ie c3 h
          refine lv_iinc (v := (x1 + 1)) (lv' := [(1, .int (x1 + 1)), (0, .ref (a 1)), (2, .int x2)]) F.x F.b dX3_countDamp_21 hl (k := 1) rfl rfl (by decide) rfl (fun ls hl => ?_)
          refine lv_iinc (v := (x2 + 1)) (lv' := [(2, .int (x2 + 1)), (1, .int (x1 + 1)), (0, .ref (a 1))]) F.x F.b dX3_countDamp_24 hl (k := 2) rfl rfl (by decide) rfl (fun ls hl => ?_)
          refine lv_goto (tgt := 4) F.x F.b dX3_countDamp_27 (by decide) ?_
          exact ih (x1 + 1) (x2 + 1) _ _ _ w (lv_sub hl [2, 1, 0] rfl) h hk
  refine lv_iconst (v := 0) F.x F.b dX3_countDamp_0 (by decide) ?_
  refine lv_istore_n (lv' := [(1, .int 0), (0, .ref (a 1))]) F.x F.b dX3_countDamp_1 rfl hl (by decide) rfl (fun ls hl => ?_)
  refine lv_iconst (v := 0) F.x F.b dX3_countDamp_2 (by decide) ?_
  refine lv_istore_n (lv' := [(2, .int 0), (1, .int 0), (0, .ref (a 1))]) F.x F.b dX3_countDamp_3 rfl hl (by decide) rfl (fun ls hl => ?_)
  refine L4 S _ 0 0 _ _ _ w (lv_sub hl [2, 1, 0] rfl) h ?_
  intro y4_1 H locs ls w hl h
  try dsimp only at h
  refine lv_iload_n F.x F.b dX3_countDamp_30 rfl (lv_at hl 0 rfl) ?_
  have z0 := sm h
  exact ei F w hr hlocks rfl z0 rfl dX3_countDamp_31
set_option maxRecDepth 100000 in
set_option maxHeartbeats 4000000 in
theorem t_X3_append {G : cG} (g : GOK G) {a : Nat → Nat} {S : Mem} {x1 x2 x3 x4 : Int32} {r : Int32} {S' : Mem} (h : f_X3_append S x1 x2 x3 x4 = some (r, S')) : CI G yX3_append cX3_append 6 .int 0 0 [.ref (a 1), .int x1, .int x2, .int x3, .int x4] (wSh G.2.1 a S) (wSh G.2.1 a S') r := by
  unfold f_X3_append at h
  refine CI.of g (by decide) rfl (Nat.le_of_ble_eq_true rfl) ?_
  intro p l e s m below meth c A ls F hr hlocks w hl
  generalize ([.ref (a 1), .int x1, .int x2, .int x3, .int x4] : List Value).toArray = args
  have hl : lv_has ls 6 [(0, .ref (a 1)), (1, .int x1), (2, .int x2), (3, .int x3), (4, .int x4)] := hl
  refine lv_aload_n F.x F.b dX3_append_0 rfl (lv_at hl 0 rfl) ?_
  refine rg F w cl3 1 (at_Sh_1 _ _ _) 7 (by decide) q84 rfl (v := .int (S.1 0)) rfl dX3_append_1 ?_
  refine lv_bipush (v := 16) F.x F.b dX3_append_4 (by decide) ?_
  refine lv_icmp_lt (tgt := 12) F.x F.b dX3_append_6 (by decide) (fun c1 => ?_) (fun c1 => ?_)
  · have h := it c1 h
    refine lv_aload_n F.x F.b dX3_append_12 rfl (lv_at hl 0 rfl) ?_
    refine rg F w cl3 1 (at_Sh_1 _ _ _) 8 (by decide) q87 rfl (v := .int (S.1 1)) rfl dX3_append_13 ?_
    refine lv_istore (lv' := [(5, .int (S.1 1)), (0, .ref (a 1)), (1, .int x1), (2, .int x2), (3, .int x3), (4, .int x4)]) F.x F.b dX3_append_16 hl (by decide) rfl (fun ls hl => ?_)
    refine lv_aload_n F.x F.b dX3_append_18 rfl (lv_at hl 1 rfl) ?_
    refine rg F w cl3 1 (at_Sh_1 _ _ _) 0 (by decide) q65 rfl (v := .ref (a 2)) rfl dX3_append_19 ?_
    refine lv_aload_n F.x F.b dX3_append_22 rfl (lv_at hl 1 rfl) ?_
    refine rg F w cl3 1 (at_Sh_1 _ _ _) 7 (by decide) q84 rfl (v := .int (S.1 0)) rfl dX3_append_23 ?_
    refine lv_iload F.x F.b dX3_append_26 (lv_at hl 0 rfl) ?_
    obtain ⟨g2, h⟩ := gd h
    refine ris F w (ws' := wSh G.2.1 a (wrA S 0 (S.1 0) (S.1 1))) 2 (n := 16) (f := S.2 0) (at_Sh_2 _ _ _) g2 (st_Sh_2 _ _ _ _ _) dX3_append_28 (fun H locs w => ?_)
    refine lv_aload_n F.x F.b dX3_append_29 rfl (lv_at hl 1 rfl) ?_
    refine rg F w cl3 1 (at_Sh_1 _ _ _) 1 (by decide) q68 rfl (v := .ref (a 3)) rfl dX3_append_30 ?_
    refine lv_aload_n F.x F.b dX3_append_33 rfl (lv_at hl 1 rfl) ?_
    refine rg F w cl3 1 (at_Sh_1 _ _ _) 7 (by decide) q84 rfl (v := .int (S.1 0)) rfl dX3_append_34 ?_
    refine lv_iload_n F.x F.b dX3_append_37 rfl (lv_at hl 2 rfl) ?_
    obtain ⟨g3, h⟩ := gd h
    refine rcs F w (ws' := wSh G.2.1 a (wrA (wrA S 0 (S.1 0) (S.1 1)) 1 (S.1 0) (vp_nar .char x1))) 3 (n := 16) (f := (wrA S 0 (S.1 0) (S.1 1)).2 1) (at_Sh_3 _ _ _) g3 (st_Sh_3 _ _ _ _ _) dX3_append_38 (fun H locs w => ?_)
    refine lv_aload_n F.x F.b dX3_append_39 rfl (lv_at hl 1 rfl) ?_
    refine rg F w cl3 1 (at_Sh_1 _ _ _) 2 (by decide) q70 rfl (v := .ref (a 4)) rfl dX3_append_40 ?_
    refine lv_aload_n F.x F.b dX3_append_43 rfl (lv_at hl 1 rfl) ?_
    refine rg F w cl3 1 (at_Sh_1 _ _ _) 7 (by decide) q84 rfl (v := .int (S.1 0)) rfl dX3_append_44 ?_
    refine lv_iload_n F.x F.b dX3_append_47 rfl (lv_at hl 3 rfl) ?_
    obtain ⟨g4, h⟩ := gd h
    refine ris F w (ws' := wSh G.2.1 a (wrA (wrA (wrA S 0 (S.1 0) (S.1 1)) 1 (S.1 0) (vp_nar .char x1)) 2 (S.1 0) x2)) 4 (n := 16) (f := (wrA (wrA S 0 (S.1 0) (S.1 1)) 1 (S.1 0) (vp_nar .char x1)).2 2) (at_Sh_4 _ _ _) g4 (st_Sh_4 _ _ _ _ _) dX3_append_48 (fun H locs w => ?_)
    refine lv_aload_n F.x F.b dX3_append_49 rfl (lv_at hl 1 rfl) ?_
    refine rg F w cl3 1 (at_Sh_1 _ _ _) 3 (by decide) q73 rfl (v := .ref (a 5)) rfl dX3_append_50 ?_
    refine lv_aload_n F.x F.b dX3_append_53 rfl (lv_at hl 1 rfl) ?_
    refine rg F w cl3 1 (at_Sh_1 _ _ _) 7 (by decide) q84 rfl (v := .int (S.1 0)) rfl dX3_append_54 ?_
    refine lv_iload_n F.x F.b dX3_append_57 rfl (lv_at hl 4 rfl) ?_
    obtain ⟨g5, h⟩ := gd h
    refine ris F w (ws' := wSh G.2.1 a (wrA (wrA (wrA (wrA S 0 (S.1 0) (S.1 1)) 1 (S.1 0) (vp_nar .char x1)) 2 (S.1 0) x2) 3 (S.1 0) x3)) 5 (n := 16) (f := (wrA (wrA (wrA S 0 (S.1 0) (S.1 1)) 1 (S.1 0) (vp_nar .char x1)) 2 (S.1 0) x2).2 3) (at_Sh_5 _ _ _) g5 (st_Sh_5 _ _ _ _ _) dX3_append_58 (fun H locs w => ?_)
    refine lv_aload_n F.x F.b dX3_append_59 rfl (lv_at hl 1 rfl) ?_
    refine rg F w cl3 1 (at_Sh_1 _ _ _) 4 (by decide) q75 rfl (v := .ref (a 6)) rfl dX3_append_60 ?_
    refine lv_aload_n F.x F.b dX3_append_63 rfl (lv_at hl 1 rfl) ?_
    refine rg F w cl3 1 (at_Sh_1 _ _ _) 7 (by decide) q84 rfl (v := .int (S.1 0)) rfl dX3_append_64 ?_
    refine lv_iload F.x F.b dX3_append_67 (lv_at hl 5 rfl) ?_
    obtain ⟨g6, h⟩ := gd h
    refine ris F w (ws' := wSh G.2.1 a (wrA (wrA (wrA (wrA (wrA S 0 (S.1 0) (S.1 1)) 1 (S.1 0) (vp_nar .char x1)) 2 (S.1 0) x2) 3 (S.1 0) x3) 4 (S.1 0) x4)) 6 (n := 16) (f := (wrA (wrA (wrA (wrA S 0 (S.1 0) (S.1 1)) 1 (S.1 0) (vp_nar .char x1)) 2 (S.1 0) x2) 3 (S.1 0) x3).2 4) (at_Sh_6 _ _ _) g6 (st_Sh_6 _ _ _ _ _) dX3_append_69 (fun H locs w => ?_)
    refine lv_aload_n F.x F.b dX3_append_70 rfl (lv_at hl 1 rfl) ?_
    refine rg F w cl3 1 (at_Sh_1 _ _ _) 5 (by decide) q78 rfl (v := .ref (a 7)) rfl dX3_append_71 ?_
    refine lv_aload_n F.x F.b dX3_append_74 rfl (lv_at hl 1 rfl) ?_
    refine rg F w cl3 1 (at_Sh_1 _ _ _) 7 (by decide) q84 rfl (v := .int (S.1 0)) rfl dX3_append_75 ?_
    refine lv_iconst (v := 1) F.x F.b dX3_append_78 (by decide) ?_
    obtain ⟨g7, h⟩ := gd h
    refine rzs F w (ws' := wSh G.2.1 a (wrA (wrA (wrA (wrA (wrA (wrA S 0 (S.1 0) (S.1 1)) 1 (S.1 0) (vp_nar .char x1)) 2 (S.1 0) x2) 3 (S.1 0) x3) 4 (S.1 0) x4) 5 (S.1 0) (vp_nar .boolean 1))) 7 (n := 16) (f := (wrA (wrA (wrA (wrA (wrA S 0 (S.1 0) (S.1 1)) 1 (S.1 0) (vp_nar .char x1)) 2 (S.1 0) x2) 3 (S.1 0) x3) 4 (S.1 0) x4).2 5) (at_Sh_7 _ _ _) g7 (st_Sh_7 _ _ _ _ _) dX3_append_79 (fun H locs w => ?_)
    refine lv_aload_n F.x F.b dX3_append_80 rfl (lv_at hl 1 rfl) ?_
    refine rg F w cl3 1 (at_Sh_1 _ _ _) 6 (by decide) q81 rfl (v := .ref (a 8)) rfl dX3_append_81 ?_
    refine lv_aload_n F.x F.b dX3_append_84 rfl (lv_at hl 1 rfl) ?_
    refine rg F w cl3 1 (at_Sh_1 _ _ _) 7 (by decide) q84 rfl (v := .int (S.1 0)) rfl dX3_append_85 ?_
    refine lv_iconst (v := 0) F.x F.b dX3_append_88 (by decide) ?_
    obtain ⟨g8, h⟩ := gd h
    refine rzs F w (ws' := wSh G.2.1 a (wrA (wrA (wrA (wrA (wrA (wrA (wrA S 0 (S.1 0) (S.1 1)) 1 (S.1 0) (vp_nar .char x1)) 2 (S.1 0) x2) 3 (S.1 0) x3) 4 (S.1 0) x4) 5 (S.1 0) (vp_nar .boolean 1)) 6 (S.1 0) (vp_nar .boolean 0))) 8 (n := 16) (f := (wrA (wrA (wrA (wrA (wrA (wrA S 0 (S.1 0) (S.1 1)) 1 (S.1 0) (vp_nar .char x1)) 2 (S.1 0) x2) 3 (S.1 0) x3) 4 (S.1 0) x4) 5 (S.1 0) (vp_nar .boolean 1)).2 6) (at_Sh_8 _ _ _) g8 (st_Sh_8 _ _ _ _ _) dX3_append_89 (fun H locs w => ?_)
    refine lv_aload_n F.x F.b dX3_append_90 rfl (lv_at hl 1 rfl) ?_
    refine lv_dup F.x F.b dX3_append_91 rfl ?_
    refine rg F w cl3 1 (at_Sh_1 _ _ _) 7 (by decide) q84 rfl (v := .int (S.1 0)) rfl dX3_append_92 ?_
    refine lv_iconst (v := 1) F.x F.b dX3_append_95 (by decide) ?_
    refine lv_iadd F.x F.b dX3_append_96 ?_
    refine rp F w (ws' := wSh G.2.1 a (wrI (wrA (wrA (wrA (wrA (wrA (wrA (wrA S 0 (S.1 0) (S.1 1)) 1 (S.1 0) (vp_nar .char x1)) 2 (S.1 0) x2) 3 (S.1 0) x3) 4 (S.1 0) x4) 5 (S.1 0) (vp_nar .boolean 1)) 6 (S.1 0) (vp_nar .boolean 0)) 0 ((S.1 0) + 1))) cl3 1 (at_Sh_1 _ _ _) 7 (by decide) q84 rfl rfl rfl rfl (Nat.le_of_ble_eq_true rfl) (pt_Sh_1_7 _ _ _ _) dX3_append_97 (fun H locs w => ?_)
    refine lv_aload_n F.x F.b dX3_append_100 rfl (lv_at hl 1 rfl) ?_
    refine lv_dup F.x F.b dX3_append_101 rfl ?_
    refine rg F w cl3 1 (at_Sh_1 _ _ _) 8 (by decide) q87 rfl (v := .int (S.1 1)) rfl dX3_append_102 ?_
    refine lv_iconst (v := 1) F.x F.b dX3_append_105 (by decide) ?_
    refine lv_iadd F.x F.b dX3_append_106 ?_
    refine rp F w (ws' := wSh G.2.1 a (wrI (wrI (wrA (wrA (wrA (wrA (wrA (wrA (wrA S 0 (S.1 0) (S.1 1)) 1 (S.1 0) (vp_nar .char x1)) 2 (S.1 0) x2) 3 (S.1 0) x3) 4 (S.1 0) x4) 5 (S.1 0) (vp_nar .boolean 1)) 6 (S.1 0) (vp_nar .boolean 0)) 0 ((S.1 0) + 1)) 1 ((S.1 1) + 1))) cl3 1 (at_Sh_1 _ _ _) 8 (by decide) q87 rfl rfl rfl rfl (Nat.le_of_ble_eq_true rfl) (pt_Sh_1_8 _ _ _ _) dX3_append_107 (fun H locs w => ?_)
    refine lv_iload F.x F.b dX3_append_110 (lv_at hl 0 rfl) ?_
    obtain ⟨z0, z1⟩ := sm2 (sm h)
    exact ei F w hr hlocks rfl z0 (by rw [← z1]) dX3_append_112
  · have h := ie c1 h
    refine lv_bipush (v := (-4)) F.x F.b dX3_append_9 (by decide) ?_
    obtain ⟨z0, z1⟩ := sm2 (sm h)
    exact ei F w hr hlocks rfl z0 (by rw [← z1]) dX3_append_11
set_option maxRecDepth 100000 in
set_option maxHeartbeats 4000000 in
theorem t_X3_takeSlot_o {G : cG} (g : GOK G) {a : Nat → Nat} {S : Mem} {b : Nat → Nat} {T : Mem} {x2 x3 : Int32} {S' : Mem} (h : f_X3_takeSlot_o S T x2 x3 = some S') : CV G yX3_takeSlot cX3_takeSlot 4 0 0 [.ref (a 1), .ref (b 1), .int x2, .int x3] (wSh G.2.1 a S ++ wSh G.2.1 b T) (wSh G.2.1 a S' ++ wSh G.2.1 b T) := by
  unfold f_X3_takeSlot_o at h
  refine CV.of g (by decide) rfl (Nat.le_of_ble_eq_true rfl) ?_
  intro p l e s m below meth c A ls F hr hlocks w hl
  generalize ([.ref (a 1), .ref (b 1), .int x2, .int x3] : List Value).toArray = args
  have hl : lv_has ls 4 [(0, .ref (a 1)), (1, .ref (b 1)), (2, .int x2), (3, .int x3)] := hl
  refine lv_aload_n F.x F.b dX3_takeSlot_0 rfl (lv_at hl 0 rfl) ?_
  refine rg F w cl3 1 rfl 0 (by decide) q65 rfl (v := .ref (a 2)) rfl dX3_takeSlot_1 ?_
  refine lv_iload_n F.x F.b dX3_takeSlot_4 rfl (lv_at hl 3 rfl) ?_
  refine lv_aload_n F.x F.b dX3_takeSlot_5 rfl (lv_at hl 1 rfl) ?_
  refine rg F w cl3 15 rfl 0 (by decide) q65 rfl (v := .ref (b 2)) rfl dX3_takeSlot_6 ?_
  refine lv_iload_n F.x F.b dX3_takeSlot_9 rfl (lv_at hl 2 rfl) ?_
  obtain ⟨g1, h⟩ := gd h
  refine ri F w 16 (n := 16) (f := T.2 0) rfl g1 dX3_takeSlot_10 ?_
  obtain ⟨g2, h⟩ := gd h
  refine ris F w (ws' := wSh G.2.1 a (wrA S 0 x3 (T.2 0 (Int32.toNatClampNeg x2))) ++ wSh G.2.1 b T) 2 (n := 16) (f := S.2 0) rfl g2 rfl dX3_takeSlot_11 (fun H locs w => ?_)
  refine lv_aload_n F.x F.b dX3_takeSlot_12 rfl (lv_at hl 0 rfl) ?_
  refine rg F w cl3 1 rfl 1 (by decide) q68 rfl (v := .ref (a 3)) rfl dX3_takeSlot_13 ?_
  refine lv_iload_n F.x F.b dX3_takeSlot_16 rfl (lv_at hl 3 rfl) ?_
  refine lv_aload_n F.x F.b dX3_takeSlot_17 rfl (lv_at hl 1 rfl) ?_
  refine rg F w cl3 15 rfl 1 (by decide) q68 rfl (v := .ref (b 3)) rfl dX3_takeSlot_18 ?_
  refine lv_iload_n F.x F.b dX3_takeSlot_21 rfl (lv_at hl 2 rfl) ?_
  obtain ⟨g3, h⟩ := gd h
  refine rc F w 17 (n := 16) (f := T.2 1) rfl g3 dX3_takeSlot_22 ?_
  obtain ⟨g4, h⟩ := gd h
  refine rcs F w (ws' := wSh G.2.1 a (wrA (wrA S 0 x3 (T.2 0 (Int32.toNatClampNeg x2))) 1 x3 (vp_nar .char (T.2 1 (Int32.toNatClampNeg x2)))) ++ wSh G.2.1 b T) 3 (n := 16) (f := (wrA S 0 x3 (T.2 0 (Int32.toNatClampNeg x2))).2 1) rfl g4 rfl dX3_takeSlot_23 (fun H locs w => ?_)
  refine lv_aload_n F.x F.b dX3_takeSlot_24 rfl (lv_at hl 0 rfl) ?_
  refine rg F w cl3 1 rfl 2 (by decide) q70 rfl (v := .ref (a 4)) rfl dX3_takeSlot_25 ?_
  refine lv_iload_n F.x F.b dX3_takeSlot_28 rfl (lv_at hl 3 rfl) ?_
  refine lv_aload_n F.x F.b dX3_takeSlot_29 rfl (lv_at hl 1 rfl) ?_
  refine rg F w cl3 15 rfl 2 (by decide) q70 rfl (v := .ref (b 4)) rfl dX3_takeSlot_30 ?_
  refine lv_iload_n F.x F.b dX3_takeSlot_33 rfl (lv_at hl 2 rfl) ?_
  obtain ⟨g5, h⟩ := gd h
  refine ri F w 18 (n := 16) (f := T.2 2) rfl g5 dX3_takeSlot_34 ?_
  obtain ⟨g6, h⟩ := gd h
  refine ris F w (ws' := wSh G.2.1 a (wrA (wrA (wrA S 0 x3 (T.2 0 (Int32.toNatClampNeg x2))) 1 x3 (vp_nar .char (T.2 1 (Int32.toNatClampNeg x2)))) 2 x3 (T.2 2 (Int32.toNatClampNeg x2))) ++ wSh G.2.1 b T) 4 (n := 16) (f := (wrA (wrA S 0 x3 (T.2 0 (Int32.toNatClampNeg x2))) 1 x3 (vp_nar .char (T.2 1 (Int32.toNatClampNeg x2)))).2 2) rfl g6 rfl dX3_takeSlot_35 (fun H locs w => ?_)
  refine lv_aload_n F.x F.b dX3_takeSlot_36 rfl (lv_at hl 0 rfl) ?_
  refine rg F w cl3 1 rfl 3 (by decide) q73 rfl (v := .ref (a 5)) rfl dX3_takeSlot_37 ?_
  refine lv_iload_n F.x F.b dX3_takeSlot_40 rfl (lv_at hl 3 rfl) ?_
  refine lv_aload_n F.x F.b dX3_takeSlot_41 rfl (lv_at hl 1 rfl) ?_
  refine rg F w cl3 15 rfl 3 (by decide) q73 rfl (v := .ref (b 5)) rfl dX3_takeSlot_42 ?_
  refine lv_iload_n F.x F.b dX3_takeSlot_45 rfl (lv_at hl 2 rfl) ?_
  obtain ⟨g7, h⟩ := gd h
  refine ri F w 19 (n := 16) (f := T.2 3) rfl g7 dX3_takeSlot_46 ?_
  obtain ⟨g8, h⟩ := gd h
  refine ris F w (ws' := wSh G.2.1 a (wrA (wrA (wrA (wrA S 0 x3 (T.2 0 (Int32.toNatClampNeg x2))) 1 x3 (vp_nar .char (T.2 1 (Int32.toNatClampNeg x2)))) 2 x3 (T.2 2 (Int32.toNatClampNeg x2))) 3 x3 (T.2 3 (Int32.toNatClampNeg x2))) ++ wSh G.2.1 b T) 5 (n := 16) (f := (wrA (wrA (wrA S 0 x3 (T.2 0 (Int32.toNatClampNeg x2))) 1 x3 (vp_nar .char (T.2 1 (Int32.toNatClampNeg x2)))) 2 x3 (T.2 2 (Int32.toNatClampNeg x2))).2 3) rfl g8 rfl dX3_takeSlot_47 (fun H locs w => ?_)
  refine lv_aload_n F.x F.b dX3_takeSlot_48 rfl (lv_at hl 0 rfl) ?_
  refine rg F w cl3 1 rfl 4 (by decide) q75 rfl (v := .ref (a 6)) rfl dX3_takeSlot_49 ?_
  refine lv_iload_n F.x F.b dX3_takeSlot_52 rfl (lv_at hl 3 rfl) ?_
  refine lv_aload_n F.x F.b dX3_takeSlot_53 rfl (lv_at hl 1 rfl) ?_
  refine rg F w cl3 15 rfl 4 (by decide) q75 rfl (v := .ref (b 6)) rfl dX3_takeSlot_54 ?_
  refine lv_iload_n F.x F.b dX3_takeSlot_57 rfl (lv_at hl 2 rfl) ?_
  obtain ⟨g9, h⟩ := gd h
  refine ri F w 20 (n := 16) (f := T.2 4) rfl g9 dX3_takeSlot_58 ?_
  obtain ⟨g10, h⟩ := gd h
  refine ris F w (ws' := wSh G.2.1 a (wrA (wrA (wrA (wrA (wrA S 0 x3 (T.2 0 (Int32.toNatClampNeg x2))) 1 x3 (vp_nar .char (T.2 1 (Int32.toNatClampNeg x2)))) 2 x3 (T.2 2 (Int32.toNatClampNeg x2))) 3 x3 (T.2 3 (Int32.toNatClampNeg x2))) 4 x3 (T.2 4 (Int32.toNatClampNeg x2))) ++ wSh G.2.1 b T) 6 (n := 16) (f := (wrA (wrA (wrA (wrA S 0 x3 (T.2 0 (Int32.toNatClampNeg x2))) 1 x3 (vp_nar .char (T.2 1 (Int32.toNatClampNeg x2)))) 2 x3 (T.2 2 (Int32.toNatClampNeg x2))) 3 x3 (T.2 3 (Int32.toNatClampNeg x2))).2 4) rfl g10 rfl dX3_takeSlot_59 (fun H locs w => ?_)
  refine lv_aload_n F.x F.b dX3_takeSlot_60 rfl (lv_at hl 0 rfl) ?_
  refine rg F w cl3 1 rfl 5 (by decide) q78 rfl (v := .ref (a 7)) rfl dX3_takeSlot_61 ?_
  refine lv_iload_n F.x F.b dX3_takeSlot_64 rfl (lv_at hl 3 rfl) ?_
  refine lv_aload_n F.x F.b dX3_takeSlot_65 rfl (lv_at hl 1 rfl) ?_
  refine rg F w cl3 15 rfl 5 (by decide) q78 rfl (v := .ref (b 7)) rfl dX3_takeSlot_66 ?_
  refine lv_iload_n F.x F.b dX3_takeSlot_69 rfl (lv_at hl 2 rfl) ?_
  obtain ⟨g11, h⟩ := gd h
  refine rz F w 21 (n := 16) (f := T.2 5) rfl g11 dX3_takeSlot_70 ?_
  obtain ⟨g12, h⟩ := gd h
  refine rzs F w (ws' := wSh G.2.1 a (wrA (wrA (wrA (wrA (wrA (wrA S 0 x3 (T.2 0 (Int32.toNatClampNeg x2))) 1 x3 (vp_nar .char (T.2 1 (Int32.toNatClampNeg x2)))) 2 x3 (T.2 2 (Int32.toNatClampNeg x2))) 3 x3 (T.2 3 (Int32.toNatClampNeg x2))) 4 x3 (T.2 4 (Int32.toNatClampNeg x2))) 5 x3 (vp_nar .boolean (T.2 5 (Int32.toNatClampNeg x2)))) ++ wSh G.2.1 b T) 7 (n := 16) (f := (wrA (wrA (wrA (wrA (wrA S 0 x3 (T.2 0 (Int32.toNatClampNeg x2))) 1 x3 (vp_nar .char (T.2 1 (Int32.toNatClampNeg x2)))) 2 x3 (T.2 2 (Int32.toNatClampNeg x2))) 3 x3 (T.2 3 (Int32.toNatClampNeg x2))) 4 x3 (T.2 4 (Int32.toNatClampNeg x2))).2 5) rfl g12 rfl dX3_takeSlot_71 (fun H locs w => ?_)
  refine lv_aload_n F.x F.b dX3_takeSlot_72 rfl (lv_at hl 0 rfl) ?_
  refine rg F w cl3 1 rfl 6 (by decide) q81 rfl (v := .ref (a 8)) rfl dX3_takeSlot_73 ?_
  refine lv_iload_n F.x F.b dX3_takeSlot_76 rfl (lv_at hl 3 rfl) ?_
  refine lv_aload_n F.x F.b dX3_takeSlot_77 rfl (lv_at hl 1 rfl) ?_
  refine rg F w cl3 15 rfl 6 (by decide) q81 rfl (v := .ref (b 8)) rfl dX3_takeSlot_78 ?_
  refine lv_iload_n F.x F.b dX3_takeSlot_81 rfl (lv_at hl 2 rfl) ?_
  obtain ⟨g13, h⟩ := gd h
  refine rz F w 22 (n := 16) (f := T.2 6) rfl g13 dX3_takeSlot_82 ?_
  obtain ⟨g14, h⟩ := gd h
  refine rzs F w (ws' := wSh G.2.1 a (wrA (wrA (wrA (wrA (wrA (wrA (wrA S 0 x3 (T.2 0 (Int32.toNatClampNeg x2))) 1 x3 (vp_nar .char (T.2 1 (Int32.toNatClampNeg x2)))) 2 x3 (T.2 2 (Int32.toNatClampNeg x2))) 3 x3 (T.2 3 (Int32.toNatClampNeg x2))) 4 x3 (T.2 4 (Int32.toNatClampNeg x2))) 5 x3 (vp_nar .boolean (T.2 5 (Int32.toNatClampNeg x2)))) 6 x3 (vp_nar .boolean (T.2 6 (Int32.toNatClampNeg x2)))) ++ wSh G.2.1 b T) 8 (n := 16) (f := (wrA (wrA (wrA (wrA (wrA (wrA S 0 x3 (T.2 0 (Int32.toNatClampNeg x2))) 1 x3 (vp_nar .char (T.2 1 (Int32.toNatClampNeg x2)))) 2 x3 (T.2 2 (Int32.toNatClampNeg x2))) 3 x3 (T.2 3 (Int32.toNatClampNeg x2))) 4 x3 (T.2 4 (Int32.toNatClampNeg x2))) 5 x3 (vp_nar .boolean (T.2 5 (Int32.toNatClampNeg x2)))).2 6) rfl g14 rfl dX3_takeSlot_83 (fun H locs w => ?_)
  have z0 := sm h
  exact ev F w hr hlocks (by rw [← z0]) dX3_takeSlot_84
set_option maxRecDepth 100000 in
set_option maxHeartbeats 4000000 in
theorem t_X3_takeSlot_s {G : cG} (g : GOK G) {a : Nat → Nat} {S : Mem} {x2 x3 : Int32} {S' : Mem} (h : f_X3_takeSlot_s S x2 x3 = some S') : CV G yX3_takeSlot cX3_takeSlot 4 0 0 [.ref (a 1), .ref (a 1), .int x2, .int x3] (wSh G.2.1 a S) (wSh G.2.1 a S') := by
  unfold f_X3_takeSlot_s at h
  refine CV.of g (by decide) rfl (Nat.le_of_ble_eq_true rfl) ?_
  intro p l e s m below meth c A ls F hr hlocks w hl
  generalize ([.ref (a 1), .ref (a 1), .int x2, .int x3] : List Value).toArray = args
  have hl : lv_has ls 4 [(0, .ref (a 1)), (1, .ref (a 1)), (2, .int x2), (3, .int x3)] := hl
  refine lv_aload_n F.x F.b dX3_takeSlot_0 rfl (lv_at hl 0 rfl) ?_
  refine rg F w cl3 1 (at_Sh_1 _ _ _) 0 (by decide) q65 rfl (v := .ref (a 2)) rfl dX3_takeSlot_1 ?_
  refine lv_iload_n F.x F.b dX3_takeSlot_4 rfl (lv_at hl 3 rfl) ?_
  refine lv_aload_n F.x F.b dX3_takeSlot_5 rfl (lv_at hl 1 rfl) ?_
  refine rg F w cl3 1 (at_Sh_1 _ _ _) 0 (by decide) q65 rfl (v := .ref (a 2)) rfl dX3_takeSlot_6 ?_
  refine lv_iload_n F.x F.b dX3_takeSlot_9 rfl (lv_at hl 2 rfl) ?_
  obtain ⟨g1, h⟩ := gd h
  refine ri F w 2 (n := 16) (f := S.2 0) (at_Sh_2 _ _ _) g1 dX3_takeSlot_10 ?_
  obtain ⟨g2, h⟩ := gd h
  refine ris F w (ws' := wSh G.2.1 a (wrA S 0 x3 (S.2 0 (Int32.toNatClampNeg x2)))) 2 (n := 16) (f := S.2 0) (at_Sh_2 _ _ _) g2 (st_Sh_2 _ _ _ _ _) dX3_takeSlot_11 (fun H locs w => ?_)
  refine lv_aload_n F.x F.b dX3_takeSlot_12 rfl (lv_at hl 0 rfl) ?_
  refine rg F w cl3 1 (at_Sh_1 _ _ _) 1 (by decide) q68 rfl (v := .ref (a 3)) rfl dX3_takeSlot_13 ?_
  refine lv_iload_n F.x F.b dX3_takeSlot_16 rfl (lv_at hl 3 rfl) ?_
  refine lv_aload_n F.x F.b dX3_takeSlot_17 rfl (lv_at hl 1 rfl) ?_
  refine rg F w cl3 1 (at_Sh_1 _ _ _) 1 (by decide) q68 rfl (v := .ref (a 3)) rfl dX3_takeSlot_18 ?_
  refine lv_iload_n F.x F.b dX3_takeSlot_21 rfl (lv_at hl 2 rfl) ?_
  obtain ⟨g3, h⟩ := gd h
  refine rc F w 3 (n := 16) (f := (wrA S 0 x3 (S.2 0 (Int32.toNatClampNeg x2))).2 1) (at_Sh_3 _ _ _) g3 dX3_takeSlot_22 ?_
  obtain ⟨g4, h⟩ := gd h
  refine rcs F w (ws' := wSh G.2.1 a (wrA (wrA S 0 x3 (S.2 0 (Int32.toNatClampNeg x2))) 1 x3 (vp_nar .char (S.2 1 (Int32.toNatClampNeg x2))))) 3 (n := 16) (f := (wrA S 0 x3 (S.2 0 (Int32.toNatClampNeg x2))).2 1) (at_Sh_3 _ _ _) g4 (st_Sh_3 _ _ _ _ _) dX3_takeSlot_23 (fun H locs w => ?_)
  refine lv_aload_n F.x F.b dX3_takeSlot_24 rfl (lv_at hl 0 rfl) ?_
  refine rg F w cl3 1 (at_Sh_1 _ _ _) 2 (by decide) q70 rfl (v := .ref (a 4)) rfl dX3_takeSlot_25 ?_
  refine lv_iload_n F.x F.b dX3_takeSlot_28 rfl (lv_at hl 3 rfl) ?_
  refine lv_aload_n F.x F.b dX3_takeSlot_29 rfl (lv_at hl 1 rfl) ?_
  refine rg F w cl3 1 (at_Sh_1 _ _ _) 2 (by decide) q70 rfl (v := .ref (a 4)) rfl dX3_takeSlot_30 ?_
  refine lv_iload_n F.x F.b dX3_takeSlot_33 rfl (lv_at hl 2 rfl) ?_
  obtain ⟨g5, h⟩ := gd h
  refine ri F w 4 (n := 16) (f := (wrA (wrA S 0 x3 (S.2 0 (Int32.toNatClampNeg x2))) 1 x3 (vp_nar .char (S.2 1 (Int32.toNatClampNeg x2)))).2 2) (at_Sh_4 _ _ _) g5 dX3_takeSlot_34 ?_
  obtain ⟨g6, h⟩ := gd h
  refine ris F w (ws' := wSh G.2.1 a (wrA (wrA (wrA S 0 x3 (S.2 0 (Int32.toNatClampNeg x2))) 1 x3 (vp_nar .char (S.2 1 (Int32.toNatClampNeg x2)))) 2 x3 (S.2 2 (Int32.toNatClampNeg x2)))) 4 (n := 16) (f := (wrA (wrA S 0 x3 (S.2 0 (Int32.toNatClampNeg x2))) 1 x3 (vp_nar .char (S.2 1 (Int32.toNatClampNeg x2)))).2 2) (at_Sh_4 _ _ _) g6 (st_Sh_4 _ _ _ _ _) dX3_takeSlot_35 (fun H locs w => ?_)
  refine lv_aload_n F.x F.b dX3_takeSlot_36 rfl (lv_at hl 0 rfl) ?_
  refine rg F w cl3 1 (at_Sh_1 _ _ _) 3 (by decide) q73 rfl (v := .ref (a 5)) rfl dX3_takeSlot_37 ?_
  refine lv_iload_n F.x F.b dX3_takeSlot_40 rfl (lv_at hl 3 rfl) ?_
  refine lv_aload_n F.x F.b dX3_takeSlot_41 rfl (lv_at hl 1 rfl) ?_
  refine rg F w cl3 1 (at_Sh_1 _ _ _) 3 (by decide) q73 rfl (v := .ref (a 5)) rfl dX3_takeSlot_42 ?_
  refine lv_iload_n F.x F.b dX3_takeSlot_45 rfl (lv_at hl 2 rfl) ?_
  obtain ⟨g7, h⟩ := gd h
  refine ri F w 5 (n := 16) (f := (wrA (wrA (wrA S 0 x3 (S.2 0 (Int32.toNatClampNeg x2))) 1 x3 (vp_nar .char (S.2 1 (Int32.toNatClampNeg x2)))) 2 x3 (S.2 2 (Int32.toNatClampNeg x2))).2 3) (at_Sh_5 _ _ _) g7 dX3_takeSlot_46 ?_
  obtain ⟨g8, h⟩ := gd h
  refine ris F w (ws' := wSh G.2.1 a (wrA (wrA (wrA (wrA S 0 x3 (S.2 0 (Int32.toNatClampNeg x2))) 1 x3 (vp_nar .char (S.2 1 (Int32.toNatClampNeg x2)))) 2 x3 (S.2 2 (Int32.toNatClampNeg x2))) 3 x3 (S.2 3 (Int32.toNatClampNeg x2)))) 5 (n := 16) (f := (wrA (wrA (wrA S 0 x3 (S.2 0 (Int32.toNatClampNeg x2))) 1 x3 (vp_nar .char (S.2 1 (Int32.toNatClampNeg x2)))) 2 x3 (S.2 2 (Int32.toNatClampNeg x2))).2 3) (at_Sh_5 _ _ _) g8 (st_Sh_5 _ _ _ _ _) dX3_takeSlot_47 (fun H locs w => ?_)
  refine lv_aload_n F.x F.b dX3_takeSlot_48 rfl (lv_at hl 0 rfl) ?_
  refine rg F w cl3 1 (at_Sh_1 _ _ _) 4 (by decide) q75 rfl (v := .ref (a 6)) rfl dX3_takeSlot_49 ?_
  refine lv_iload_n F.x F.b dX3_takeSlot_52 rfl (lv_at hl 3 rfl) ?_
  refine lv_aload_n F.x F.b dX3_takeSlot_53 rfl (lv_at hl 1 rfl) ?_
  refine rg F w cl3 1 (at_Sh_1 _ _ _) 4 (by decide) q75 rfl (v := .ref (a 6)) rfl dX3_takeSlot_54 ?_
  refine lv_iload_n F.x F.b dX3_takeSlot_57 rfl (lv_at hl 2 rfl) ?_
  obtain ⟨g9, h⟩ := gd h
  refine ri F w 6 (n := 16) (f := (wrA (wrA (wrA (wrA S 0 x3 (S.2 0 (Int32.toNatClampNeg x2))) 1 x3 (vp_nar .char (S.2 1 (Int32.toNatClampNeg x2)))) 2 x3 (S.2 2 (Int32.toNatClampNeg x2))) 3 x3 (S.2 3 (Int32.toNatClampNeg x2))).2 4) (at_Sh_6 _ _ _) g9 dX3_takeSlot_58 ?_
  obtain ⟨g10, h⟩ := gd h
  refine ris F w (ws' := wSh G.2.1 a (wrA (wrA (wrA (wrA (wrA S 0 x3 (S.2 0 (Int32.toNatClampNeg x2))) 1 x3 (vp_nar .char (S.2 1 (Int32.toNatClampNeg x2)))) 2 x3 (S.2 2 (Int32.toNatClampNeg x2))) 3 x3 (S.2 3 (Int32.toNatClampNeg x2))) 4 x3 (S.2 4 (Int32.toNatClampNeg x2)))) 6 (n := 16) (f := (wrA (wrA (wrA (wrA S 0 x3 (S.2 0 (Int32.toNatClampNeg x2))) 1 x3 (vp_nar .char (S.2 1 (Int32.toNatClampNeg x2)))) 2 x3 (S.2 2 (Int32.toNatClampNeg x2))) 3 x3 (S.2 3 (Int32.toNatClampNeg x2))).2 4) (at_Sh_6 _ _ _) g10 (st_Sh_6 _ _ _ _ _) dX3_takeSlot_59 (fun H locs w => ?_)
  refine lv_aload_n F.x F.b dX3_takeSlot_60 rfl (lv_at hl 0 rfl) ?_
  refine rg F w cl3 1 (at_Sh_1 _ _ _) 5 (by decide) q78 rfl (v := .ref (a 7)) rfl dX3_takeSlot_61 ?_
  refine lv_iload_n F.x F.b dX3_takeSlot_64 rfl (lv_at hl 3 rfl) ?_
  refine lv_aload_n F.x F.b dX3_takeSlot_65 rfl (lv_at hl 1 rfl) ?_
  refine rg F w cl3 1 (at_Sh_1 _ _ _) 5 (by decide) q78 rfl (v := .ref (a 7)) rfl dX3_takeSlot_66 ?_
  refine lv_iload_n F.x F.b dX3_takeSlot_69 rfl (lv_at hl 2 rfl) ?_
  obtain ⟨g11, h⟩ := gd h
  refine rz F w 7 (n := 16) (f := (wrA (wrA (wrA (wrA (wrA S 0 x3 (S.2 0 (Int32.toNatClampNeg x2))) 1 x3 (vp_nar .char (S.2 1 (Int32.toNatClampNeg x2)))) 2 x3 (S.2 2 (Int32.toNatClampNeg x2))) 3 x3 (S.2 3 (Int32.toNatClampNeg x2))) 4 x3 (S.2 4 (Int32.toNatClampNeg x2))).2 5) (at_Sh_7 _ _ _) g11 dX3_takeSlot_70 ?_
  obtain ⟨g12, h⟩ := gd h
  refine rzs F w (ws' := wSh G.2.1 a (wrA (wrA (wrA (wrA (wrA (wrA S 0 x3 (S.2 0 (Int32.toNatClampNeg x2))) 1 x3 (vp_nar .char (S.2 1 (Int32.toNatClampNeg x2)))) 2 x3 (S.2 2 (Int32.toNatClampNeg x2))) 3 x3 (S.2 3 (Int32.toNatClampNeg x2))) 4 x3 (S.2 4 (Int32.toNatClampNeg x2))) 5 x3 (vp_nar .boolean (S.2 5 (Int32.toNatClampNeg x2))))) 7 (n := 16) (f := (wrA (wrA (wrA (wrA (wrA S 0 x3 (S.2 0 (Int32.toNatClampNeg x2))) 1 x3 (vp_nar .char (S.2 1 (Int32.toNatClampNeg x2)))) 2 x3 (S.2 2 (Int32.toNatClampNeg x2))) 3 x3 (S.2 3 (Int32.toNatClampNeg x2))) 4 x3 (S.2 4 (Int32.toNatClampNeg x2))).2 5) (at_Sh_7 _ _ _) g12 (st_Sh_7 _ _ _ _ _) dX3_takeSlot_71 (fun H locs w => ?_)
  refine lv_aload_n F.x F.b dX3_takeSlot_72 rfl (lv_at hl 0 rfl) ?_
  refine rg F w cl3 1 (at_Sh_1 _ _ _) 6 (by decide) q81 rfl (v := .ref (a 8)) rfl dX3_takeSlot_73 ?_
  refine lv_iload_n F.x F.b dX3_takeSlot_76 rfl (lv_at hl 3 rfl) ?_
  refine lv_aload_n F.x F.b dX3_takeSlot_77 rfl (lv_at hl 1 rfl) ?_
  refine rg F w cl3 1 (at_Sh_1 _ _ _) 6 (by decide) q81 rfl (v := .ref (a 8)) rfl dX3_takeSlot_78 ?_
  refine lv_iload_n F.x F.b dX3_takeSlot_81 rfl (lv_at hl 2 rfl) ?_
  obtain ⟨g13, h⟩ := gd h
  refine rz F w 8 (n := 16) (f := (wrA (wrA (wrA (wrA (wrA (wrA S 0 x3 (S.2 0 (Int32.toNatClampNeg x2))) 1 x3 (vp_nar .char (S.2 1 (Int32.toNatClampNeg x2)))) 2 x3 (S.2 2 (Int32.toNatClampNeg x2))) 3 x3 (S.2 3 (Int32.toNatClampNeg x2))) 4 x3 (S.2 4 (Int32.toNatClampNeg x2))) 5 x3 (vp_nar .boolean (S.2 5 (Int32.toNatClampNeg x2)))).2 6) (at_Sh_8 _ _ _) g13 dX3_takeSlot_82 ?_
  obtain ⟨g14, h⟩ := gd h
  refine rzs F w (ws' := wSh G.2.1 a (wrA (wrA (wrA (wrA (wrA (wrA (wrA S 0 x3 (S.2 0 (Int32.toNatClampNeg x2))) 1 x3 (vp_nar .char (S.2 1 (Int32.toNatClampNeg x2)))) 2 x3 (S.2 2 (Int32.toNatClampNeg x2))) 3 x3 (S.2 3 (Int32.toNatClampNeg x2))) 4 x3 (S.2 4 (Int32.toNatClampNeg x2))) 5 x3 (vp_nar .boolean (S.2 5 (Int32.toNatClampNeg x2)))) 6 x3 (vp_nar .boolean (S.2 6 (Int32.toNatClampNeg x2))))) 8 (n := 16) (f := (wrA (wrA (wrA (wrA (wrA (wrA S 0 x3 (S.2 0 (Int32.toNatClampNeg x2))) 1 x3 (vp_nar .char (S.2 1 (Int32.toNatClampNeg x2)))) 2 x3 (S.2 2 (Int32.toNatClampNeg x2))) 3 x3 (S.2 3 (Int32.toNatClampNeg x2))) 4 x3 (S.2 4 (Int32.toNatClampNeg x2))) 5 x3 (vp_nar .boolean (S.2 5 (Int32.toNatClampNeg x2)))).2 6) (at_Sh_8 _ _ _) g14 (st_Sh_8 _ _ _ _ _) dX3_takeSlot_83 (fun H locs w => ?_)
  have z0 := sm h
  exact ev F w hr hlocks (by rw [← z0]) dX3_takeSlot_84
set_option maxRecDepth 100000 in
set_option maxHeartbeats 4000000 in
theorem t_X3_remove {G : cG} (g : GOK G) {a : Nat → Nat} {S : Mem} {x1 : Int32} {S' : Mem} (h : f_X3_remove S x1 = some S') : CV G yX3_remove cX3_remove 3 1 23 [.ref (a 1), .int x1] (wSh G.2.1 a S) (wSh G.2.1 a S') := by
  unfold f_X3_remove at h
  refine CV.of g (by decide) rfl (Nat.le_of_ble_eq_true rfl) ?_
  intro p l e s m below meth c A ls F hr hlocks w hl
  generalize ([.ref (a 1), .int x1] : List Value).toArray = args
  have hl : lv_has ls 3 [(0, .ref (a 1)), (1, .int x1)] := hl
  have L2 : ∀ {k : Mem → Option (Mem)} (n : Nat) (x2 : Int32) (S : Mem) (H : Heap) (locs : List Loc) (ls : Array Slot), Wd G A s.heap (wSh G.2.1 a S) H locs → lv_has ls 3 [(0, .ref (a 1)), (2, .int x2)] → f_X3_remove_L2 k n x2 S = some S' → (∀ (S : Mem) (H : Heap) (locs : List Loc) (ls : Array Slot), Wd G A s.heap (wSh G.2.1 a S) H locs → lv_has ls 3 [(0, .ref (a 1))] → k S = some S' → W p l e { frames := 1, cells := 0, slots := 0, locals := 23 } s m args below meth c H locs 0 0 (QV G A (wSh G.2.1 a S') below args s) (F0 m 27 ls [])) → W p l e { frames := 1, cells := 0, slots := 0, locals := 23 } s m args below meth c H locs 0 0 (QV G A (wSh G.2.1 a S') below args s) (F0 m 2 ls []) := by
    clear h w hl
    intro k n
    induction n with
    | zero =>
      intro x2 S H locs ls w hl h hk
      exact nomatch (show (none : Option (Mem)) = some S' from h)
    | succ n ih =>
      intro x2 S H locs ls w hl h hk
      rw [f_X3_remove_L2] at h
      refine lv_iload_n F.x F.b dX3_remove_2 rfl (lv_at hl 1 rfl) ?_
      refine lv_iconst (v := 1) F.x F.b dX3_remove_3 (by decide) ?_
      refine lv_iadd F.x F.b dX3_remove_4 ?_
      refine lv_aload_n F.x F.b dX3_remove_5 rfl (lv_at hl 0 rfl) ?_
      refine rg F w cl3 1 (at_Sh_1 _ _ _) 7 (by decide) q84 rfl (v := .int (S.1 0)) rfl dX3_remove_6 ?_
      refine lv_icmp_ge (tgt := 27) F.x F.b dX3_remove_9 (by decide) (fun c1 => ?_) (fun c1 => ?_)
      · have h := it c1 h
        exact hk S _ _ _ w (lv_sub hl [0] rfl) h
      · have h := ie c1 h
        refine lv_aload_n F.x F.b dX3_remove_12 rfl (lv_at hl 0 rfl) ?_
        refine lv_aload_n F.x F.b dX3_remove_13 rfl (lv_at hl 0 rfl) ?_
        refine lv_iload_n F.x F.b dX3_remove_14 rfl (lv_at hl 1 rfl) ?_
        refine lv_iconst (v := 1) F.x F.b dX3_remove_15 (by decide) ?_
        refine lv_iadd F.x F.b dX3_remove_16 ?_
        refine lv_iload_n F.x F.b dX3_remove_17 rfl (lv_at hl 1 rfl) ?_
        obtain ⟨S_2, hc3, h⟩ := bd h
        try dsimp only at h
        refine kVv0 F w (As := [.ref (a 1), .int (x2 + 1), .int x2]) (rest := []) (w1 := wSh G.2.1 a S_2) (t_X3_takeSlot_s F.1 hc3) m_X3_takeSlot v_X3_takeSlot q550 (ci := 7) (q0 := 1) rfl rfl rfl ⟨Nat.le_of_ble_eq_true rfl, Nat.le_of_ble_eq_true rfl⟩ rfl hl.1 rfl (Nat.le_of_ble_eq_true rfl) dX3_remove_18 ⟨Nat.le_of_ble_eq_true rfl, Nat.le_of_ble_eq_true rfl⟩ (fun H locs w => ?_)
        refine lv_iinc (v := (x2 + 1)) (lv' := [(2, .int (x2 + 1)), (0, .ref (a 1))]) F.x F.b dX3_remove_21 hl (k := 1) rfl rfl (by decide) rfl (fun ls hl => ?_)
        refine lv_goto (tgt := 2) F.x F.b dX3_remove_24 (by decide) ?_
        exact ih (x2 + 1) S_2 _ _ _ w (lv_sub hl [1, 0] rfl) h hk
  refine lv_iload_n F.x F.b dX3_remove_0 rfl (lv_at hl 1 rfl) ?_
  refine lv_istore_n (lv' := [(2, .int x1), (0, .ref (a 1)), (1, .int x1)]) F.x F.b dX3_remove_1 rfl hl (by decide) rfl (fun ls hl => ?_)
  refine L2 _ x1 S _ _ _ w (lv_sub hl [1, 0] rfl) h ?_
  intro S_4 H locs ls w hl h
  try dsimp only at h
  refine lv_aload_n F.x F.b dX3_remove_27 rfl (lv_at hl 0 rfl) ?_
  refine lv_dup F.x F.b dX3_remove_28 rfl ?_
  refine rg F w cl3 1 (at_Sh_1 _ _ _) 7 (by decide) q84 rfl (v := .int (S_4.1 0)) rfl dX3_remove_29 ?_
  refine lv_iconst (v := 1) F.x F.b dX3_remove_32 (by decide) ?_
  refine lv_isub F.x F.b dX3_remove_33 ?_
  refine rp F w (ws' := wSh G.2.1 a (wrI S_4 0 ((S_4.1 0) - 1))) cl3 1 (at_Sh_1 _ _ _) 7 (by decide) q84 rfl rfl rfl rfl (Nat.le_of_ble_eq_true rfl) (pt_Sh_1_7 _ _ _ _) dX3_remove_34 (fun H locs w => ?_)
  have z0 := sm h
  exact ev F w hr hlocks (by rw [← z0]) dX3_remove_37
set_option maxRecDepth 100000 in
set_option maxHeartbeats 4000000 in
theorem t_X3_baysOfDamp {G : cG} (g : GOK G) {a : Nat → Nat} {S : Mem} {r : Int32} (h : f_X3_baysOfDamp S = some r) : CI G yX3_baysOfDamp cX3_baysOfDamp 3 .int 0 0 [.ref (a 1)] (wSh G.2.1 a S) (wSh G.2.1 a S) r := by
  unfold f_X3_baysOfDamp at h
  refine CI.of g (by decide) rfl (Nat.le_of_ble_eq_true rfl) ?_
  intro p l e s m below meth c A ls F hr hlocks w hl
  generalize ([.ref (a 1)] : List Value).toArray = args
  have hl : lv_has ls 3 [(0, .ref (a 1))] := hl
  have L4 : ∀ (S : Mem) {k : Int32 → Option (Int32)} (n : Nat) (x1 : Int32) (x2 : Int32) (H : Heap) (locs : List Loc) (ls : Array Slot), Wd G A s.heap (wSh G.2.1 a S) H locs → lv_has ls 3 [(0, .ref (a 1)), (1, .int x1), (2, .int x2)] → f_X3_baysOfDamp_L4 S k n x1 x2 = some r → (∀ (x1 : Int32) (H : Heap) (locs : List Loc) (ls : Array Slot), Wd G A s.heap (wSh G.2.1 a S) H locs → lv_has ls 3 [(1, .int x1)] → k x1 = some r → W p l e { frames := 0, cells := 0, slots := 0, locals := 0 } s m args below meth c H locs 0 0 (QI G A (wSh G.2.1 a S) r below args s) (F0 m 38 ls [])) → W p l e { frames := 0, cells := 0, slots := 0, locals := 0 } s m args below meth c H locs 0 0 (QI G A (wSh G.2.1 a S) r below args s) (F0 m 4 ls []) := by
    clear h w hl
    intro S k n
    induction n with
    | zero =>
      intro x1 x2 H locs ls w hl h hk
      exact nomatch (show (none : Option (Int32)) = some r from h)
    | succ n ih =>
      intro x1 x2 H locs ls w hl h hk
      rw [f_X3_baysOfDamp_L4] at h
      refine lv_iload_n F.x F.b dX3_baysOfDamp_4 rfl (lv_at hl 2 rfl) ?_
      refine lv_aload_n F.x F.b dX3_baysOfDamp_5 rfl (lv_at hl 0 rfl) ?_
      refine rg F w cl3 1 (at_Sh_1 _ _ _) 7 (by decide) q84 rfl (v := .int (S.1 0)) rfl dX3_baysOfDamp_6 ?_
      refine lv_icmp_ge (tgt := 38) F.x F.b dX3_baysOfDamp_9 (by decide) (fun c1 => ?_) (fun c1 => ?_)
      · have h := it c1 h
        exact hk x1 _ _ _ w (lv_sub hl [1] rfl) h
      · have h := ie c1 h
        refine lv_aload_n F.x F.b dX3_baysOfDamp_12 rfl (lv_at hl 0 rfl) ?_
        refine rg F w cl3 1 (at_Sh_1 _ _ _) 6 (by decide) q81 rfl (v := .ref (a 8)) rfl dX3_baysOfDamp_13 ?_
        refine lv_iload_n F.x F.b dX3_baysOfDamp_16 rfl (lv_at hl 2 rfl) ?_
        obtain ⟨g2, h⟩ := gd h
        refine rz F w 8 (n := 16) (f := S.2 6) (at_Sh_8 _ _ _) g2 dX3_baysOfDamp_17 ?_
        refine lv_if_eq (tgt := 32) F.x F.b dX3_baysOfDamp_18 (by decide) (fun c3 => ?_) (fun c3 => ?_)
        · have h := it c3 h
          refine lv_iinc (v := (x2 + 1)) (lv' := [(2, .int (x2 + 1)), (0, .ref (a 1)), (1, .int x1)]) F.x F.b dX3_baysOfDamp_32 hl (k := 2) rfl rfl (by decide) rfl (fun ls hl => ?_)
          refine lv_goto (tgt := 4) F.x F.b dX3_baysOfDamp_35 (by decide) ?_
          exact ih x1 (x2 + 1) _ _ _ w (lv_sub hl [1, 2, 0] rfl) h hk
        · have h := ie c3 h
          refine lv_iload_n F.x F.b dX3_baysOfDamp_21 rfl (lv_at hl 1 rfl) ?_
          refine lv_iconst (v := 1) F.x F.b dX3_baysOfDamp_22 (by decide) ?_
          refine lv_aload_n F.x F.b dX3_baysOfDamp_23 rfl (lv_at hl 0 rfl) ?_
          refine rg F w cl3 1 (at_Sh_1 _ _ _) 4 (by decide) q75 rfl (v := .ref (a 6)) rfl dX3_baysOfDamp_24 ?_
          refine lv_iload_n F.x F.b dX3_baysOfDamp_27 rfl (lv_at hl 2 rfl) ?_
          obtain ⟨g4, h⟩ := gd h
          refine ri F w 6 (n := 16) (f := S.2 4) (at_Sh_6 _ _ _) g4 dX3_baysOfDamp_28 ?_
          refine lv_ishl F.x F.b dX3_baysOfDamp_29 ?_
          refine lv_ior F.x F.b dX3_baysOfDamp_30 ?_
          refine lv_istore_n (lv' := [(1, .int (x1 ||| ((1 : Int32) <<< ((S.2 4 (Int32.toNatClampNeg x2)) &&& 31)))), (0, .ref (a 1)), (2, .int x2)]) F.x F.b dX3_baysOfDamp_31 rfl hl (by decide) rfl (fun ls hl => ?_)
          refine lv_iinc (v := (x2 + 1)) (lv' := [(2, .int (x2 + 1)), (1, .int (x1 ||| ((1 : Int32) <<< ((S.2 4 (Int32.toNatClampNeg x2)) &&& 31)))), (0, .ref (a 1))]) F.x F.b dX3_baysOfDamp_32 hl (k := 2) rfl rfl (by decide) rfl (fun ls hl => ?_)
          refine lv_goto (tgt := 4) F.x F.b dX3_baysOfDamp_35 (by decide) ?_
          exact ih (x1 ||| ((1 : Int32) <<< ((S.2 4 (Int32.toNatClampNeg x2)) &&& 31))) (x2 + 1) _ _ _ w (lv_sub hl [2, 1, 0] rfl) h hk
  refine lv_iconst (v := 0) F.x F.b dX3_baysOfDamp_0 (by decide) ?_
  refine lv_istore_n (lv' := [(1, .int 0), (0, .ref (a 1))]) F.x F.b dX3_baysOfDamp_1 rfl hl (by decide) rfl (fun ls hl => ?_)
  refine lv_iconst (v := 0) F.x F.b dX3_baysOfDamp_2 (by decide) ?_
  refine lv_istore_n (lv' := [(2, .int 0), (1, .int 0), (0, .ref (a 1))]) F.x F.b dX3_baysOfDamp_3 rfl hl (by decide) rfl (fun ls hl => ?_)
  refine L4 S _ 0 0 _ _ _ w (lv_sub hl [2, 1, 0] rfl) h ?_
  intro y5_1 H locs ls w hl h
  try dsimp only at h
  refine lv_iload_n F.x F.b dX3_baysOfDamp_38 rfl (lv_at hl 0 rfl) ?_
  have z0 := sm h
  exact ei F w hr hlocks rfl z0 rfl dX3_baysOfDamp_39
set_option maxRecDepth 100000 in
set_option maxHeartbeats 4000000 in
theorem t_X3_baysOfOpen {G : cG} (g : GOK G) {a : Nat → Nat} {S : Mem} {r : Int32} (h : f_X3_baysOfOpen S = some r) : CI G yX3_baysOfOpen cX3_baysOfOpen 3 .int 0 0 [.ref (a 1)] (wSh G.2.1 a S) (wSh G.2.1 a S) r := by
  unfold f_X3_baysOfOpen at h
  refine CI.of g (by decide) rfl (Nat.le_of_ble_eq_true rfl) ?_
  intro p l e s m below meth c A ls F hr hlocks w hl
  generalize ([.ref (a 1)] : List Value).toArray = args
  have hl : lv_has ls 3 [(0, .ref (a 1))] := hl
  have L4 : ∀ (S : Mem) {k : Int32 → Option (Int32)} (n : Nat) (x1 : Int32) (x2 : Int32) (H : Heap) (locs : List Loc) (ls : Array Slot), Wd G A s.heap (wSh G.2.1 a S) H locs → lv_has ls 3 [(0, .ref (a 1)), (1, .int x1), (2, .int x2)] → f_X3_baysOfOpen_L4 S k n x1 x2 = some r → (∀ (x1 : Int32) (H : Heap) (locs : List Loc) (ls : Array Slot), Wd G A s.heap (wSh G.2.1 a S) H locs → lv_has ls 3 [(1, .int x1)] → k x1 = some r → W p l e { frames := 0, cells := 0, slots := 0, locals := 0 } s m args below meth c H locs 0 0 (QI G A (wSh G.2.1 a S) r below args s) (F0 m 38 ls [])) → W p l e { frames := 0, cells := 0, slots := 0, locals := 0 } s m args below meth c H locs 0 0 (QI G A (wSh G.2.1 a S) r below args s) (F0 m 4 ls []) := by
    clear h w hl
    intro S k n
    induction n with
    | zero =>
      intro x1 x2 H locs ls w hl h hk
      exact nomatch (show (none : Option (Int32)) = some r from h)
    | succ n ih =>
      intro x1 x2 H locs ls w hl h hk
      rw [f_X3_baysOfOpen_L4] at h
      refine lv_iload_n F.x F.b dX3_baysOfOpen_4 rfl (lv_at hl 2 rfl) ?_
      refine lv_aload_n F.x F.b dX3_baysOfOpen_5 rfl (lv_at hl 0 rfl) ?_
      refine rg F w cl3 1 (at_Sh_1 _ _ _) 7 (by decide) q84 rfl (v := .int (S.1 0)) rfl dX3_baysOfOpen_6 ?_
      refine lv_icmp_ge (tgt := 38) F.x F.b dX3_baysOfOpen_9 (by decide) (fun c1 => ?_) (fun c1 => ?_)
      · have h := it c1 h
        exact hk x1 _ _ _ w (lv_sub hl [1] rfl) h
      · have h := ie c1 h
        refine lv_aload_n F.x F.b dX3_baysOfOpen_12 rfl (lv_at hl 0 rfl) ?_
        refine rg F w cl3 1 (at_Sh_1 _ _ _) 5 (by decide) q78 rfl (v := .ref (a 7)) rfl dX3_baysOfOpen_13 ?_
        refine lv_iload_n F.x F.b dX3_baysOfOpen_16 rfl (lv_at hl 2 rfl) ?_
        obtain ⟨g2, h⟩ := gd h
        refine rz F w 7 (n := 16) (f := S.2 5) (at_Sh_7 _ _ _) g2 dX3_baysOfOpen_17 ?_
        refine lv_if_ne (tgt := 32) F.x F.b dX3_baysOfOpen_18 (by decide) (fun c3 => ?_) (fun c3 => ?_)
        · have h := ie c3 h
          refine lv_iinc (v := (x2 + 1)) (lv' := [(2, .int (x2 + 1)), (0, .ref (a 1)), (1, .int x1)]) F.x F.b dX3_baysOfOpen_32 hl (k := 2) rfl rfl (by decide) rfl (fun ls hl => ?_)
          refine lv_goto (tgt := 4) F.x F.b dX3_baysOfOpen_35 (by decide) ?_
          exact ih x1 (x2 + 1) _ _ _ w (lv_sub hl [1, 2, 0] rfl) h hk
        · have h := it c3 h
          refine lv_iload_n F.x F.b dX3_baysOfOpen_21 rfl (lv_at hl 1 rfl) ?_
          refine lv_iconst (v := 1) F.x F.b dX3_baysOfOpen_22 (by decide) ?_
          refine lv_aload_n F.x F.b dX3_baysOfOpen_23 rfl (lv_at hl 0 rfl) ?_
          refine rg F w cl3 1 (at_Sh_1 _ _ _) 4 (by decide) q75 rfl (v := .ref (a 6)) rfl dX3_baysOfOpen_24 ?_
          refine lv_iload_n F.x F.b dX3_baysOfOpen_27 rfl (lv_at hl 2 rfl) ?_
          obtain ⟨g4, h⟩ := gd h
          refine ri F w 6 (n := 16) (f := S.2 4) (at_Sh_6 _ _ _) g4 dX3_baysOfOpen_28 ?_
          refine lv_ishl F.x F.b dX3_baysOfOpen_29 ?_
          refine lv_ior F.x F.b dX3_baysOfOpen_30 ?_
          refine lv_istore_n (lv' := [(1, .int (x1 ||| ((1 : Int32) <<< ((S.2 4 (Int32.toNatClampNeg x2)) &&& 31)))), (0, .ref (a 1)), (2, .int x2)]) F.x F.b dX3_baysOfOpen_31 rfl hl (by decide) rfl (fun ls hl => ?_)
          refine lv_iinc (v := (x2 + 1)) (lv' := [(2, .int (x2 + 1)), (1, .int (x1 ||| ((1 : Int32) <<< ((S.2 4 (Int32.toNatClampNeg x2)) &&& 31)))), (0, .ref (a 1))]) F.x F.b dX3_baysOfOpen_32 hl (k := 2) rfl rfl (by decide) rfl (fun ls hl => ?_)
          refine lv_goto (tgt := 4) F.x F.b dX3_baysOfOpen_35 (by decide) ?_
          exact ih (x1 ||| ((1 : Int32) <<< ((S.2 4 (Int32.toNatClampNeg x2)) &&& 31))) (x2 + 1) _ _ _ w (lv_sub hl [2, 1, 0] rfl) h hk
  refine lv_iconst (v := 0) F.x F.b dX3_baysOfOpen_0 (by decide) ?_
  refine lv_istore_n (lv' := [(1, .int 0), (0, .ref (a 1))]) F.x F.b dX3_baysOfOpen_1 rfl hl (by decide) rfl (fun ls hl => ?_)
  refine lv_iconst (v := 0) F.x F.b dX3_baysOfOpen_2 (by decide) ?_
  refine lv_istore_n (lv' := [(2, .int 0), (1, .int 0), (0, .ref (a 1))]) F.x F.b dX3_baysOfOpen_3 rfl hl (by decide) rfl (fun ls hl => ?_)
  refine L4 S _ 0 0 _ _ _ w (lv_sub hl [2, 1, 0] rfl) h ?_
  intro y5_1 H locs ls w hl h
  try dsimp only at h
  refine lv_iload_n F.x F.b dX3_baysOfOpen_38 rfl (lv_at hl 0 rfl) ?_
  have z0 := sm h
  exact ei F w hr hlocks rfl z0 rfl dX3_baysOfOpen_39
set_option maxRecDepth 100000 in
set_option maxHeartbeats 4000000 in
theorem t_X3_spreadFrom {G : cG} (g : GOK G) {a : Nat → Nat} {S : Mem} {x1 : Int32} {S' : Mem} (h : f_X3_spreadFrom S x1 = some S') : CV G yX3_spreadFrom cX3_spreadFrom 5 2 41 [.ref (a 1), .int x1] (wSh G.2.1 a S) (wSh G.2.1 a S') := by
  unfold f_X3_spreadFrom at h
  refine CV.of g (by decide) rfl (Nat.le_of_ble_eq_true rfl) ?_
  intro p l e s m below meth c A ls F hr hlocks w hl
  generalize ([.ref (a 1), .int x1] : List Value).toArray = args
  have hl : lv_has ls 5 [(0, .ref (a 1)), (1, .int x1)] := hl
  have L2 : ∀ (x1 : Int32) {k : Mem → Option (Mem)} (n : Nat) (x2 : Int32) (S : Mem) (H : Heap) (locs : List Loc) (ls : Array Slot), Wd G A s.heap (wSh G.2.1 a S) H locs → lv_has ls 5 [(0, .ref (a 1)), (1, .int x1), (2, .int x2)] → f_X3_spreadFrom_L2 x1 k n x2 S = some S' → (∀ (S : Mem) (H : Heap) (locs : List Loc) (ls : Array Slot), Wd G A s.heap (wSh G.2.1 a S) H locs → lv_has ls 5 [] → k S = some S' → W p l e { frames := 2, cells := 0, slots := 0, locals := 41 } s m args below meth c H locs 0 0 (QV G A (wSh G.2.1 a S') below args s) (F0 m 71 ls [])) → W p l e { frames := 2, cells := 0, slots := 0, locals := 41 } s m args below meth c H locs 0 0 (QV G A (wSh G.2.1 a S') below args s) (F0 m 2 ls []) := by
    clear h w hl
    intro x1 k n
    induction n with
    | zero =>
      intro x2 S H locs ls w hl h hk
      exact nomatch (show (none : Option (Mem)) = some S' from h)
    | succ n ih =>
      intro x2 S H locs ls w hl h hk
      rw [f_X3_spreadFrom_L2] at h
      refine lv_iload_n F.x F.b dX3_spreadFrom_2 rfl (lv_at hl 2 rfl) ?_
      refine lv_aload_n F.x F.b dX3_spreadFrom_3 rfl (lv_at hl 0 rfl) ?_
      refine rg F w cl3 1 (at_Sh_1 _ _ _) 7 (by decide) q84 rfl (v := .int (S.1 0)) rfl dX3_spreadFrom_4 ?_
      refine lv_icmp_ge (tgt := 71) F.x F.b dX3_spreadFrom_7 (by decide) (fun c1 => ?_) (fun c1 => ?_)
      · have h := it c1 h
        exact hk S _ _ _ w (lv_sub hl [] rfl) h
      · have h := ie c1 h
        refine lv_aload_n F.x F.b dX3_spreadFrom_10 rfl (lv_at hl 0 rfl) ?_
        refine rg F w cl3 1 (at_Sh_1 _ _ _) 4 (by decide) q75 rfl (v := .ref (a 6)) rfl dX3_spreadFrom_11 ?_
        refine lv_iload_n F.x F.b dX3_spreadFrom_14 rfl (lv_at hl 2 rfl) ?_
        obtain ⟨g2, h⟩ := gd h
        refine ri F w 6 (n := 16) (f := S.2 4) (at_Sh_6 _ _ _) g2 dX3_spreadFrom_15 ?_
        refine lv_istore_n (lv' := [(3, .int (S.2 4 (Int32.toNatClampNeg x2))), (0, .ref (a 1)), (1, .int x1), (2, .int x2)]) F.x F.b dX3_spreadFrom_16 rfl hl (by decide) rfl (fun ls hl => ?_)
        refine lv_iload_n F.x F.b dX3_spreadFrom_17 rfl (lv_at hl 2 rfl) ?_
        refine lv_iload_n F.x F.b dX3_spreadFrom_18 rfl (lv_at hl 0 rfl) ?_
        refine lv_iconst (v := 1) F.x F.b dX3_spreadFrom_19 (by decide) ?_
        refine lv_isub F.x F.b dX3_spreadFrom_20 ?_
        obtain ⟨r3, hc4, h⟩ := bd h
        try dsimp only at h
        refine kSNi F w (t_X6_hasBay F.1 hc4) m_X6_hasBay v_X6_hasBay q578 (As := [.int x1, .int ((S.2 4 (Int32.toNatClampNeg x2)) - 1)]) (rest := []) ⟨Nat.le_of_ble_eq_true rfl, Nat.le_of_ble_eq_true rfl⟩ rfl hl.1 rfl (Nat.le_of_ble_eq_true rfl) dX3_spreadFrom_21 ⟨Nat.le_of_ble_eq_true rfl, Nat.le_of_ble_eq_true rfl⟩ (fun H locs w => ?_)
        refine lv_if_ne (tgt := 37) F.x F.b dX3_spreadFrom_24 (by decide) (fun c5 => ?_) (fun c5 => ?_)
        · have h := ie c5 h
          refine lv_iconst (v := 1) F.x F.b dX3_spreadFrom_37 (by decide) ?_
          refine lv_goto (tgt := 42) F.x F.b dX3_spreadFrom_38 (by decide) ?_
          refine lv_istore (lv' := [(4, .int 1), (3, .int (S.2 4 (Int32.toNatClampNeg x2))), (0, .ref (a 1)), (1, .int x1), (2, .int x2)]) F.x F.b dX3_spreadFrom_42 hl (by decide) rfl (fun ls hl => ?_)
          refine lv_iload F.x F.b dX3_spreadFrom_44 (lv_at hl 0 rfl) ?_
          refine lv_if_eq (tgt := 65) F.x F.b dX3_spreadFrom_46 (by decide) (fun c9 => absurd c9 (by decide)) (fun _ => ?_)
          refine lv_aload_n F.x F.b dX3_spreadFrom_49 rfl (lv_at hl 2 rfl) ?_
          refine rg F w cl3 1 (at_Sh_1 _ _ _) 5 (by decide) q78 rfl (v := .ref (a 7)) rfl dX3_spreadFrom_50 ?_
          refine lv_iload_n F.x F.b dX3_spreadFrom_53 rfl (lv_at hl 4 rfl) ?_
          obtain ⟨g6, h⟩ := gd h
          refine rz F w 7 (n := 16) (f := S.2 5) (at_Sh_7 _ _ _) g6 dX3_spreadFrom_54 ?_
          refine lv_if_ne (tgt := 65) F.x F.b dX3_spreadFrom_55 (by decide) (fun c7 => ?_) (fun c7 => ?_)
          · have h := ie c7 h
            refine lv_iinc (v := (x2 + 1)) (lv' := [(2, .int (x2 + 1)), (4, .int 1), (3, .int (S.2 4 (Int32.toNatClampNeg x2))), (0, .ref (a 1)), (1, .int x1)]) F.x F.b dX3_spreadFrom_65 hl (k := 4) rfl rfl (by decide) rfl (fun ls hl => ?_)
            refine lv_goto (tgt := 2) F.x F.b dX3_spreadFrom_68 (by decide) ?_
            exact ih (x2 + 1) S _ _ _ w (lv_sub hl [3, 4, 0] rfl) h hk
          · have h := it c7 h
            refine lv_aload_n F.x F.b dX3_spreadFrom_58 rfl (lv_at hl 2 rfl) ?_
            refine rg F w cl3 1 (at_Sh_1 _ _ _) 6 (by decide) q81 rfl (v := .ref (a 8)) rfl dX3_spreadFrom_59 ?_
            refine lv_iload_n F.x F.b dX3_spreadFrom_62 rfl (lv_at hl 4 rfl) ?_
            refine lv_iconst (v := 1) F.x F.b dX3_spreadFrom_63 (by decide) ?_
            obtain ⟨g8, h⟩ := gd h
            refine rzs F w (ws' := wSh G.2.1 a (wrA S 6 x2 (vp_nar .boolean 1))) 8 (n := 16) (f := S.2 6) (at_Sh_8 _ _ _) g8 (st_Sh_8 _ _ _ _ _) dX3_spreadFrom_64 (fun H locs w => ?_)
            refine lv_iinc (v := (x2 + 1)) (lv' := [(2, .int (x2 + 1)), (4, .int 1), (3, .int (S.2 4 (Int32.toNatClampNeg x2))), (0, .ref (a 1)), (1, .int x1)]) F.x F.b dX3_spreadFrom_65 hl (k := 4) rfl rfl (by decide) rfl (fun ls hl => ?_)
            refine lv_goto (tgt := 2) F.x F.b dX3_spreadFrom_68 (by decide) ?_
            exact ih (x2 + 1) (wrA S 6 x2 (vp_nar .boolean 1)) _ _ _ w (lv_sub hl [3, 4, 0] rfl) h hk
        · have h := it c5 h
          refine lv_iload_n F.x F.b dX3_spreadFrom_27 rfl (lv_at hl 2 rfl) ?_
          refine lv_iload_n F.x F.b dX3_spreadFrom_28 rfl (lv_at hl 0 rfl) ?_
          refine lv_iconst (v := 1) F.x F.b dX3_spreadFrom_29 (by decide) ?_
          refine lv_iadd F.x F.b dX3_spreadFrom_30 ?_
          obtain ⟨r9, hc10, h⟩ := bd h
          try dsimp only at h
          refine kSNi F w (t_X6_hasBay F.1 hc10) m_X6_hasBay v_X6_hasBay q578 (As := [.int x1, .int ((S.2 4 (Int32.toNatClampNeg x2)) + 1)]) (rest := []) ⟨Nat.le_of_ble_eq_true rfl, Nat.le_of_ble_eq_true rfl⟩ rfl hl.1 rfl (Nat.le_of_ble_eq_true rfl) dX3_spreadFrom_31 ⟨Nat.le_of_ble_eq_true rfl, Nat.le_of_ble_eq_true rfl⟩ (fun H locs w => ?_)
          refine lv_if_eq (tgt := 41) F.x F.b dX3_spreadFrom_34 (by decide) (fun c11 => ?_) (fun c11 => ?_)
          · have h := it c11 h
            refine lv_iconst (v := 0) F.x F.b dX3_spreadFrom_41 (by decide) ?_
            refine lv_istore (lv' := [(4, .int 0), (3, .int (S.2 4 (Int32.toNatClampNeg x2))), (0, .ref (a 1)), (1, .int x1), (2, .int x2)]) F.x F.b dX3_spreadFrom_42 hl (by decide) rfl (fun ls hl => ?_)
            refine lv_iload F.x F.b dX3_spreadFrom_44 (lv_at hl 0 rfl) ?_
            refine lv_if_eq (tgt := 65) F.x F.b dX3_spreadFrom_46 (by decide) (fun _ => ?_) (fun c9 => absurd (by decide) c9)
            refine lv_iinc (v := (x2 + 1)) (lv' := [(2, .int (x2 + 1)), (4, .int 0), (3, .int (S.2 4 (Int32.toNatClampNeg x2))), (0, .ref (a 1)), (1, .int x1)]) F.x F.b dX3_spreadFrom_65 hl (k := 4) rfl rfl (by decide) rfl (fun ls hl => ?_)
            refine lv_goto (tgt := 2) F.x F.b dX3_spreadFrom_68 (by decide) ?_
            exact ih (x2 + 1) S _ _ _ w (lv_sub hl [3, 4, 0] rfl) h hk
          · have h := ie c11 h
            refine lv_iconst (v := 1) F.x F.b dX3_spreadFrom_37 (by decide) ?_
            refine lv_goto (tgt := 42) F.x F.b dX3_spreadFrom_38 (by decide) ?_
            refine lv_istore (lv' := [(4, .int 1), (3, .int (S.2 4 (Int32.toNatClampNeg x2))), (0, .ref (a 1)), (1, .int x1), (2, .int x2)]) F.x F.b dX3_spreadFrom_42 hl (by decide) rfl (fun ls hl => ?_)
            refine lv_iload F.x F.b dX3_spreadFrom_44 (lv_at hl 0 rfl) ?_
            refine lv_if_eq (tgt := 65) F.x F.b dX3_spreadFrom_46 (by decide) (fun c9 => absurd c9 (by decide)) (fun _ => ?_)
            refine lv_aload_n F.x F.b dX3_spreadFrom_49 rfl (lv_at hl 2 rfl) ?_
            refine rg F w cl3 1 (at_Sh_1 _ _ _) 5 (by decide) q78 rfl (v := .ref (a 7)) rfl dX3_spreadFrom_50 ?_
            refine lv_iload_n F.x F.b dX3_spreadFrom_53 rfl (lv_at hl 4 rfl) ?_
            obtain ⟨g12, h⟩ := gd h
            refine rz F w 7 (n := 16) (f := S.2 5) (at_Sh_7 _ _ _) g12 dX3_spreadFrom_54 ?_
            refine lv_if_ne (tgt := 65) F.x F.b dX3_spreadFrom_55 (by decide) (fun c13 => ?_) (fun c13 => ?_)
            · have h := ie c13 h
              refine lv_iinc (v := (x2 + 1)) (lv' := [(2, .int (x2 + 1)), (4, .int 1), (3, .int (S.2 4 (Int32.toNatClampNeg x2))), (0, .ref (a 1)), (1, .int x1)]) F.x F.b dX3_spreadFrom_65 hl (k := 4) rfl rfl (by decide) rfl (fun ls hl => ?_)
              refine lv_goto (tgt := 2) F.x F.b dX3_spreadFrom_68 (by decide) ?_
              exact ih (x2 + 1) S _ _ _ w (lv_sub hl [3, 4, 0] rfl) h hk
            · have h := it c13 h
              refine lv_aload_n F.x F.b dX3_spreadFrom_58 rfl (lv_at hl 2 rfl) ?_
              refine rg F w cl3 1 (at_Sh_1 _ _ _) 6 (by decide) q81 rfl (v := .ref (a 8)) rfl dX3_spreadFrom_59 ?_
              refine lv_iload_n F.x F.b dX3_spreadFrom_62 rfl (lv_at hl 4 rfl) ?_
              refine lv_iconst (v := 1) F.x F.b dX3_spreadFrom_63 (by decide) ?_
              obtain ⟨g14, h⟩ := gd h
              refine rzs F w (ws' := wSh G.2.1 a (wrA S 6 x2 (vp_nar .boolean 1))) 8 (n := 16) (f := S.2 6) (at_Sh_8 _ _ _) g14 (st_Sh_8 _ _ _ _ _) dX3_spreadFrom_64 (fun H locs w => ?_)
              refine lv_iinc (v := (x2 + 1)) (lv' := [(2, .int (x2 + 1)), (4, .int 1), (3, .int (S.2 4 (Int32.toNatClampNeg x2))), (0, .ref (a 1)), (1, .int x1)]) F.x F.b dX3_spreadFrom_65 hl (k := 4) rfl rfl (by decide) rfl (fun ls hl => ?_)
              refine lv_goto (tgt := 2) F.x F.b dX3_spreadFrom_68 (by decide) ?_
              exact ih (x2 + 1) (wrA S 6 x2 (vp_nar .boolean 1)) _ _ _ w (lv_sub hl [3, 4, 0] rfl) h hk
  refine lv_iconst (v := 0) F.x F.b dX3_spreadFrom_0 (by decide) ?_
  refine lv_istore_n (lv' := [(2, .int 0), (0, .ref (a 1)), (1, .int x1)]) F.x F.b dX3_spreadFrom_1 rfl hl (by decide) rfl (fun ls hl => ?_)
  refine L2 x1 _ 0 S _ _ _ w (lv_sub hl [1, 2, 0] rfl) h ?_
  intro S_15 H locs ls w hl h
  try dsimp only at h
  have z0 := sm h
  exact ev F w hr hlocks (by rw [← z0]) dX3_spreadFrom_71
set_option maxRecDepth 100000 in
set_option maxHeartbeats 4000000 in
theorem t_X3_reachByStretches {G : cG} (g : GOK G) {a : Nat → Nat} {S : Mem} {r : Int32} (h : f_X3_reachByStretches S = some r) : CI G yX3_reachByStretches cX3_reachByStretches 6 .int 1 22 [.ref (a 1)] (wSh G.2.1 a S) (wSh G.2.1 a S) r := by
  unfold f_X3_reachByStretches at h
  refine CI.of g (by decide) rfl (Nat.le_of_ble_eq_true rfl) ?_
  intro p l e s m below meth c A ls F hr hlocks w hl
  generalize ([.ref (a 1)] : List Value).toArray = args
  have hl : lv_has ls 6 [(0, .ref (a 1))] := hl
  have L9 : ∀ (S : Mem) {k : Int32 → Option (Int32)} (n : Nat) (x1 : Int32) (x2 : Int32) (x3 : Int32) (x4 : Int32) (H : Heap) (locs : List Loc) (ls : Array Slot), Wd G A s.heap (wSh G.2.1 a S) H locs → lv_has ls 6 [(0, .ref (a 1)), (1, .int x1), (2, .int x2), (3, .int x3), (4, .int x4)] → f_X3_reachByStretches_L9 S k n x1 x2 x3 x4 = some r → (∀ (x1 : Int32) (H : Heap) (locs : List Loc) (ls : Array Slot), Wd G A s.heap (wSh G.2.1 a S) H locs → lv_has ls 6 [(1, .int x1)] → k x1 = some r → W p l e { frames := 1, cells := 0, slots := 0, locals := 22 } s m args below meth c H locs 0 0 (QI G A (wSh G.2.1 a S) r below args s) (F0 m 87 ls [])) → W p l e { frames := 1, cells := 0, slots := 0, locals := 22 } s m args below meth c H locs 0 0 (QI G A (wSh G.2.1 a S) r below args s) (F0 m 9 ls []) := by
    clear h w hl
    intro S k n
    induction n with
    | zero =>
      intro x1 x2 x3 x4 H locs ls w hl h hk
      exact nomatch (show (none : Option (Int32)) = some r from h)
    | succ n ih =>
      intro x1 x2 x3 x4 H locs ls w hl h hk
      rw [f_X3_reachByStretches_L9] at h
      refine lv_iload F.x F.b dX3_reachByStretches_9 (lv_at hl 4 rfl) ?_
      refine lv_bipush (v := 24) F.x F.b dX3_reachByStretches_11 (by decide) ?_
      refine lv_icmp_gt (tgt := 87) F.x F.b dX3_reachByStretches_13 (by decide) (fun c1 => ?_) (fun c1 => ?_)
      · have h := it c1 h
        exact hk x1 _ _ _ w (lv_sub hl [1] rfl) h
      · have h := ie c1 h
        refine lv_aload_n F.x F.b dX3_reachByStretches_16 rfl (lv_at hl 0 rfl) ?_
        refine lv_iload F.x F.b dX3_reachByStretches_17 (lv_at hl 4 rfl) ?_
        obtain ⟨r2, hc3, h⟩ := bd h
        try dsimp only at h
        refine kVi0 F w (As := [.int x4]) (rest := []) (w1 := wSh G.2.1 a S) (t_X3_slotAt F.1 hc3) m_X3_slotAt v_X3_slotAt q1310 (ci := 7) (q0 := 1) rfl rfl rfl ⟨Nat.le_of_ble_eq_true rfl, Nat.le_of_ble_eq_true rfl⟩ rfl hl.1 rfl (Nat.le_of_ble_eq_true rfl) dX3_reachByStretches_19 ⟨Nat.le_of_ble_eq_true rfl, Nat.le_of_ble_eq_true rfl⟩ (fun H locs w => ?_)
        refine lv_istore (lv' := [(5, .int r2), (0, .ref (a 1)), (1, .int x1), (2, .int x2), (3, .int x3), (4, .int x4)]) F.x F.b dX3_reachByStretches_22 hl (by decide) rfl (fun ls hl => ?_)
        refine lv_iload F.x F.b dX3_reachByStretches_24 (lv_at hl 0 rfl) ?_
        refine lv_if_lt (tgt := 39) F.x F.b dX3_reachByStretches_26 (by decide) (fun c4 => ?_) (fun c4 => ?_)
        · have h := it c4 h
          refine lv_iload_n F.x F.b dX3_reachByStretches_39 rfl (lv_at hl 2 rfl) ?_
          refine lv_iload_n F.x F.b dX3_reachByStretches_40 rfl (lv_at hl 4 rfl) ?_
          refine lv_if_eq (tgt := 48) F.x F.b dX3_reachByStretches_41 (by decide) (fun c5 => ?_) (fun c5 => ?_)
          · have h := it c5 h
            refine lv_iconst (v := 0) F.x F.b dX3_reachByStretches_48 (by decide) ?_
            refine lv_iadd F.x F.b dX3_reachByStretches_49 ?_
            refine lv_istore_n (lv' := [(1, .int (x1 + 0)), (5, .int r2), (0, .ref (a 1)), (2, .int x2), (3, .int x3), (4, .int x4)]) F.x F.b dX3_reachByStretches_50 rfl hl (by decide) rfl (fun ls hl => ?_)
            refine lv_iconst (v := 0) F.x F.b dX3_reachByStretches_51 (by decide) ?_
            refine lv_istore_n (lv' := [(2, .int 0), (1, .int (x1 + 0)), (5, .int r2), (0, .ref (a 1)), (3, .int x3), (4, .int x4)]) F.x F.b dX3_reachByStretches_52 rfl hl (by decide) rfl (fun ls hl => ?_)
            refine lv_iconst (v := 0) F.x F.b dX3_reachByStretches_53 (by decide) ?_
            refine lv_istore_n (lv' := [(3, .int 0), (2, .int 0), (1, .int (x1 + 0)), (5, .int r2), (0, .ref (a 1)), (4, .int x4)]) F.x F.b dX3_reachByStretches_54 rfl hl (by decide) rfl (fun ls hl => ?_)
            refine lv_goto (tgt := 81) F.x F.b dX3_reachByStretches_55 (by decide) ?_
            refine lv_iinc (v := (x4 + 1)) (lv' := [(4, .int (x4 + 1)), (3, .int 0), (2, .int 0), (1, .int (x1 + 0)), (5, .int r2), (0, .ref (a 1))]) F.x F.b dX3_reachByStretches_81 hl (k := 5) rfl rfl (by decide) rfl (fun ls hl => ?_)
            refine lv_goto (tgt := 9) F.x F.b dX3_reachByStretches_84 (by decide) ?_
            exact ih (x1 + 0) 0 0 (x4 + 1) _ _ _ w (lv_sub hl [5, 3, 2, 1, 0] rfl) h hk
          · have h := ie c5 h
            refine lv_iload_n F.x F.b dX3_reachByStretches_44 rfl (lv_at hl 3 rfl) ?_
            refine lv_goto (tgt := 49) F.x F.b dX3_reachByStretches_45 (by decide) ?_
            refine lv_iadd F.x F.b dX3_reachByStretches_49 ?_
            refine lv_istore_n (lv' := [(1, .int (x1 + x2)), (5, .int r2), (0, .ref (a 1)), (2, .int x2), (3, .int x3), (4, .int x4)]) F.x F.b dX3_reachByStretches_50 rfl hl (by decide) rfl (fun ls hl => ?_)
            refine lv_iconst (v := 0) F.x F.b dX3_reachByStretches_51 (by decide) ?_
            refine lv_istore_n (lv' := [(2, .int 0), (1, .int (x1 + x2)), (5, .int r2), (0, .ref (a 1)), (3, .int x3), (4, .int x4)]) F.x F.b dX3_reachByStretches_52 rfl hl (by decide) rfl (fun ls hl => ?_)
            refine lv_iconst (v := 0) F.x F.b dX3_reachByStretches_53 (by decide) ?_
            refine lv_istore_n (lv' := [(3, .int 0), (2, .int 0), (1, .int (x1 + x2)), (5, .int r2), (0, .ref (a 1)), (4, .int x4)]) F.x F.b dX3_reachByStretches_54 rfl hl (by decide) rfl (fun ls hl => ?_)
            refine lv_goto (tgt := 81) F.x F.b dX3_reachByStretches_55 (by decide) ?_
            refine lv_iinc (v := (x4 + 1)) (lv' := [(4, .int (x4 + 1)), (3, .int 0), (2, .int 0), (1, .int (x1 + x2)), (5, .int r2), (0, .ref (a 1))]) F.x F.b dX3_reachByStretches_81 hl (k := 5) rfl rfl (by decide) rfl (fun ls hl => ?_)
            refine lv_goto (tgt := 9) F.x F.b dX3_reachByStretches_84 (by decide) ?_
            exact ih (x1 + x2) 0 0 (x4 + 1) _ _ _ w (lv_sub hl [5, 3, 2, 1, 0] rfl) h hk
        · have h := ie c4 h
          refine lv_aload_n F.x F.b dX3_reachByStretches_29 rfl (lv_at hl 1 rfl) ?_
          refine rg F w cl3 1 (at_Sh_1 _ _ _) 5 (by decide) q78 rfl (v := .ref (a 7)) rfl dX3_reachByStretches_30 ?_
          refine lv_iload F.x F.b dX3_reachByStretches_33 (lv_at hl 0 rfl) ?_
          obtain ⟨g6, h⟩ := gd h
          refine rz F w 7 (n := 16) (f := S.2 5) (at_Sh_7 _ _ _) g6 dX3_reachByStretches_35 ?_
          refine lv_if_eq (tgt := 58) F.x F.b dX3_reachByStretches_36 (by decide) (fun c7 => ?_) (fun c7 => ?_)
          · have h := it c7 h
            refine lv_iinc (v := (x2 + 1)) (lv' := [(2, .int (x2 + 1)), (5, .int r2), (0, .ref (a 1)), (1, .int x1), (3, .int x3), (4, .int x4)]) F.x F.b dX3_reachByStretches_58 hl (k := 3) rfl rfl (by decide) rfl (fun ls hl => ?_)
            refine lv_iload_n F.x F.b dX3_reachByStretches_61 rfl (lv_at hl 4 rfl) ?_
            refine lv_if_ne (tgt := 75) F.x F.b dX3_reachByStretches_62 (by decide) (fun c8 => ?_) (fun c8 => ?_)
            · have h := ie c8 h
              refine lv_iconst (v := 1) F.x F.b dX3_reachByStretches_75 (by decide) ?_
              refine lv_goto (tgt := 80) F.x F.b dX3_reachByStretches_76 (by decide) ?_
              refine lv_istore_n (lv' := [(3, .int 1), (2, .int (x2 + 1)), (5, .int r2), (0, .ref (a 1)), (1, .int x1), (4, .int x4)]) F.x F.b dX3_reachByStretches_80 rfl hl (by decide) rfl (fun ls hl => ?_)
              refine lv_iinc (v := (x4 + 1)) (lv' := [(4, .int (x4 + 1)), (3, .int 1), (2, .int (x2 + 1)), (5, .int r2), (0, .ref (a 1)), (1, .int x1)]) F.x F.b dX3_reachByStretches_81 hl (k := 5) rfl rfl (by decide) rfl (fun ls hl => ?_)
              refine lv_goto (tgt := 9) F.x F.b dX3_reachByStretches_84 (by decide) ?_
              exact ih x1 (x2 + 1) 1 (x4 + 1) _ _ _ w (lv_sub hl [4, 5, 2, 1, 0] rfl) h hk
            · have h := it c8 h
              refine lv_aload_n F.x F.b dX3_reachByStretches_65 rfl (lv_at hl 2 rfl) ?_
              refine rg F w cl3 1 (at_Sh_1 _ _ _) 6 (by decide) q81 rfl (v := .ref (a 8)) rfl dX3_reachByStretches_66 ?_
              refine lv_iload F.x F.b dX3_reachByStretches_69 (lv_at hl 1 rfl) ?_
              obtain ⟨g9, h⟩ := gd h
              refine rz F w 8 (n := 16) (f := S.2 6) (at_Sh_8 _ _ _) g9 dX3_reachByStretches_71 ?_
              refine lv_if_eq (tgt := 79) F.x F.b dX3_reachByStretches_72 (by decide) (fun c10 => ?_) (fun c10 => ?_)
              · have h := it c10 h
                refine lv_iconst (v := 0) F.x F.b dX3_reachByStretches_79 (by decide) ?_
                refine lv_istore_n (lv' := [(3, .int 0), (2, .int (x2 + 1)), (5, .int r2), (0, .ref (a 1)), (1, .int x1), (4, .int x4)]) F.x F.b dX3_reachByStretches_80 rfl hl (by decide) rfl (fun ls hl => ?_)
                refine lv_iinc (v := (x4 + 1)) (lv' := [(4, .int (x4 + 1)), (3, .int 0), (2, .int (x2 + 1)), (5, .int r2), (0, .ref (a 1)), (1, .int x1)]) F.x F.b dX3_reachByStretches_81 hl (k := 5) rfl rfl (by decide) rfl (fun ls hl => ?_)
                refine lv_goto (tgt := 9) F.x F.b dX3_reachByStretches_84 (by decide) ?_
                exact ih x1 (x2 + 1) 0 (x4 + 1) _ _ _ w (lv_sub hl [4, 5, 2, 1, 0] rfl) h hk
              · have h := ie c10 h
                refine lv_iconst (v := 1) F.x F.b dX3_reachByStretches_75 (by decide) ?_
                refine lv_goto (tgt := 80) F.x F.b dX3_reachByStretches_76 (by decide) ?_
                refine lv_istore_n (lv' := [(3, .int 1), (2, .int (x2 + 1)), (5, .int r2), (0, .ref (a 1)), (1, .int x1), (4, .int x4)]) F.x F.b dX3_reachByStretches_80 rfl hl (by decide) rfl (fun ls hl => ?_)
                refine lv_iinc (v := (x4 + 1)) (lv' := [(4, .int (x4 + 1)), (3, .int 1), (2, .int (x2 + 1)), (5, .int r2), (0, .ref (a 1)), (1, .int x1)]) F.x F.b dX3_reachByStretches_81 hl (k := 5) rfl rfl (by decide) rfl (fun ls hl => ?_)
                refine lv_goto (tgt := 9) F.x F.b dX3_reachByStretches_84 (by decide) ?_
                exact ih x1 (x2 + 1) 1 (x4 + 1) _ _ _ w (lv_sub hl [4, 5, 2, 1, 0] rfl) h hk
          · have h := ie c7 h
            refine lv_iload_n F.x F.b dX3_reachByStretches_39 rfl (lv_at hl 2 rfl) ?_
            refine lv_iload_n F.x F.b dX3_reachByStretches_40 rfl (lv_at hl 4 rfl) ?_
            refine lv_if_eq (tgt := 48) F.x F.b dX3_reachByStretches_41 (by decide) (fun c11 => ?_) (fun c11 => ?_)
            · have h := it c11 h
              refine lv_iconst (v := 0) F.x F.b dX3_reachByStretches_48 (by decide) ?_
              refine lv_iadd F.x F.b dX3_reachByStretches_49 ?_
              refine lv_istore_n (lv' := [(1, .int (x1 + 0)), (5, .int r2), (0, .ref (a 1)), (2, .int x2), (3, .int x3), (4, .int x4)]) F.x F.b dX3_reachByStretches_50 rfl hl (by decide) rfl (fun ls hl => ?_)
              refine lv_iconst (v := 0) F.x F.b dX3_reachByStretches_51 (by decide) ?_
              refine lv_istore_n (lv' := [(2, .int 0), (1, .int (x1 + 0)), (5, .int r2), (0, .ref (a 1)), (3, .int x3), (4, .int x4)]) F.x F.b dX3_reachByStretches_52 rfl hl (by decide) rfl (fun ls hl => ?_)
              refine lv_iconst (v := 0) F.x F.b dX3_reachByStretches_53 (by decide) ?_
              refine lv_istore_n (lv' := [(3, .int 0), (2, .int 0), (1, .int (x1 + 0)), (5, .int r2), (0, .ref (a 1)), (4, .int x4)]) F.x F.b dX3_reachByStretches_54 rfl hl (by decide) rfl (fun ls hl => ?_)
              refine lv_goto (tgt := 81) F.x F.b dX3_reachByStretches_55 (by decide) ?_
              refine lv_iinc (v := (x4 + 1)) (lv' := [(4, .int (x4 + 1)), (3, .int 0), (2, .int 0), (1, .int (x1 + 0)), (5, .int r2), (0, .ref (a 1))]) F.x F.b dX3_reachByStretches_81 hl (k := 5) rfl rfl (by decide) rfl (fun ls hl => ?_)
              refine lv_goto (tgt := 9) F.x F.b dX3_reachByStretches_84 (by decide) ?_
              exact ih (x1 + 0) 0 0 (x4 + 1) _ _ _ w (lv_sub hl [5, 3, 2, 1, 0] rfl) h hk
            · have h := ie c11 h
              refine lv_iload_n F.x F.b dX3_reachByStretches_44 rfl (lv_at hl 3 rfl) ?_
              refine lv_goto (tgt := 49) F.x F.b dX3_reachByStretches_45 (by decide) ?_
              refine lv_iadd F.x F.b dX3_reachByStretches_49 ?_
              refine lv_istore_n (lv' := [(1, .int (x1 + x2)), (5, .int r2), (0, .ref (a 1)), (2, .int x2), (3, .int x3), (4, .int x4)]) F.x F.b dX3_reachByStretches_50 rfl hl (by decide) rfl (fun ls hl => ?_)
              refine lv_iconst (v := 0) F.x F.b dX3_reachByStretches_51 (by decide) ?_
              refine lv_istore_n (lv' := [(2, .int 0), (1, .int (x1 + x2)), (5, .int r2), (0, .ref (a 1)), (3, .int x3), (4, .int x4)]) F.x F.b dX3_reachByStretches_52 rfl hl (by decide) rfl (fun ls hl => ?_)
              refine lv_iconst (v := 0) F.x F.b dX3_reachByStretches_53 (by decide) ?_
              refine lv_istore_n (lv' := [(3, .int 0), (2, .int 0), (1, .int (x1 + x2)), (5, .int r2), (0, .ref (a 1)), (4, .int x4)]) F.x F.b dX3_reachByStretches_54 rfl hl (by decide) rfl (fun ls hl => ?_)
              refine lv_goto (tgt := 81) F.x F.b dX3_reachByStretches_55 (by decide) ?_
              refine lv_iinc (v := (x4 + 1)) (lv' := [(4, .int (x4 + 1)), (3, .int 0), (2, .int 0), (1, .int (x1 + x2)), (5, .int r2), (0, .ref (a 1))]) F.x F.b dX3_reachByStretches_81 hl (k := 5) rfl rfl (by decide) rfl (fun ls hl => ?_)
              refine lv_goto (tgt := 9) F.x F.b dX3_reachByStretches_84 (by decide) ?_
              exact ih (x1 + x2) 0 0 (x4 + 1) _ _ _ w (lv_sub hl [5, 3, 2, 1, 0] rfl) h hk
  refine lv_iconst (v := 0) F.x F.b dX3_reachByStretches_0 (by decide) ?_
  refine lv_istore_n (lv' := [(1, .int 0), (0, .ref (a 1))]) F.x F.b dX3_reachByStretches_1 rfl hl (by decide) rfl (fun ls hl => ?_)
  refine lv_iconst (v := 0) F.x F.b dX3_reachByStretches_2 (by decide) ?_
  refine lv_istore_n (lv' := [(2, .int 0), (1, .int 0), (0, .ref (a 1))]) F.x F.b dX3_reachByStretches_3 rfl hl (by decide) rfl (fun ls hl => ?_)
  refine lv_iconst (v := 0) F.x F.b dX3_reachByStretches_4 (by decide) ?_
  refine lv_istore_n (lv' := [(3, .int 0), (2, .int 0), (1, .int 0), (0, .ref (a 1))]) F.x F.b dX3_reachByStretches_5 rfl hl (by decide) rfl (fun ls hl => ?_)
  refine lv_iconst (v := 0) F.x F.b dX3_reachByStretches_6 (by decide) ?_
  refine lv_istore (lv' := [(4, .int 0), (3, .int 0), (2, .int 0), (1, .int 0), (0, .ref (a 1))]) F.x F.b dX3_reachByStretches_7 hl (by decide) rfl (fun ls hl => ?_)
  refine L9 S _ 0 0 0 0 _ _ _ w (lv_sub hl [4, 3, 2, 1, 0] rfl) h ?_
  intro y12_1 H locs ls w hl h
  try dsimp only at h
  refine lv_iload_n F.x F.b dX3_reachByStretches_87 rfl (lv_at hl 0 rfl) ?_
  have z0 := sm h
  exact ei F w hr hlocks rfl z0 rfl dX3_reachByStretches_88
set_option maxRecDepth 100000 in
set_option maxHeartbeats 4000000 in
theorem t_X3_copyFrom {G : cG} (g : GOK G) {a : Nat → Nat} {S : Mem} {b : Nat → Nat} {T : Mem} {S' : Mem} (h : f_X3_copyFrom S T = some S') : CV G yX3_copyFrom cX3_copyFrom 3 1 23 [.ref (a 1), .ref (b 1)] (wSh G.2.1 a S ++ wSh G.2.1 b T) (wSh G.2.1 a S' ++ wSh G.2.1 b T) := by
  unfold f_X3_copyFrom at h
  refine CV.of g (by decide) rfl (Nat.le_of_ble_eq_true rfl) ?_
  intro p l e s m below meth c A ls F hr hlocks w hl
  generalize ([.ref (a 1), .ref (b 1)] : List Value).toArray = args
  have hl : lv_has ls 3 [(0, .ref (a 1)), (1, .ref (b 1))] := hl
  have L2 : ∀ (T : Mem) {k : Mem → Option (Mem)} (n : Nat) (x2 : Int32) (S : Mem) (H : Heap) (locs : List Loc) (ls : Array Slot), Wd G A s.heap (wSh G.2.1 a S ++ wSh G.2.1 b T) H locs → lv_has ls 3 [(0, .ref (a 1)), (1, .ref (b 1)), (2, .int x2)] → f_X3_copyFrom_L2 T k n x2 S = some S' → (∀ (S : Mem) (H : Heap) (locs : List Loc) (ls : Array Slot), Wd G A s.heap (wSh G.2.1 a S ++ wSh G.2.1 b T) H locs → lv_has ls 3 [(0, .ref (a 1)), (1, .ref (b 1))] → k S = some S' → W p l e { frames := 1, cells := 0, slots := 0, locals := 23 } s m args below meth c H locs 0 0 (QV G A (wSh G.2.1 a S' ++ wSh G.2.1 b T) below args s) (F0 m 23 ls [])) → W p l e { frames := 1, cells := 0, slots := 0, locals := 23 } s m args below meth c H locs 0 0 (QV G A (wSh G.2.1 a S' ++ wSh G.2.1 b T) below args s) (F0 m 2 ls []) := by
    clear h w hl
    intro T k n
    induction n with
    | zero =>
      intro x2 S H locs ls w hl h hk
      exact nomatch (show (none : Option (Mem)) = some S' from h)
    | succ n ih =>
      intro x2 S H locs ls w hl h hk
      rw [f_X3_copyFrom_L2] at h
      refine lv_iload_n F.x F.b dX3_copyFrom_2 rfl (lv_at hl 2 rfl) ?_
      refine lv_aload_n F.x F.b dX3_copyFrom_3 rfl (lv_at hl 1 rfl) ?_
      refine rg F w cl3 15 rfl 7 (by decide) q84 rfl (v := .int (T.1 0)) rfl dX3_copyFrom_4 ?_
      refine lv_icmp_ge (tgt := 23) F.x F.b dX3_copyFrom_7 (by decide) (fun c1 => ?_) (fun c1 => ?_)
      · have h := it c1 h
        exact hk S _ _ _ w (lv_sub hl [0, 1] rfl) h
      · have h := ie c1 h
        refine lv_aload_n F.x F.b dX3_copyFrom_10 rfl (lv_at hl 0 rfl) ?_
        refine lv_aload_n F.x F.b dX3_copyFrom_11 rfl (lv_at hl 1 rfl) ?_
        refine lv_iload_n F.x F.b dX3_copyFrom_12 rfl (lv_at hl 2 rfl) ?_
        refine lv_iload_n F.x F.b dX3_copyFrom_13 rfl (lv_at hl 2 rfl) ?_
        obtain ⟨S_2, hc3, h⟩ := bd h
        try dsimp only at h
        refine kVv0 F w (As := [.ref (b 1), .int x2, .int x2]) (rest := []) (w1 := wSh G.2.1 a S_2 ++ wSh G.2.1 b T) (t_X3_takeSlot_o F.1 hc3) m_X3_takeSlot v_X3_takeSlot q550 (ci := 7) (q0 := 1) rfl rfl rfl ⟨Nat.le_of_ble_eq_true rfl, Nat.le_of_ble_eq_true rfl⟩ rfl hl.1 rfl (Nat.le_of_ble_eq_true rfl) dX3_copyFrom_14 ⟨Nat.le_of_ble_eq_true rfl, Nat.le_of_ble_eq_true rfl⟩ (fun H locs w => ?_)
        refine lv_iinc (v := (x2 + 1)) (lv' := [(2, .int (x2 + 1)), (0, .ref (a 1)), (1, .ref (b 1))]) F.x F.b dX3_copyFrom_17 hl (k := 2) rfl rfl (by decide) rfl (fun ls hl => ?_)
        refine lv_goto (tgt := 2) F.x F.b dX3_copyFrom_20 (by decide) ?_
        exact ih (x2 + 1) S_2 _ _ _ w (lv_sub hl [1, 2, 0] rfl) h hk
  refine lv_iconst (v := 0) F.x F.b dX3_copyFrom_0 (by decide) ?_
  refine lv_istore_n (lv' := [(2, .int 0), (0, .ref (a 1)), (1, .ref (b 1))]) F.x F.b dX3_copyFrom_1 rfl hl (by decide) rfl (fun ls hl => ?_)
  refine L2 T _ 0 S _ _ _ w (lv_sub hl [1, 2, 0] rfl) h ?_
  intro S_4 H locs ls w hl h
  try dsimp only at h
  refine lv_aload_n F.x F.b dX3_copyFrom_23 rfl (lv_at hl 0 rfl) ?_
  refine lv_aload_n F.x F.b dX3_copyFrom_24 rfl (lv_at hl 1 rfl) ?_
  refine rg F w cl3 15 rfl 7 (by decide) q84 rfl (v := .int (T.1 0)) rfl dX3_copyFrom_25 ?_
  refine rp F w (ws' := wSh G.2.1 a (wrI S_4 0 (T.1 0)) ++ wSh G.2.1 b T) cl3 1 rfl 7 (by decide) q84 rfl rfl rfl rfl (Nat.le_of_ble_eq_true rfl) rfl dX3_copyFrom_28 (fun H locs w => ?_)
  refine lv_aload_n F.x F.b dX3_copyFrom_31 rfl (lv_at hl 0 rfl) ?_
  refine lv_aload_n F.x F.b dX3_copyFrom_32 rfl (lv_at hl 1 rfl) ?_
  refine rg F w cl3 15 rfl 8 (by decide) q87 rfl (v := .int (T.1 1)) rfl dX3_copyFrom_33 ?_
  refine rp F w (ws' := wSh G.2.1 a (wrI (wrI S_4 0 (T.1 0)) 1 (T.1 1)) ++ wSh G.2.1 b T) cl3 1 rfl 8 (by decide) q87 rfl rfl rfl rfl (Nat.le_of_ble_eq_true rfl) rfl dX3_copyFrom_36 (fun H locs w => ?_)
  have z0 := sm h
  exact ev F w hr hlocks (by rw [← z0]) dX3_copyFrom_39
set_option maxRecDepth 100000 in
set_option maxHeartbeats 4000000 in
theorem t_X3_reachByQueue {G : cG} (g : GOK G) {a : Nat → Nat} {S : Mem} {da : Nat → Nat} {B : Mem} {r : Int32} {B' : Mem} (h : f_X3_reachByQueue S B = some (r, B')) : CI G yX3_reachByQueue cX3_reachByQueue 7 .int 2 41 [.ref (a 1), .ref (da 0)] (wSh G.2.1 a S ++ wAb G.2.1 da B) (wSh G.2.1 a S ++ wAb G.2.1 da B') r := by
  unfold f_X3_reachByQueue at h
  refine CI.of g (by decide) rfl (Nat.le_of_ble_eq_true rfl) ?_
  intro p l e s m below meth c A ls F hr hlocks w hl
  generalize ([.ref (a 1), .ref (da 0)] : List Value).toArray = args
  have hl : lv_has ls 7 [(0, .ref (a 1)), (1, .ref (da 0))] := hl
  have L16 : ∀ (x2 : Int32) (x3 : Int32) (S : Mem) {k : Int32 → Mem → Option (Int32 × Mem)} (n : Nat) (x4 : Int32) (x5 : Int32) (B : Mem) (H : Heap) (locs : List Loc) (ls : Array Slot), Wd G A s.heap (wSh G.2.1 a S ++ wAb G.2.1 da B) H locs → lv_has ls 7 [(1, .ref (da 0)), (2, .int x2), (3, .int x3), (4, .int x4), (5, .int x5)] → f_X3_reachByQueue_L16 x2 x3 S k n x4 x5 B = some (r, B') → (∀ (x4 : Int32) (B : Mem) (H : Heap) (locs : List Loc) (ls : Array Slot), Wd G A s.heap (wSh G.2.1 a S ++ wAb G.2.1 da B) H locs → lv_has ls 7 [(1, .ref (da 0)), (2, .int x2), (3, .int x3), (4, .int x4)] → k x4 B = some (r, B') → W p l e { frames := 2, cells := 0, slots := 0, locals := 41 } s m args below meth c H locs 0 0 (QI G A (wSh G.2.1 a S ++ wAb G.2.1 da B') r below args s) (F0 m 54 ls [])) → W p l e { frames := 2, cells := 0, slots := 0, locals := 41 } s m args below meth c H locs 0 0 (QI G A (wSh G.2.1 a S ++ wAb G.2.1 da B') r below args s) (F0 m 16 ls []) := by
    clear h w hl
    intro x2 x3 S k n
    induction n with
    | zero =>
      intro x4 x5 B H locs ls w hl h hk
      exact nomatch (show (none : Option (Int32 × Mem)) = some (r, B') from h)
    | succ n ih =>
      intro x4 x5 B H locs ls w hl h hk
      rw [f_X3_reachByQueue_L16] at h
      refine lv_iload F.x F.b dX3_reachByQueue_16 (lv_at hl 4 rfl) ?_
      refine lv_bipush (v := 24) F.x F.b dX3_reachByQueue_18 (by decide) ?_
      refine lv_icmp_ge (tgt := 54) F.x F.b dX3_reachByQueue_20 (by decide) (fun c5 => ?_) (fun c5 => ?_)
      · have h := it c5 h
        exact hk x4 B _ _ _ w (lv_sub hl [0, 1, 2, 3] rfl) h
      · have h := ie c5 h
        refine lv_iload F.x F.b dX3_reachByQueue_23 (lv_at hl 3 rfl) ?_
        refine lv_aload_n F.x F.b dX3_reachByQueue_25 rfl (lv_at hl 0 rfl) ?_
        refine rl F w 14 0 rfl rfl (v := 24) rfl dX3_reachByQueue_26 ?_
        refine lv_icmp_ge (tgt := 54) F.x F.b dX3_reachByQueue_27 (by decide) (fun c6 => ?_) (fun c6 => ?_)
        · have h := it c6 h
          exact hk x4 B _ _ _ w (lv_sub hl [0, 1, 2, 3] rfl) h
        · have h := ie c6 h
          refine lv_iload_n F.x F.b dX3_reachByQueue_30 rfl (lv_at hl 2 rfl) ?_
          refine lv_iload F.x F.b dX3_reachByQueue_31 (lv_at hl 4 rfl) ?_
          obtain ⟨r7, hc8, h⟩ := bd h
          try dsimp only at h
          refine kSNi F w (t_X6_hasBay F.1 hc8) m_X6_hasBay v_X6_hasBay q578 (As := [.int x3, .int x5]) (rest := []) ⟨Nat.le_of_ble_eq_true rfl, Nat.le_of_ble_eq_true rfl⟩ rfl hl.1 rfl (Nat.le_of_ble_eq_true rfl) dX3_reachByQueue_33 ⟨Nat.le_of_ble_eq_true rfl, Nat.le_of_ble_eq_true rfl⟩ (fun H locs w => ?_)
          refine lv_if_eq (tgt := 48) F.x F.b dX3_reachByQueue_36 (by decide) (fun c9 => ?_) (fun c9 => ?_)
          · have h := it c9 h
            refine lv_iinc (v := (x5 + 1)) (lv' := [(5, .int (x5 + 1)), (1, .ref (da 0)), (2, .int x2), (3, .int x3), (4, .int x4)]) F.x F.b dX3_reachByQueue_48 hl (k := 4) rfl rfl (by decide) rfl (fun ls hl => ?_)
            refine lv_goto (tgt := 16) F.x F.b dX3_reachByQueue_51 (by decide) ?_
            exact ih x4 (x5 + 1) B _ _ _ w (lv_sub hl [1, 2, 3, 4, 0] rfl) h hk
          · have h := ie c9 h
            refine lv_aload_n F.x F.b dX3_reachByQueue_39 rfl (lv_at hl 0 rfl) ?_
            refine lv_iload F.x F.b dX3_reachByQueue_40 (lv_at hl 3 rfl) ?_
            refine lv_iload F.x F.b dX3_reachByQueue_42 (lv_at hl 4 rfl) ?_
            obtain ⟨g10, h⟩ := gd h
            refine ris F w (ws' := wSh G.2.1 a S ++ wAb G.2.1 da (wrA B 0 x4 x5)) 14 (n := 24) (f := B.2 0) rfl g10 rfl dX3_reachByQueue_44 (fun H locs w => ?_)
            refine lv_iinc (v := (x4 + 1)) (lv' := [(4, .int (x4 + 1)), (1, .ref (da 0)), (2, .int x2), (3, .int x3), (5, .int x5)]) F.x F.b dX3_reachByQueue_45 hl (k := 3) rfl rfl (by decide) rfl (fun ls hl => ?_)
            refine lv_iinc (v := (x5 + 1)) (lv' := [(5, .int (x5 + 1)), (4, .int (x4 + 1)), (1, .ref (da 0)), (2, .int x2), (3, .int x3)]) F.x F.b dX3_reachByQueue_48 hl (k := 4) rfl rfl (by decide) rfl (fun ls hl => ?_)
            refine lv_goto (tgt := 16) F.x F.b dX3_reachByQueue_51 (by decide) ?_
            exact ih (x4 + 1) (x5 + 1) (wrA B 0 x4 x5) _ _ _ w (lv_sub hl [2, 3, 4, 1, 0] rfl) h hk
  have L79 : ∀ (x2 : Int32) (x5 : Int32) (S : Mem) {k : Int32 → Int32 → Mem → Option (Int32 × Mem)} (n : Nat) (x3 : Int32) (x4 : Int32) (x6 : Int32) (B : Mem) (H : Heap) (locs : List Loc) (ls : Array Slot), Wd G A s.heap (wSh G.2.1 a S ++ wAb G.2.1 da B) H locs → lv_has ls 7 [(1, .ref (da 0)), (2, .int x2), (3, .int x3), (4, .int x4), (5, .int x5), (6, .int x6)] → f_X3_reachByQueue_L79 x2 x5 S k n x3 x4 x6 B = some (r, B') → (∀ (x3 : Int32) (x4 : Int32) (B : Mem) (H : Heap) (locs : List Loc) (ls : Array Slot), Wd G A s.heap (wSh G.2.1 a S ++ wAb G.2.1 da B) H locs → lv_has ls 7 [(1, .ref (da 0)), (2, .int x2), (3, .int x3), (4, .int x4), (5, .int x5)] → k x3 x4 B = some (r, B') → W p l e { frames := 2, cells := 0, slots := 0, locals := 41 } s m args below meth c H locs 0 0 (QI G A (wSh G.2.1 a S ++ wAb G.2.1 da B') r below args s) (F0 m 137 ls [])) → W p l e { frames := 2, cells := 0, slots := 0, locals := 41 } s m args below meth c H locs 0 0 (QI G A (wSh G.2.1 a S ++ wAb G.2.1 da B') r below args s) (F0 m 79 ls []) := by
    clear h w hl
    intro x2 x5 S k n
    induction n with
    | zero =>
      intro x3 x4 x6 B H locs ls w hl h hk
      exact nomatch (show (none : Option (Int32 × Mem)) = some (r, B') from h)
    | succ n ih =>
      intro x3 x4 x6 B H locs ls w hl h hk
      rw [f_X3_reachByQueue_L79] at h
      refine lv_iload F.x F.b dX3_reachByQueue_79 (lv_at hl 5 rfl) ?_
      refine lv_aload_n F.x F.b dX3_reachByQueue_81 rfl (lv_at hl 0 rfl) ?_
      refine lv_iload F.x F.b dX3_reachByQueue_82 (lv_at hl 4 rfl) ?_
      obtain ⟨g15, h⟩ := gd h
      refine ri F w 14 (n := 24) (f := B.2 0) rfl g15 dX3_reachByQueue_84 ?_
      refine lv_iconst (v := 1) F.x F.b dX3_reachByQueue_85 (by decide) ?_
      refine lv_iadd F.x F.b dX3_reachByQueue_86 ?_
      refine lv_icmp_gt (tgt := 137) F.x F.b dX3_reachByQueue_87 (by decide) (fun c16 => ?_) (fun c16 => ?_)
      · have h := it c16 h
        exact hk x3 x4 B _ _ _ w (lv_sub hl [0, 1, 2, 3, 4] rfl) h
      · have h := ie c16 h
        refine lv_iload_n F.x F.b dX3_reachByQueue_90 rfl (lv_at hl 1 rfl) ?_
        refine lv_iload F.x F.b dX3_reachByQueue_91 (lv_at hl 5 rfl) ?_
        obtain ⟨r17, hc18, h⟩ := bd h
        try dsimp only at h
        refine kSNi F w (t_X6_hasBay F.1 hc18) m_X6_hasBay v_X6_hasBay q578 (As := [.int x2, .int x6]) (rest := []) ⟨Nat.le_of_ble_eq_true rfl, Nat.le_of_ble_eq_true rfl⟩ rfl hl.1 rfl (Nat.le_of_ble_eq_true rfl) dX3_reachByQueue_93 ⟨Nat.le_of_ble_eq_true rfl, Nat.le_of_ble_eq_true rfl⟩ (fun H locs w => ?_)
        refine lv_if_eq (tgt := 131) F.x F.b dX3_reachByQueue_96 (by decide) (fun c19 => ?_) (fun c19 => ?_)
        · have h := it c19 h
          refine lv_iinc (v := (x6 + 2)) (lv' := [(6, .int (x6 + 2)), (1, .ref (da 0)), (2, .int x2), (3, .int x3), (4, .int x4), (5, .int x5)]) F.x F.b dX3_reachByQueue_131 hl (k := 5) rfl rfl (by decide) rfl (fun ls hl => ?_)
          refine lv_goto (tgt := 79) F.x F.b dX3_reachByQueue_134 (by decide) ?_
          exact ih x3 x4 (x6 + 2) B _ _ _ w (lv_sub hl [1, 2, 3, 4, 5, 0] rfl) h hk
        · have h := ie c19 h
          refine lv_iload_n F.x F.b dX3_reachByQueue_99 rfl (lv_at hl 2 rfl) ?_
          refine lv_iload F.x F.b dX3_reachByQueue_100 (lv_at hl 5 rfl) ?_
          obtain ⟨r20, hc21, h⟩ := bd h
          try dsimp only at h
          refine kSNi F w (t_X6_hasBay F.1 hc21) m_X6_hasBay v_X6_hasBay q578 (As := [.int x3, .int x6]) (rest := []) ⟨Nat.le_of_ble_eq_true rfl, Nat.le_of_ble_eq_true rfl⟩ rfl hl.1 rfl (Nat.le_of_ble_eq_true rfl) dX3_reachByQueue_102 ⟨Nat.le_of_ble_eq_true rfl, Nat.le_of_ble_eq_true rfl⟩ (fun H locs w => ?_)
          refine lv_if_ne (tgt := 131) F.x F.b dX3_reachByQueue_105 (by decide) (fun c22 => ?_) (fun c22 => ?_)
          · have h := ie c22 h
            refine lv_iinc (v := (x6 + 2)) (lv' := [(6, .int (x6 + 2)), (1, .ref (da 0)), (2, .int x2), (3, .int x3), (4, .int x4), (5, .int x5)]) F.x F.b dX3_reachByQueue_131 hl (k := 5) rfl rfl (by decide) rfl (fun ls hl => ?_)
            refine lv_goto (tgt := 79) F.x F.b dX3_reachByQueue_134 (by decide) ?_
            exact ih x3 x4 (x6 + 2) B _ _ _ w (lv_sub hl [1, 2, 3, 4, 5, 0] rfl) h hk
          · have h := it c22 h
            refine lv_iload F.x F.b dX3_reachByQueue_108 (lv_at hl 3 rfl) ?_
            refine lv_aload_n F.x F.b dX3_reachByQueue_110 rfl (lv_at hl 0 rfl) ?_
            refine rl F w 14 0 rfl rfl (v := 24) rfl dX3_reachByQueue_111 ?_
            refine lv_icmp_ge (tgt := 131) F.x F.b dX3_reachByQueue_112 (by decide) (fun c23 => ?_) (fun c23 => ?_)
            · have h := it c23 h
              refine lv_iinc (v := (x6 + 2)) (lv' := [(6, .int (x6 + 2)), (1, .ref (da 0)), (2, .int x2), (3, .int x3), (4, .int x4), (5, .int x5)]) F.x F.b dX3_reachByQueue_131 hl (k := 5) rfl rfl (by decide) rfl (fun ls hl => ?_)
              refine lv_goto (tgt := 79) F.x F.b dX3_reachByQueue_134 (by decide) ?_
              exact ih x3 x4 (x6 + 2) B _ _ _ w (lv_sub hl [1, 2, 3, 4, 5, 0] rfl) h hk
            · have h := ie c23 h
              refine lv_iload_n F.x F.b dX3_reachByQueue_115 rfl (lv_at hl 2 rfl) ?_
              refine lv_iconst (v := 1) F.x F.b dX3_reachByQueue_116 (by decide) ?_
              refine lv_iload F.x F.b dX3_reachByQueue_117 (lv_at hl 5 rfl) ?_
              refine lv_ishl F.x F.b dX3_reachByQueue_119 ?_
              refine lv_ior F.x F.b dX3_reachByQueue_120 ?_
              refine lv_istore_n (lv' := [(3, .int (x3 ||| ((1 : Int32) <<< (x6 &&& 31)))), (1, .ref (da 0)), (2, .int x2), (4, .int x4), (5, .int x5), (6, .int x6)]) F.x F.b dX3_reachByQueue_121 rfl hl (by decide) rfl (fun ls hl => ?_)
              refine lv_aload_n F.x F.b dX3_reachByQueue_122 rfl (lv_at hl 1 rfl) ?_
              refine lv_iload F.x F.b dX3_reachByQueue_123 (lv_at hl 3 rfl) ?_
              refine lv_iload F.x F.b dX3_reachByQueue_125 (lv_at hl 5 rfl) ?_
              obtain ⟨g24, h⟩ := gd h
              refine ris F w (ws' := wSh G.2.1 a S ++ wAb G.2.1 da (wrA B 0 x4 x6)) 14 (n := 24) (f := B.2 0) rfl g24 rfl dX3_reachByQueue_127 (fun H locs w => ?_)
              refine lv_iinc (v := (x4 + 1)) (lv' := [(4, .int (x4 + 1)), (3, .int (x3 ||| ((1 : Int32) <<< (x6 &&& 31)))), (1, .ref (da 0)), (2, .int x2), (5, .int x5), (6, .int x6)]) F.x F.b dX3_reachByQueue_128 hl (k := 3) rfl rfl (by decide) rfl (fun ls hl => ?_)
              refine lv_iinc (v := (x6 + 2)) (lv' := [(6, .int (x6 + 2)), (4, .int (x4 + 1)), (3, .int (x3 ||| ((1 : Int32) <<< (x6 &&& 31)))), (1, .ref (da 0)), (2, .int x2), (5, .int x5)]) F.x F.b dX3_reachByQueue_131 hl (k := 5) rfl rfl (by decide) rfl (fun ls hl => ?_)
              refine lv_goto (tgt := 79) F.x F.b dX3_reachByQueue_134 (by decide) ?_
              exact ih (x3 ||| ((1 : Int32) <<< (x6 &&& 31))) (x4 + 1) (x6 + 2) (wrA B 0 x4 x6) _ _ _ w (lv_sub hl [3, 4, 2, 1, 5, 0] rfl) h hk
  have L57 : ∀ (x2 : Int32) (S : Mem) {k : Int32 → Mem → Option (Int32 × Mem)} (n : Nat) (x3 : Int32) (x4 : Int32) (x5 : Int32) (B : Mem) (H : Heap) (locs : List Loc) (ls : Array Slot), Wd G A s.heap (wSh G.2.1 a S ++ wAb G.2.1 da B) H locs → lv_has ls 7 [(1, .ref (da 0)), (2, .int x2), (3, .int x3), (4, .int x4), (5, .int x5)] → f_X3_reachByQueue_L57 x2 S k n x3 x4 x5 B = some (r, B') → (∀ (x4 : Int32) (B : Mem) (H : Heap) (locs : List Loc) (ls : Array Slot), Wd G A s.heap (wSh G.2.1 a S ++ wAb G.2.1 da B) H locs → lv_has ls 7 [(4, .int x4)] → k x4 B = some (r, B') → W p l e { frames := 2, cells := 0, slots := 0, locals := 41 } s m args below meth c H locs 0 0 (QI G A (wSh G.2.1 a S ++ wAb G.2.1 da B') r below args s) (F0 m 143 ls [])) → W p l e { frames := 2, cells := 0, slots := 0, locals := 41 } s m args below meth c H locs 0 0 (QI G A (wSh G.2.1 a S ++ wAb G.2.1 da B') r below args s) (F0 m 57 ls []) := by
    clear h w hl
    intro x2 S k n
    induction n with
    | zero =>
      intro x3 x4 x5 B H locs ls w hl h hk
      exact nomatch (show (none : Option (Int32 × Mem)) = some (r, B') from h)
    | succ n ih =>
      intro x3 x4 x5 B H locs ls w hl h hk
      rw [f_X3_reachByQueue_L57] at h
      refine lv_iload F.x F.b dX3_reachByQueue_57 (lv_at hl 4 rfl) ?_
      refine lv_iload F.x F.b dX3_reachByQueue_59 (lv_at hl 3 rfl) ?_
      refine lv_icmp_ge (tgt := 143) F.x F.b dX3_reachByQueue_61 (by decide) (fun c12 => ?_) (fun c12 => ?_)
      · have h := it c12 h
        exact hk x4 B _ _ _ w (lv_sub hl [3] rfl) h
      · have h := ie c12 h
        refine lv_iload F.x F.b dX3_reachByQueue_64 (lv_at hl 4 rfl) ?_
        refine lv_aload_n F.x F.b dX3_reachByQueue_66 rfl (lv_at hl 0 rfl) ?_
        refine rl F w 14 0 rfl rfl (v := 24) rfl dX3_reachByQueue_67 ?_
        refine lv_icmp_ge (tgt := 143) F.x F.b dX3_reachByQueue_68 (by decide) (fun c13 => ?_) (fun c13 => ?_)
        · have h := it c13 h
          exact hk x4 B _ _ _ w (lv_sub hl [3] rfl) h
        · have h := ie c13 h
          refine lv_aload_n F.x F.b dX3_reachByQueue_71 rfl (lv_at hl 0 rfl) ?_
          refine lv_iload F.x F.b dX3_reachByQueue_72 (lv_at hl 4 rfl) ?_
          obtain ⟨g14, h⟩ := gd h
          refine ri F w 14 (n := 24) (f := B.2 0) rfl g14 dX3_reachByQueue_74 ?_
          refine lv_iconst (v := 1) F.x F.b dX3_reachByQueue_75 (by decide) ?_
          refine lv_isub F.x F.b dX3_reachByQueue_76 ?_
          refine lv_istore (lv' := [(6, .int ((B.2 0 (Int32.toNatClampNeg x5)) - 1)), (1, .ref (da 0)), (2, .int x2), (3, .int x3), (4, .int x4), (5, .int x5)]) F.x F.b dX3_reachByQueue_77 hl (by decide) rfl (fun ls hl => ?_)
          refine L79 x2 x5 S _ x3 x4 ((B.2 0 (Int32.toNatClampNeg x5)) - 1) B _ _ _ w (lv_sub hl [1, 2, 3, 4, 5, 0] rfl) h ?_
          intro y25_3 y25_4 B_25 H locs ls w hl h
          try dsimp only at h
          refine lv_iinc (v := (x5 + 1)) (lv' := [(5, .int (x5 + 1)), (1, .ref (da 0)), (2, .int x2), (3, .int y25_3), (4, .int y25_4)]) F.x F.b dX3_reachByQueue_137 hl (k := 4) rfl rfl (by decide) rfl (fun ls hl => ?_)
          refine lv_goto (tgt := 57) F.x F.b dX3_reachByQueue_140 (by decide) ?_
          exact ih y25_3 y25_4 (x5 + 1) B_25 _ _ _ w (lv_sub hl [1, 2, 3, 4, 0] rfl) h hk
  refine lv_aload_n F.x F.b dX3_reachByQueue_0 rfl (lv_at hl 0 rfl) ?_
  obtain ⟨r1, hc2, h⟩ := bd h
  try dsimp only at h
  refine kVi F w (As := []) (rest := []) (ws' := wSh G.2.1 a S ++ wAb G.2.1 da B) (wr := wAb G.2.1 da B) (t_X3_baysOfOpen F.1 hc2) m_X3_baysOfOpen v_X3_baysOfOpen q1297 (ci := 7) (q0 := 1) rfl rfl rfl [0, 1, 2, 3, 4, 5, 6, 7, 8, 9, 10, 11, 12, 13] [14] [1, 2, 3, 4, 5, 6, 7, 8, 9, 10, 11, 12, 13, 14, 0] rfl rfl rfl rfl (by decide) rfl rfl ⟨Nat.le_of_ble_eq_true rfl, Nat.le_of_ble_eq_true rfl⟩ rfl hl.1 rfl (Nat.le_of_ble_eq_true rfl) dX3_reachByQueue_1 ⟨Nat.le_of_ble_eq_true rfl, Nat.le_of_ble_eq_true rfl⟩ (fun H locs w => ?_)
  refine lv_istore_n (lv' := [(2, .int r1), (0, .ref (a 1)), (1, .ref (da 0))]) F.x F.b dX3_reachByQueue_4 rfl hl (by decide) rfl (fun ls hl => ?_)
  refine lv_aload_n F.x F.b dX3_reachByQueue_5 rfl (lv_at hl 1 rfl) ?_
  obtain ⟨r3, hc4, h⟩ := bd h
  try dsimp only at h
  refine kVi F w (As := []) (rest := []) (ws' := wSh G.2.1 a S ++ wAb G.2.1 da B) (wr := wAb G.2.1 da B) (t_X3_baysOfDamp F.1 hc4) m_X3_baysOfDamp v_X3_baysOfDamp q1301 (ci := 7) (q0 := 1) rfl rfl rfl [0, 1, 2, 3, 4, 5, 6, 7, 8, 9, 10, 11, 12, 13] [14] [1, 2, 3, 4, 5, 6, 7, 8, 9, 10, 11, 12, 13, 14, 0] rfl rfl rfl rfl (by decide) rfl rfl ⟨Nat.le_of_ble_eq_true rfl, Nat.le_of_ble_eq_true rfl⟩ rfl hl.1 rfl (Nat.le_of_ble_eq_true rfl) dX3_reachByQueue_6 ⟨Nat.le_of_ble_eq_true rfl, Nat.le_of_ble_eq_true rfl⟩ (fun H locs w => ?_)
  refine lv_istore_n (lv' := [(3, .int r3), (2, .int r1), (0, .ref (a 1)), (1, .ref (da 0))]) F.x F.b dX3_reachByQueue_9 rfl hl (by decide) rfl (fun ls hl => ?_)
  refine lv_iconst (v := 0) F.x F.b dX3_reachByQueue_10 (by decide) ?_
  refine lv_istore (lv' := [(4, .int 0), (3, .int r3), (2, .int r1), (0, .ref (a 1)), (1, .ref (da 0))]) F.x F.b dX3_reachByQueue_11 hl (by decide) rfl (fun ls hl => ?_)
  refine lv_iconst (v := 0) F.x F.b dX3_reachByQueue_13 (by decide) ?_
  refine lv_istore (lv' := [(5, .int 0), (4, .int 0), (3, .int r3), (2, .int r1), (0, .ref (a 1)), (1, .ref (da 0))]) F.x F.b dX3_reachByQueue_14 hl (by decide) rfl (fun ls hl => ?_)
  refine L16 r1 r3 S _ 0 0 B _ _ _ w (lv_sub hl [5, 3, 2, 1, 0] rfl) h ?_
  intro y11_4 B_11 H locs ls w hl h
  try dsimp only at h
  refine lv_iconst (v := 0) F.x F.b dX3_reachByQueue_54 (by decide) ?_
  refine lv_istore (lv' := [(5, .int 0), (1, .ref (da 0)), (2, .int r1), (3, .int r3), (4, .int y11_4)]) F.x F.b dX3_reachByQueue_55 hl (by decide) rfl (fun ls hl => ?_)
  refine L57 r1 S _ r3 y11_4 0 B_11 _ _ _ w (lv_sub hl [1, 2, 3, 4, 0] rfl) h ?_
  intro y26_4 B_26 H locs ls w hl h
  try dsimp only at h
  refine lv_iload F.x F.b dX3_reachByQueue_143 (lv_at hl 0 rfl) ?_
  obtain ⟨z0, z1⟩ := sm2 (sm h)
  exact ei F w hr hlocks rfl z0 (by rw [← z1]) dX3_reachByQueue_145

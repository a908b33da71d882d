/-! printed by wip/whole/tools/gen99p.py: the claim out of the walk -/
theorem q86 : Cond.classLink "CustomsShedLaw" 8 RX6 ∈ lw_tbl := List.mem_of_getElem? (i := 86) (by decide +kernel)
theorem q88 : Cond.methodLink "CustomsShedLaw" 153 yX6_init ∈ lw_tbl := List.mem_of_getElem? (i := 88) (by decide +kernel)
theorem q1541 : Cond.classLink "CustomsShedLaw" 154 RX7 ∈ lw_tbl := List.mem_of_getElem? (i := 1541) (by decide +kernel)
theorem q1543 : Cond.methodLink "CustomsShedLaw" 156 yX7_init ∈ lw_tbl := List.mem_of_getElem? (i := 1543) (by decide +kernel)
theorem m_X6_init : YM yX6_init cX6_init 1 (none) 0 := ⟨⟨List.mem_of_getElem? (i := 90) (by decide +kernel), by decide +kernel⟩, List.mem_of_getElem? (i := 55) (by decide +kernel), ⟨by decide, by decide⟩, by decide +kernel⟩
theorem v_X6_init : Cond.instanceMethod yX6_init ∈ lw_tbl := (List.mem_of_getElem? (i := 89) (by decide +kernel))
theorem m_X7_init : YM yX7_init cX7_init 1 (none) 0 := ⟨⟨List.mem_of_getElem? (i := 1545) (by decide +kernel), by decide +kernel⟩, List.mem_of_getElem? (i := 66) (by decide +kernel), ⟨by decide, by decide⟩, by decide +kernel⟩
theorem v_X7_init : Cond.instanceMethod yX7_init ∈ lw_tbl := (List.mem_of_getElem? (i := 1544) (by decide +kernel))
set_option maxRecDepth 100000 in
set_option maxHeartbeats 4000000 in
/-- from the entry to the loop -/
theorem ws_rows {D : va_G} {T : Nat → ClassId} {z : Nat} {ks kv : Nat → Nat} {d1 d2 : Nat} {p : Program} {l : Launch} {e : Env} {s : State} {m : MethodId} {args : Array Value} {below : List Frame} {meth : Method} {c : Code} {A : Nat → Prop} {Q : State → Prop} {b L : Nat} {xs : Nat → Int32} {ls : Array Slot} (F : Fx (GG D T z ks kv d1 d2) p s m c cL_law 9 RL A) (hst : l.stackTraces = false) (hX : va_X b L xs s s.heap) (hbA : ¬ A b) (hbl : b < s.heap.size) (hL : L ≤ 2560)
    (hend : ∀ (H : Heap) (locs : List Loc) (ls : Array Slot) (cells slots : Nat), va_S A s.heap H locs → cells ≤ 603072 → slots ≤ 7194730 → W p l e room_1 s m args below meth c H locs cells slots Q (F0 m 2843 ls [.int 1])) (w : Wd (GG D T z ks kv d1 d2) A s.heap (fl []) s.heap []) (hl : lv_has ls 9 [(0, .ref b)]) : W p l e room_1 s m args below meth c s.heap [] 0 0 Q (F0 m 0 ls []) := by
  refine rn F w cl6 q86 (List.mem_of_getElem? (i := 87) (by decide +kernel)) (List.mem_of_getElem? (i := 55) (by decide +kernel)) [.null, .null, .null, .null, .null, .null, .null, .null, .int 0, .int 0] (fun j hj => by rcases (show j = 0 ∨ j = 1 ∨ j = 2 ∨ j = 3 ∨ j = 4 ∨ j = 5 ∨ j = 6 ∨ j = 7 ∨ j = 8 ∨ j = 9 by omega) with rfl | rfl | rfl | rfl | rfl | rfl | rfl | rfl | rfl | rfl <;> rfl) (Nat.le_of_ble_eq_true rfl) (Nat.le_of_ble_eq_true rfl) dL_law_0 (fun z1 H w => ?_)
  have w : Wd (GG D T z ks kv d1 d2) A s.heap (fl [[(z1, .inr (10, [.null, .null, .null, .null, .null, .null, .null, .null, .int 0, .int 0]))]]) _ _ := w
  refine lv_dup F.x F.b dL_law_3 rfl ?_
  refine kCI F w (LC := [[(z1, .inr (10, [.null, .null, .null, .null, .null, .null, .null, .null, .int 0, .int 0]))]]) (LR := []) (As := []) (rest := [.ref z1]) (t_X6_init F.1 GG.ag GG.sg) m_X6_init v_X6_init rfl q88 1 [0] rfl rfl rfl ⟨Nat.le_of_ble_eq_true rfl, Nat.le_of_ble_eq_true rfl⟩ rfl hl.1 rfl (Nat.le_of_ble_eq_true rfl) dL_law_4 ⟨Nat.le_of_ble_eq_true rfl, Nat.le_of_ble_eq_true rfl⟩ (fun w1 H locs h9 w => ?_)
  obtain ⟨ad, va, had, h9⟩ := h9
  have h : Top 1 K0 zM C0 0 0 (fun _ => none) none (va, 16, 0, 0, fun _ => 0) M0 := Top.start va
  have w0 := w
  subst had
  have w := w0
  obtain ⟨K, hK9⟩ : ∃ K9, K9 = K0 := ⟨_, rfl⟩
  obtain ⟨S, hS9⟩ : ∃ K9, K9 = zM := ⟨_, rfl⟩
  obtain ⟨C, hC9⟩ : ∃ K9, K9 = C0 := ⟨_, rfl⟩
  obtain ⟨hs, hh9⟩ : ∃ h9 : hS, h9 = (fun _ => none) := ⟨_, rfl⟩
  obtain ⟨sv, hv9⟩ : ∃ h9 : sV, h9 = none := ⟨_, rfl⟩
  obtain ⟨ou, ho9⟩ : ∃ h9 : oB, h9 = (va, 16, 0, 0, fun _ => 0) := ⟨_, rfl⟩
  obtain ⟨cu, hc9⟩ : ∃ c9 : Nat, c9 = 0 := ⟨_, rfl⟩
  have h9 : w1 = fl (wTop (GG D T z ks kv d1 d2).2.1 ad K S S C S S cu cu hs sv ou) := by rw [h9, hK9, hS9, hC9, hh9, hv9, ho9, hc9]
  have h : Top 1 K S C cu cu hs sv ou M0 := by rw [hK9, hS9, hC9, hh9, hv9, ho9, hc9]; exact h
  have w := w.jn (L1 := [wXo (GG D T z ks kv d1 d2).2.1 (ad 0) (xF ad) (svV sv) K, wSh (GG D T z ks kv d1 d2).2.1 (ad 1) S, wSh (GG D T z ks kv d1 d2).2.1 (ad 2) S, wTe (GG D T z ks kv d1 d2).2.1 (ad 4) C, wSb (GG D T z ks kv d1 d2).2.1 (ad 5) ou, wAd (GG D T z ks kv d1 d2).2.1 (ad 6) S, wAb (GG D T z ks kv d1 d2).2.1 (ad 7) S, wHo (GG D T z ks kv d1 d2).2.1 (ad 3) cu cu hs, hsL (GG D T z ks kv d1 d2).2.1 hs, blk (GG D T z ks kv d1 d2).2.1 sv]) (L' := [wXo (GG D T z ks kv d1 d2).2.1 (ad 0) (xF ad) (svV sv) K, wSh (GG D T z ks kv d1 d2).2.1 (ad 1) S, wSh (GG D T z ks kv d1 d2).2.1 (ad 2) S, wTe (GG D T z ks kv d1 d2).2.1 (ad 4) C, wSb (GG D T z ks kv d1 d2).2.1 (ad 5) ou, wAd (GG D T z ks kv d1 d2).2.1 (ad 6) S, wAb (GG D T z ks kv d1 d2).2.1 (ad 7) S, wHo (GG D T z ks kv d1 d2).2.1 (ad 3) cu cu hs, hsL (GG D T z ks kv d1 d2).2.1 hs, blk (GG D T z ks kv d1 d2).2.1 sv]) h9 10 [0, 1, 2, 3, 4, 5, 6, 7, 8, 9] rfl rfl rfl
  refine lv_astore_n (lv' := [(1, .ref ((ad 0) 0)), (0, .ref b)]) F.x F.b dL_law_7 rfl hl (by decide) rfl (fun ls hl => ?_)
  refine rn F w cl7 q1541 (List.mem_of_getElem? (i := 1542) (by decide +kernel)) (List.mem_of_getElem? (i := 66) (by decide +kernel)) [.int 0, .null, .null, .null, .null, .null, .int 0, .int 0, .null, .null, .null, .null, .null, .int 0, .int 0, .int 0, .int 0, .int 0, .int 0, .int 0, .int 0, .int 0] (fun j hj => by rcases (show j = 0 ∨ j = 1 ∨ j = 2 ∨ j = 3 ∨ j = 4 ∨ j = 5 ∨ j = 6 ∨ j = 7 ∨ j = 8 ∨ j = 9 ∨ j = 10 ∨ j = 11 ∨ j = 12 ∨ j = 13 ∨ j = 14 ∨ j = 15 ∨ j = 16 ∨ j = 17 ∨ j = 18 ∨ j = 19 ∨ j = 20 ∨ j = 21 by omega) with rfl | rfl | rfl | rfl | rfl | rfl | rfl | rfl | rfl | rfl | rfl | rfl | rfl | rfl | rfl | rfl | rfl | rfl | rfl | rfl | rfl | rfl <;> rfl) (Nat.le_of_ble_eq_true rfl) (Nat.le_of_ble_eq_true rfl) dL_law_8 (fun z2 H w => ?_)
  have w : Wd (GG D T z ks kv d1 d2) A s.heap (fl [wXo (GG D T z ks kv d1 d2).2.1 (ad 0) (xF ad) (svV sv) K, wSh (GG D T z ks kv d1 d2).2.1 (ad 1) S, wSh (GG D T z ks kv d1 d2).2.1 (ad 2) S, wTe (GG D T z ks kv d1 d2).2.1 (ad 4) C, wSb (GG D T z ks kv d1 d2).2.1 (ad 5) ou, wAd (GG D T z ks kv d1 d2).2.1 (ad 6) S, wAb (GG D T z ks kv d1 d2).2.1 (ad 7) S, wHo (GG D T z ks kv d1 d2).2.1 (ad 3) cu cu hs, hsL (GG D T z ks kv d1 d2).2.1 hs, blk (GG D T z ks kv d1 d2).2.1 sv, [(z2, .inr (11, [.int 0, .null, .null, .null, .null, .null, .int 0, .int 0, .null, .null, .null, .null, .null, .int 0, .int 0, .int 0, .int 0, .int 0, .int 0, .int 0, .int 0, .int 0]))]]) _ _ := w
  refine lv_dup F.x F.b dL_law_11 rfl ?_
  refine kCI F w (LC := [[(z2, .inr (11, [.int 0, .null, .null, .null, .null, .null, .int 0, .int 0, .null, .null, .null, .null, .null, .int 0, .int 0, .int 0, .int 0, .int 0, .int 0, .int 0, .int 0, .int 0]))]]) (LR := [wXo (GG D T z ks kv d1 d2).2.1 (ad 0) (xF ad) (svV sv) K, wSh (GG D T z ks kv d1 d2).2.1 (ad 1) S, wSh (GG D T z ks kv d1 d2).2.1 (ad 2) S, wTe (GG D T z ks kv d1 d2).2.1 (ad 4) C, wSb (GG D T z ks kv d1 d2).2.1 (ad 5) ou, wAd (GG D T z ks kv d1 d2).2.1 (ad 6) S, wAb (GG D T z ks kv d1 d2).2.1 (ad 7) S, wHo (GG D T z ks kv d1 d2).2.1 (ad 3) cu cu hs, hsL (GG D T z ks kv d1 d2).2.1 hs, blk (GG D T z ks kv d1 d2).2.1 sv]) (As := []) (rest := [.ref z2]) (t_X7_init F.1) m_X7_init v_X7_init rfl q1543 11 [10, 0, 1, 2, 3, 4, 5, 6, 7, 8, 9] rfl rfl rfl ⟨Nat.le_of_ble_eq_true rfl, Nat.le_of_ble_eq_true rfl⟩ rfl hl.1 rfl (Nat.le_of_ble_eq_true rfl) dL_law_12 ⟨Nat.le_of_ble_eq_true rfl, Nat.le_of_ble_eq_true rfl⟩ (fun w1 H locs h9 w => ?_)
  obtain ⟨mo, hmo, h9⟩ := h9
  have w0 := w
  subst hmo
  have w := w0
  have w := w.jn (L1 := [wMo (GG D T z ks kv d1 d2).2.1 mo M0]) (L' := [wXo (GG D T z ks kv d1 d2).2.1 (ad 0) (xF ad) (svV sv) K, wSh (GG D T z ks kv d1 d2).2.1 (ad 1) S, wSh (GG D T z ks kv d1 d2).2.1 (ad 2) S, wTe (GG D T z ks kv d1 d2).2.1 (ad 4) C, wSb (GG D T z ks kv d1 d2).2.1 (ad 5) ou, wAd (GG D T z ks kv d1 d2).2.1 (ad 6) S, wAb (GG D T z ks kv d1 d2).2.1 (ad 7) S, wHo (GG D T z ks kv d1 d2).2.1 (ad 3) cu cu hs, hsL (GG D T z ks kv d1 d2).2.1 hs, blk (GG D T z ks kv d1 d2).2.1 sv, wMo (GG D T z ks kv d1 d2).2.1 mo M0]) h9 11 [1, 2, 3, 4, 5, 6, 7, 8, 9, 10, 0] rfl rfl rfl
  have w : Wd (GG D T z ks kv d1 d2) A s.heap (fl [wXo (GG D T z ks kv d1 d2).2.1 (ad 0) (xF ad) (svV sv) K, wSh (GG D T z ks kv d1 d2).2.1 (ad 1) S, wSh (GG D T z ks kv d1 d2).2.1 (ad 2) S, wTe (GG D T z ks kv d1 d2).2.1 (ad 4) C, wSb (GG D T z ks kv d1 d2).2.1 (ad 5) ou, wAd (GG D T z ks kv d1 d2).2.1 (ad 6) S, wAb (GG D T z ks kv d1 d2).2.1 (ad 7) S, wHo (GG D T z ks kv d1 d2).2.1 (ad 3) cu cu hs, hsL (GG D T z ks kv d1 d2).2.1 hs, blk (GG D T z ks kv d1 d2).2.1 sv, wMo (GG D T z ks kv d1 d2).2.1 mo M0]) _ _ := w
  refine lv_astore_n (lv' := [(2, .ref (mo 0)), (1, .ref ((ad 0) 0)), (0, .ref b)]) F.x F.b dL_law_15 rfl hl (by decide) rfl (fun ls hl => ?_)
  refine lv_iconst (v := 1) F.x F.b dL_law_16 (by decide) ?_
  refine rnA F w (atype := .long) (ty := .long) 4 rfl (List.mem_of_getElem? (i := 2038) (by decide +kernel)) (by decide +kernel) rfl (1, .inr (.inl (fun _ => 0))) (fun _ => rfl) (by decide) (N' := 1) (by decide) (Nat.le_of_ble_eq_true rfl) (Nat.le_of_ble_eq_true rfl) (Nat.le_of_ble_eq_true rfl) dL_law_17 (fun z3 H w => ?_)
  have w : Wd (GG D T z ks kv d1 d2) A s.heap (fl [wXo (GG D T z ks kv d1 d2).2.1 (ad 0) (xF ad) (svV sv) K, wSh (GG D T z ks kv d1 d2).2.1 (ad 1) S, wSh (GG D T z ks kv d1 d2).2.1 (ad 2) S, wTe (GG D T z ks kv d1 d2).2.1 (ad 4) C, wSb (GG D T z ks kv d1 d2).2.1 (ad 5) ou, wAd (GG D T z ks kv d1 d2).2.1 (ad 6) S, wAb (GG D T z ks kv d1 d2).2.1 (ad 7) S, wHo (GG D T z ks kv d1 d2).2.1 (ad 3) cu cu hs, hsL (GG D T z ks kv d1 d2).2.1 hs, blk (GG D T z ks kv d1 d2).2.1 sv, wMo (GG D T z ks kv d1 d2).2.1 mo M0, [(z3, .inl ((GG D T z ks kv d1 d2).2.1 4, 1, .inr (.inl (fun _ => 0))))]]) _ _ := w
  refine lv_astore_n (lv' := [(3, .ref z3), (2, .ref (mo 0)), (1, .ref ((ad 0) 0)), (0, .ref b)]) F.x F.b dL_law_19 rfl hl (by decide) rfl (fun ls hl => ?_)
  refine lv_iconst (v := 1) F.x F.b dL_law_20 (by decide) ?_
  refine rnA F w (atype := .double) (ty := .double) 5 rfl (List.mem_of_getElem? (i := 2039) (by decide +kernel)) (by decide +kernel) rfl (1, .inr (.inr (.inr (.inl (fun _ => 0))))) (fun _ => rfl) (by decide) (N' := 1) (by decide) (Nat.le_of_ble_eq_true rfl) (Nat.le_of_ble_eq_true rfl) (Nat.le_of_ble_eq_true rfl) dL_law_21 (fun z4 H w => ?_)
  have w : Wd (GG D T z ks kv d1 d2) A s.heap (fl [wXo (GG D T z ks kv d1 d2).2.1 (ad 0) (xF ad) (svV sv) K, wSh (GG D T z ks kv d1 d2).2.1 (ad 1) S, wSh (GG D T z ks kv d1 d2).2.1 (ad 2) S, wTe (GG D T z ks kv d1 d2).2.1 (ad 4) C, wSb (GG D T z ks kv d1 d2).2.1 (ad 5) ou, wAd (GG D T z ks kv d1 d2).2.1 (ad 6) S, wAb (GG D T z ks kv d1 d2).2.1 (ad 7) S, wHo (GG D T z ks kv d1 d2).2.1 (ad 3) cu cu hs, hsL (GG D T z ks kv d1 d2).2.1 hs, blk (GG D T z ks kv d1 d2).2.1 sv, wMo (GG D T z ks kv d1 d2).2.1 mo M0, [(z3, .inl ((GG D T z ks kv d1 d2).2.1 4, 1, .inr (.inl (fun _ => 0))))], [(z4, .inl ((GG D T z ks kv d1 d2).2.1 5, 1, .inr (.inr (.inr (.inl (fun _ => 0))))))]]) _ _ := w
  refine lv_astore (lv' := [(4, .ref z4), (3, .ref z3), (2, .ref (mo 0)), (1, .ref ((ad 0) 0)), (0, .ref b)]) F.x F.b dL_law_23 hl (by decide) rfl (fun ls hl => ?_)
  refine lv_iconst (v := 0) F.x F.b dL_law_25 (by decide) ?_
  refine lv_istore (lv' := [(5, .int 0), (4, .ref z4), (3, .ref z3), (2, .ref (mo 0)), (1, .ref ((ad 0) 0)), (0, .ref b)]) F.x F.b dL_law_26 hl (by decide) rfl (fun ls hl => ?_)
  have w := w.re (L' := [wXo (GG D T z ks kv d1 d2).2.1 (ad 0) (xF ad) (svV sv) K, wSh (GG D T z ks kv d1 d2).2.1 (ad 1) S, wSh (GG D T z ks kv d1 d2).2.1 (ad 2) S, wTe (GG D T z ks kv d1 d2).2.1 (ad 4) C, wSb (GG D T z ks kv d1 d2).2.1 (ad 5) ou, wAd (GG D T z ks kv d1 d2).2.1 (ad 6) S, wAb (GG D T z ks kv d1 d2).2.1 (ad 7) S, wHo (GG D T z ks kv d1 d2).2.1 (ad 3) cu cu hs, [(z3, .inl ((GG D T z ks kv d1 d2).2.1 4, 1, .inr (.inl (fun _ => 0))))], [(z4, .inl ((GG D T z ks kv d1 d2).2.1 5, 1, .inr (.inr (.inr (.inl (fun _ => 0))))))], wMo (GG D T z ks kv d1 d2).2.1 mo M0, hsL (GG D T z ks kv d1 d2).2.1 hs, blk (GG D T z ks kv d1 d2).2.1 sv]) 13 [0, 1, 2, 3, 4, 5, 6, 7, 11, 12, 10, 8, 9] rfl rfl rfl
  exact law_loop F GG.mg GG.nc GG.sg GG.pv GG.dg hst hX hbA hbl hL (by decide) (by decide) rfl rfl hend (L + 1) 0 1 _ _ (by omega) (Nat.zero_le L) (by omega) (Nat.le_of_ble_eq_true rfl) (Nat.le_of_ble_eq_true rfl) K S S C S S cu cu hs sv ou M0 _ _ H locs ls w h (show lv_has ls 9 [(5, .int (nI 0)), (4, .ref z4), (3, .ref z3), (2, .ref (mo 0)), (1, .ref ((ad 0) 0)), (0, .ref b)] from hl)
/-! THE CLAIM OUT OF ONE WALK OF THE LAW'S BODY. Your part is whole_start (and what it stands on); all else here is the same for every law, but numbers. -/
def R_law : String := "CustomsShedLaw"
def lw_P (b : Addr) (xs : List Int32) (args : Array Value) (s : State) : Prop := args = #[.ref b] ∧ s.IntsAt b xs ∧ xs.length ≤ 2560 ∧ (Jvm.Cond.and given_1 narrow_1).before args s = true
/-- what a walk over the start with the record d0 says of its end, said of the start itself -/
theorem lw_closed {s t : State} {o : Outcome} {d0 : Drawn} {L : List Loc} {k n : Nat} (hd0 : s.drawn.sameBut d0 lw_cs) (hv : ∃ v, o = .returned v) (hW : (s.setDrawn d0).WarmedH t.vm) (hs : (s.setDrawn d0).sameButNew ({ t with vm := s.vm } : State) L k n) : State.butDraws s t lw_cs (fun t1 => Framed s o t1 L k n) := by
  have h2 : t.drawn = d0 := congrArg State.drawn hs.1
  refine ⟨⟨hv, hW, State.sameButNew.setDrawn hs s.drawn⟩, ?_, by decide⟩
  rw [h2]
  exact hd0
def lw_Q (_ : Array Value) (s : State) (o : Outcome) (t : State) : Prop := o = .returned (some (.int 1)) ∧ State.butDraws s t lw_cs (fun t1 => Framed s o t1 [] 603072 7194730)
def lw_Z (below : List Frame) (a : Array Value) (s : State) : State → Prop := fun t => ∃ o, t.status = .running ∧ Ended t below o ∧ lw_Q a s o t
/-- the law's own end, with 1 on the stack, nothing written that was there before, its room as the claim has it; d0: the record of draws at this point (at the entry s.drawn: begin with 'refine W.base ?_' and 'have hd0 := Drawn.sameBut.refl s.drawn lw_cs') -/
theorem lw_ret {p : Program} {l : Launch} {e : Env} {s : State} {m : MethodId} {below : List Frame} {meth : Method} {c : Code} {b : Nat} {d0 : Drawn} (hd0 : s.drawn.sameBut d0 lw_cs) (hx : p.tables.exec = Jvm.exec) (hb : c.code = code) (hr : meth.sig.returnType = ret) (hlocks : meth.locks = false) {pc : Nat} {H : Heap} {ls : Array Slot} (hdg : decode code pc = .ok (.ireturn, 1)) : W p l e room_1 (s.setDrawn d0) m #[Value.ref b] below meth c H [] 603072 7194730 (lw_Z below #[Value.ref b] s) (F0 m pc ls [.int 1]) := by
  intro T hT X
  obtain ⟨fs, hret, hrun, hended, hW, hframe⟩ := X.leave (v := some (.int 1)) (hlocks := hlocks) (fun h => by rw [hr] at h; cases h)
  have hmeth' : T.vm.method? m = some meth := X.method'
  refine ⟨T.setFrames fs, ?_, .returned (some (.int 1)), hrun, hended, rfl, lw_closed hd0 ⟨_, rfl⟩ hW hframe⟩
  jvm_step X.here [X.here.top, hx, hb, hdg, hmeth', hr, ret, narrow_b1]
  (try refine ⟨rfl, ?_⟩); (try refine ⟨rfl, ?_⟩)
  first | (intro acts; rw [hret _ acts rfl rfl rfl]) | rw [hret _ _ rfl rfl rfl]
  exact Steps.refl _
/-- what holds at the law's entry: the machine, the code, the tables' words (any of lw_tbl by 'hts w (by decide +kernel)'), the script of L ints xs at the cell b, what the Statement gives of the start (any of its parts by flat_of_before) -/
def lw_At (p : Program) (s : State) (m : MethodId) (meth : Method) (c : Code) (b L : Nat) (xs : Nat → Int32) : Prop :=
  p.tables.exec = Jvm.exec ∧ c.code = code ∧ meth.sig.returnType = ret ∧ c.maxLocals = 9 ∧ s.vm.findClass R_law = some m.cls ∧ (∀ w ∈ lw_tbl, w.before #[Value.ref b] s = true) ∧ va_X b L xs s s.heap ∧ b < s.heap.size ∧ meth.locks = false ∧ (Jvm.Cond.and given_1 narrow_1).before #[Value.ref b] s = true
set_option maxRecDepth 100000 in
set_option maxHeartbeats 4000000 in
/-- YOUR PART: from the entry, for every script of at most 2560 ints, the law comes to its end with true ('hflags': the launch's flags, for a law that throws: no stack traces) -/
theorem whole_start {p : Program} {e : Env} {s : State} {m : MethodId} {below : List Frame} {meth : Method} {c : Code} (l : Launch) (hflags : l.flags = flags0) {b L : Nat} {xs : Nat → Int32} (hL : L ≤ 2560) (C0 : lw_At p s m meth c b L xs) : W p l e room_1 s m #[Value.ref b] below meth c s.heap [] 0 0 (lw_Z below #[Value.ref b] s) (entryFrame m ([Value.ref b] : List Value).toArray 9) := by
  obtain ⟨hx, hb, hr, hml, hown, hts, hX, hbl, hlocks, hgv⟩ := id C0
  have hst : l.stackTraces = false := by unfold Launch.stackTraces; rw [hflags]; decide
  obtain ⟨ks, kv, d1, d2, hPhi⟩ := phi_start hts hgv
  obtain ⟨D, T, hK⟩ := k_start m.cls hts
  have hbA : ¬ (fun q : Nat => s.heap.size ≤ q) b := Nat.not_le.mpr hbl
  have F : Fx (GG D T s.heap.size ks kv d1 d2) p s m c cL_law 9 RL (fun q : Nat => s.heap.size ≤ q) := ⟨GG.ok, hx, hb, hml, hown, ⟨TW.of hts, hK, hPhi⟩, Nat.le_refl _, fun q h => h, fun q h => h⟩
  have hend : ∀ (H : Heap) (locs : List Loc) (ls : Array Slot) (cells slots : Nat), va_S (fun q : Nat => s.heap.size ≤ q) s.heap H locs → cells ≤ 603072 → slots ≤ 7194730 → W p l e room_1 s m #[Value.ref b] below meth c H locs cells slots (lw_Z below #[Value.ref b] s) (F0 m 2843 ls [.int 1]) := by
    intro H locs ls cells slots hS hc hs
    refine W.base ?_
    refine va_forget (fun q hq => hS.2.2 q hq) ?_
    refine W.widen (k := 603072) (n := 7194730) hc hs ?_
    exact lw_ret (Drawn.sameBut.refl s.drawn lw_cs) hx hb hr hlocks dL_law_2843
  have hl := lv_entry ([.ref b]) (n := 9) (Nat.le_of_ble_eq_true rfl)
  rw [lg_entry_eq]
  generalize (lg_sl ([.ref b]) ++ List.replicate (9 - (lg_sl ([.ref b])).length) Slot.unset).toArray = ls at hl ⊢
  have hl : lv_has ls 9 [(0, .ref b)] := hl
  have w : Wd (GG D T s.heap.size ks kv d1 d2) (fun q : Nat => s.heap.size ≤ q) s.heap (fl []) s.heap [] := ⟨fun k q h => by simp [fl] at h, ⟨fun i j p q h => by simp [fl] at h, fun k q h => by simp [fl] at h⟩, va_S.rf⟩
  exact ws_rows F hst hX hbA hbl hL hend w hl
set_option maxHeartbeats 4000000 in
theorem lw_walk (l : Launch) (hflags : l.flags = flags0) (b : Addr) (xs : List Int32) : MetFree l x (headSpec (Jvm.Cond.code x code maxLocals ret :: tables_1) room_1) (lw_P b xs) (fun _ _ _ _ _ => True) lw_Q := by
  refine MetFree.of_bodyS (code := code) (maxLocals := maxLocals) (ret := ret) (by decide) ?_ ?_
  · intro args s m h hn
    obtain ⟨meth, c, h1, h2, h3, h4, h5, h6, -, -⟩ := Cond.code_spec hn (atoms_spec (ws := Jvm.Cond.code x code maxLocals ret :: tables_1) h _ List.mem_cons_self)
    exact ⟨meth, c, h1, h2, h3, h4, h5, h6⟩
  · intro p e s m args below meth c s₁ B hml0 hP _
    obtain ⟨rfl, hx, hbd, hgv⟩ := hP
    obtain ⟨scr, harrAt, hlist, hof, hsmall⟩ := hx
    obtain ⟨hcb, hkn, -, -⟩ := State.arrayAt?_spec harrAt
    have hown : s.vm.findClass R_law = some m.cls := findClass_of_methodNamed B.named
    have hts0 : ∀ c ∈ (Jvm.Cond.code x code maxLocals ret :: tables_1), c.before #[Value.ref b] s = true := atoms_spec (ws := Jvm.Cond.code x code maxLocals ret :: tables_1) B.pre
    have hts : ∀ w ∈ lw_tbl, w.before #[Value.ref b] s = true := k2_hts_sels lw_privs (fun w hw => hts0 w (List.mem_cons_of_mem _ hw)) lw_privs_ok
    have hml : c.maxLocals = 9 := B.maxLocals_eq (hts0 _ List.mem_cons_self)
    have X₀ : Stand p l e room_1 s m #[Value.ref b] below meth c s₁ [] 0 0 := Stand.of_body B
    have hh0 : s₁.heap = s.heap := by rw [B.state]; rfl
    have hsz : scr.slots.size = xs.length := by rw [← Array.length_toList, hlist, List.length_map]
    have hval : ∀ j : Nat, j < xs.length → scr.slots[j]? = some (.int (xs.getD j 0)) := fun j hj => by
      rw [← Array.getElem?_toList, hlist]
      simp [hj]
    have hbl : b < s.heap.size := (Array.getElem?_eq_some_iff.mp hcb).1
    have hX : va_X b xs.length (fun j => xs.getD j 0) s s.heap := ⟨scr, hcb, hof, hkn, hsz, hval⟩
    have K : W p l e room_1 s m #[Value.ref b] below meth c s₁.heap [] 0 0 (lw_Z below #[Value.ref b] s) (entryFrame m ([Value.ref b] : List Value).toArray 9) := by
      rw [hh0]
      exact whole_start l hflags hbd ⟨B.exec, B.bytes, B.returns, hml, hown, hts, hX, hbl, B.notSynchronized, hgv⟩
    obtain ⟨t, a1, o, b1, b2, b3⟩ := K s₁ rfl X₀
    exact ⟨t, o, a1, b1, b2, b3⟩
theorem lw_pre_spec {args : Array Value} {s : State} (h : (Jvm.Cond.and given_1 narrow_1).before args s = true) (hr : rest_1_c.before args s = true) : ∃ (b : Addr) (xs : List Int32), lw_P b xs args s := by
  have hs := flat_of_before _ h
  have hq := flat_of_before _ hr
  have hc : (Cond.count 1).before args s = true := hs _ (by decide +kernel)
  have harr : (Cond.arrayOf (.arg 0) .int).before args s = true := hs _ (by decide +kernel)
  have hle : (Cond.le (.length (.arg 0)) (.int 2560)).before args s = true := hs _ (by decide +kernel)
  have hlen : (Cond.isInt (.length (.arg 0))).before args s = true := hq _ (by decide +kernel)
  have hall : (Cond.all (.arg 0) (.isInt (.elem (.arg 0) (.index 0)))).before args s = true := hq _ (by decide +kernel)
  obtain ⟨b, xs, hb, hx⟩ := State.ints_of_pre rfl harr hlen hall
  have hsm : xs.length < 2 ^ 31 := hx.choose_spec.2.2.2
  have hev : (Term.length (.arg 0)).eval args s none [] s = some (.int xs.length.toInt32) := hx.length_eval hb
  have hv := Cond.le_ints hev (show (Term.int 2560).eval args s none [] s = some (.int 2560) from rfl)
  have hd : xs.length.toInt32 ≤ 2560 := by
    simpa [Cond.before, Cond.holds, hv] using hle
  have hN : xs.length ≤ 2560 := (Int32.ofNat_le_ofNat hsm (by decide)).mp (show Int32.ofNat xs.length ≤ Int32.ofNat 2560 from hd)
  exact ⟨b, xs, Cond.one_arg hc (show args[0]? = some (.ref b) from hb), hx, hN, h⟩
theorem lw_comes (l : Launch) (hflags : l.flags = flags0) : Comes l x (Jvm.Cond.code x code maxLocals ret :: tables_1) room_1 (fun tb e args s => Calls_1 tb e args s ∧ rest_1 tb e args s ∧ Pre_1 tb e args s)
    (fun _ _ args s o t => lw_Q args s o t) := by
  intro p e ha hc hk s m args below hf hfit hheap happ hpre
  obtain ⟨b, xs, hP⟩ := lw_pre_spec hpre.2.2 hpre.2.1
  obtain ⟨k, o, h1, h2, h3, hQ⟩ := lw_walk l hflags b xs p e ha hc hk s m args below hf ((Spec.applies_iff_loose hf).mp happ).1 hP trivial
  exact ⟨k, o, h1, h2, h3, hQ⟩
theorem lw_frame {s t : State} {o : Outcome} {args : Array Value} (h : State.butDraws s t lw_cs (fun t1 => Framed s o t1 [] 603072 7194730)) :
    State.butDraws s t [Jvm.Choice.named "NaN.bits"] (fun t1 => Framed s o t1 (fieldLocs frame_1_writes args s ++ arrayLocs frame_1_arrays args s ++ staticLocs frame_1_statics s) 603072 7194730) := h
theorem lw_limb (L : Cond) (hL : ∀ (args : Array Value) (s t : State), L.after args s (.returned (some (.int 1))) t = true) :
    ArmFor flags0 classFile x code maxLocals ret World_1 tables_1 room_1 Calls_1 rest_1 Pre_1
      (fun tb e a s o t => postC L tb e a s o t ∧ State.butDraws s t [Jvm.Choice.named "NaN.bits"] (fun t1 => Framed s o t1 (fieldLocs frame_1_writes a s ++ arrayLocs frame_1_arrays a s ++ staticLocs frame_1_statics s) 603072 7194730)) := by
  intro l hflags _ _ p e ha hc hk s m args below hf hfit hheap happ hpre
  obtain ⟨k, o, h1, h2, h3, rfl, hF⟩ := lw_comes l hflags p e ha hc hk s m args below hf hfit hheap happ hpre
  exact ⟨k, _, h1, h2, h3, hL args s _, lw_frame hF⟩
theorem i_vc : Claimed_1_1 ∧ Claimed_1_2 := ⟨lw_limb limb_1_1 (fun args s t => by simp [limb_1_1, Cond.after, Cond.holds, Cond.value]), lw_limb limb_1_2 (fun args s t => Cond.after_iff.mpr (by
  first | (rw [show limb_1_2 = Cond.eq .result (.int 1) from rfl, Cond.eq_ints (x := 1) (y := 1) rfl rfl]; simp; done) | (simp [limb_1_2, Cond.value, Term.eval]; done)))⟩

/-! printed by wip/p61/tools/gen99z.py: the claim out of the walk -/
theorem q45 : Cond.classLink RL 15 RX6 ∈ lw_tbl := List.mem_of_getElem? (i := 45) (by decide +kernel)
theorem q47 : Cond.methodLink RL 180 yX6_init ∈ lw_tbl := List.mem_of_getElem? (i := 47) (by decide +kernel)
theorem m_X6_init : YM yX6_init cX6_init 1 (none) 0 := ⟨⟨List.mem_of_getElem? (i := 49) (by decide +kernel), by decide +kernel⟩, List.mem_of_getElem? (i := 15) (by decide +kernel), ⟨by decide, by decide⟩, by decide +kernel⟩
theorem v_X6_init : Cond.instanceMethod yX6_init ∈ lw_tbl := (List.mem_of_getElem? (i := 48) (by decide +kernel))
theorem gd0 : Gd 0 zM 0 0 0 := by
  have no : ∀ {P : Prop} (p : Nat), p < 0 → P := fun p hp => absurd hp (Nat.not_lt_zero p)
  exact ⟨⟨rfl, by omega⟩, ⟨rfl, by omega⟩, ⟨rfl, by omega⟩, ⟨⟨fun p hp => no p hp, fun p _ hp _ _ => no p hp⟩, ⟨rfl, by omega, fun k hk => no k hk, fun _ k _ hk => no k hk⟩, ⟨fun k hk => no k hk, fun k _ hk _ _ => no k hk⟩, ⟨0, Nat.le_refl 0, by omega, rfl⟩⟩, ⟨⟨0, Nat.le_refl 0, Nat.le_refl 0, rfl⟩, fun p hp => no p hp⟩, ⟨fun _ p _ hp => no p hp, fun p hp => no p hp⟩⟩
set_option maxRecDepth 100000 in
set_option maxHeartbeats 4000000 in
/-- from the entry to the loop -/
theorem ws_rows {G : cG} {p : Program} {l : Launch} {e0 : Env} {s : State} {m0 : MethodId} {args : Array Value} {below : List Frame} {meth : Method} {cm : Code} {A : Nat → Prop} {QQ : State → Prop} (F : Fx G p s m0 cm cL_law 26 RL A) (gM : MG G) (hNC : NcG G) {ks kv : Nat → Nat} (hSG : SG G ks kv) {uk uv : Nat → Nat} (hUG : SG2 G uk uv) (pv : PV G) (pv2 : PV2 G) (hCB : CBC G) {d1 d2 : Nat} (hD : DGs G d1 d2) (hAG : AG G) (hst : l.stackTraces = false) {b L : Nat} {xs : Nat → Int32} (hXS : XS G b L xs) {ls : Array Slot}
    (hend : ∀ (H : Heap) (locs : List Loc) (ls : Array Slot) (cells slots : Nat), va_S A s.heap H locs → cells ≤ 660961 → slots ≤ 7109381 → W p l e0 room_1 s m0 args below meth cm H locs cells slots QQ (F0 m0 601 ls [.int 1])) (w : Wd G A s.heap (fl []) s.heap []) (hl : lv_has ls 26 [(0, .ref b)]) : W p l e0 room_1 s m0 args below meth cm s.heap [] 0 0 QQ (F0 m0 0 ls []) := by
  refine rn F w cl6 q45 (List.mem_of_getElem? (i := 46) (by decide +kernel)) (List.mem_of_getElem? (i := 15) (by decide +kernel)) [.null, .null, .null, .null, .null, .null, .null, .null, .int 0, .int 0] (fun j hj => by rcases (show j = 0 ∨ j = 1 ∨ j = 2 ∨ j = 3 ∨ j = 4 ∨ j = 5 ∨ j = 6 ∨ j = 7 ∨ j = 8 ∨ j = 9 by omega) with rfl | rfl | rfl | rfl | rfl | rfl | rfl | rfl | rfl | rfl <;> rfl) (Nat.le_of_ble_eq_true rfl) (Nat.le_of_ble_eq_true rfl) dL_law_0 (fun z1 H w => ?_)
  have w : Wd G A s.heap (fl [[(z1, .inr (10, [.null, .null, .null, .null, .null, .null, .null, .null, .int 0, .int 0]))]]) _ _ := w
  refine lv_dup F.x F.b dL_law_3 rfl ?_
  refine kCI F w (LC := [[(z1, .inr (10, [.null, .null, .null, .null, .null, .null, .null, .null, .int 0, .int 0]))]]) (LR := []) (As := []) (rest := [.ref z1]) (t_X6_init F.1 hAG hSG) m_X6_init v_X6_init rfl q47 1 [0] rfl rfl rfl ⟨Nat.le_of_ble_eq_true rfl, Nat.le_of_ble_eq_true rfl⟩ rfl hl.1 rfl (Nat.le_of_ble_eq_true rfl) dL_law_4 ⟨Nat.le_of_ble_eq_true rfl, Nat.le_of_ble_eq_true rfl⟩ (fun w1 H locs h9 w => ?_)
  obtain ⟨ad, va, had, h9⟩ := h9
  have w0 := w
  subst had
  have w := w0
  have w := w.jn (L1 := [wXo G.2.1 (ad 0) (xF ad) .null K0, wSh G.2.1 (ad 1) zM, wSh G.2.1 (ad 2) zM, wTe G.2.1 (ad 4) C0, wSb G.2.1 (ad 5) (va, 16, 0, 0, fun _ => 0), wAd G.2.1 (ad 6) zM, wAb G.2.1 (ad 7) zM, wHo G.2.1 (ad 3) 0 0 (fun _ => none), hsL G.2.1 (fun _ => none), blk G.2.1 none]) (L' := [wXo G.2.1 (ad 0) (xF ad) .null K0, wSh G.2.1 (ad 1) zM, wSh G.2.1 (ad 2) zM, wTe G.2.1 (ad 4) C0, wSb G.2.1 (ad 5) (va, 16, 0, 0, fun _ => 0), wAd G.2.1 (ad 6) zM, wAb G.2.1 (ad 7) zM, wHo G.2.1 (ad 3) 0 0 (fun _ => none), hsL G.2.1 (fun _ => none), blk G.2.1 none]) h9 10 [0, 1, 2, 3, 4, 5, 6, 7, 8, 9] rfl rfl rfl
  have w : Wd G A s.heap (fl ([wXo G.2.1 (ad 0) (xF ad) .null K0, wSh G.2.1 (ad 1) zM, wSh G.2.1 (ad 2) zM, wTe G.2.1 (ad 4) C0, wSb G.2.1 (ad 5) (va, 16, 0, 0, fun _ => 0), wAd G.2.1 (ad 6) zM, wAb G.2.1 (ad 7) zM, wHo G.2.1 (ad 3) 0 0 (fun _ => none), hsL G.2.1 (fun _ => none)] ++ [blk G.2.1 none])) _ _ := w
  have w := w.drop
  refine lv_astore_n (lv' := [(1, .ref ((ad 0) 0)), (0, .ref b)]) F.x F.b dL_law_7 rfl hl (by decide) rfl (fun ls hl => ?_)
  refine lv_bipush (v := 80) F.x F.b dL_law_8 (by decide) ?_
  refine rnA F w (atype := .long) (ty := .long) 4 rfl (List.mem_of_getElem? (i := 1510) (by decide +kernel)) (by decide +kernel) rfl (80, .inr (.inl (fun _ => 0))) (fun _ => rfl) (by decide) (N' := 80) (by decide) (Nat.le_of_ble_eq_true rfl) (Nat.le_of_ble_eq_true rfl) (Nat.le_of_ble_eq_true rfl) dL_law_10 (fun z2 H w => ?_)
  have w : Wd G A s.heap (fl [wXo G.2.1 (ad 0) (xF ad) .null K0, wSh G.2.1 (ad 1) zM, wSh G.2.1 (ad 2) zM, wTe G.2.1 (ad 4) C0, wSb G.2.1 (ad 5) (va, 16, 0, 0, fun _ => 0), wAd G.2.1 (ad 6) zM, wAb G.2.1 (ad 7) zM, wHo G.2.1 (ad 3) 0 0 (fun _ => none), hsL G.2.1 (fun _ => none), [(z2, .inl (G.2.1 4, 80, .inr (.inl (fun _ => 0))))]]) _ _ := w
  have w := w.re (L' := [[(z2, .inl (G.2.1 4, 80, .inr (.inl (fun _ => 0))))], wXo G.2.1 (ad 0) (xF ad) .null K0, wSh G.2.1 (ad 1) zM, wSh G.2.1 (ad 2) zM, wTe G.2.1 (ad 4) C0, wSb G.2.1 (ad 5) (va, 16, 0, 0, fun _ => 0), wAd G.2.1 (ad 6) zM, wAb G.2.1 (ad 7) zM, wHo G.2.1 (ad 3) 0 0 (fun _ => none), hsL G.2.1 (fun _ => none)]) 10 [9, 0, 1, 2, 3, 4, 5, 6, 7, 8] rfl rfl rfl
  refine lv_astore_n (lv' := [(2, .ref z2), (1, .ref ((ad 0) 0)), (0, .ref b)]) F.x F.b dL_law_12 rfl hl (by decide) rfl (fun ls hl => ?_)
  refine lv_iconst (v := 0) F.x F.b dL_law_13 (by decide) ?_
  refine lv_istore_n (lv' := [(3, .int 0), (2, .ref z2), (1, .ref ((ad 0) 0)), (0, .ref b)]) F.x F.b dL_law_14 rfl hl (by decide) rfl (fun ls hl => ?_)
  refine lv_aload_n F.x F.b dL_law_15 rfl (lv_at hl 1 rfl) ?_
  refine lv_iload_n F.x F.b dL_law_16 rfl (lv_at hl 0 rfl) ?_
  refine lv_aload_n F.x F.b dL_law_17 rfl (lv_at hl 2 rfl) ?_
  refine kBl F w hst (LC := [wXo G.2.1 (ad 0) (xF ad) .null K0, wSh G.2.1 (ad 1) zM, wSb G.2.1 (ad 5) (va, 16, 0, 0, fun _ => 0)]) (LR := [[(z2, .inl (G.2.1 4, 80, .inr (.inl (fun _ => 0))))], wSh G.2.1 (ad 2) zM, wTe G.2.1 (ad 4) C0, wAd G.2.1 (ad 6) zM, wAb G.2.1 (ad 7) zM, wHo G.2.1 (ad 3) 0 0 (fun _ => none), hsL G.2.1 (fun _ => none)]) (As := [.ref ((ad 0) 0)]) (rest := [.int 0, .ref z2]) (w_sum F.1 hSG pv hD gd0 (Tx.nil (va := va) (cp := 16) (mb := 0) (f := fun _ => 0) (Or.inl rfl))) m_L_sum v_L_sum q1167 10 [1, 2, 5, 0, 3, 4, 6, 7, 8, 9] rfl rfl rfl ⟨Nat.le_of_ble_eq_true rfl, Nat.le_of_ble_eq_true rfl⟩ rfl hl.1 rfl (Nat.le_of_ble_eq_true rfl) dL_law_18 ⟨Nat.le_of_ble_eq_true rfl, Nat.le_of_ble_eq_true rfl⟩ (fun r9 w1 H locs h9 w => ?_)
  obtain ⟨rfl, ou1, L1, hou1, h9⟩ := h9
  have w := w.jn (L1 := [wXo G.2.1 (ad 0) (xF ad) .null K0, wSh G.2.1 (ad 1) zM, wSb G.2.1 (ad 5) ou1]) (L' := [[(z2, .inl (G.2.1 4, 80, .inr (.inl (fun _ => 0))))], wXo G.2.1 (ad 0) (xF ad) .null K0, wSh G.2.1 (ad 1) zM, wSh G.2.1 (ad 2) zM, wTe G.2.1 (ad 4) C0, wSb G.2.1 (ad 5) ou1, wAd G.2.1 (ad 6) zM, wAb G.2.1 (ad 7) zM, wHo G.2.1 (ad 3) 0 0 (fun _ => none), hsL G.2.1 (fun _ => none)]) h9 10 [3, 0, 1, 4, 5, 2, 6, 7, 8, 9] rfl rfl rfl
  refine rLs F w 0 rfl (by decide) (ws' := fl [[(z2, .inl (G.2.1 4, 80, .inr (.inl (vp_updL (fun _ => 0) (Int32.toNatClampNeg 0) (sumF zM 0 0 0)))))], wXo G.2.1 (ad 0) (xF ad) .null K0, wSh G.2.1 (ad 1) zM, wSh G.2.1 (ad 2) zM, wTe G.2.1 (ad 4) C0, wSb G.2.1 (ad 5) ou1, wAd G.2.1 (ad 6) zM, wAb G.2.1 (ad 7) zM, wHo G.2.1 (ad 3) 0 0 (fun _ => none), hsL G.2.1 (fun _ => none)]) rfl dL_law_21 (fun H locs w => ?_)
  refine lv_iconst (v := 0) F.x F.b dL_law_22 (by decide) ?_
  refine lv_istore (lv' := [(4, .int 0), (3, .int 0), (2, .ref z2), (1, .ref ((ad 0) 0)), (0, .ref b)]) F.x F.b dL_law_23 hl (by decide) rfl (fun ls hl => ?_)
  refine lv_iconst (v := 0) F.x F.b dL_law_25 (by decide) ?_
  refine lv_istore (lv' := [(5, .int 0), (4, .int 0), (3, .int 0), (2, .ref z2), (1, .ref ((ad 0) 0)), (0, .ref b)]) F.x F.b dL_law_26 hl (by decide) rfl (fun ls hl => ?_)
  refine lv_iconst (v := 0) F.x F.b dL_law_28 (by decide) ?_
  refine lv_istore (lv' := [(6, .int 0), (5, .int 0), (4, .int 0), (3, .int 0), (2, .ref z2), (1, .ref ((ad 0) 0)), (0, .ref b)]) F.x F.b dL_law_29 hl (by decide) rfl (fun ls hl => ?_)
  exact law_loop F gM hNC hSG hUG pv pv2 hCB hD hst hXS hend 58 0 (by omega) K0 zM zM C0 zM zM ou1 L1 0 0 0 0 0 0 0 (fun _ => none) (vp_updL (fun _ => 0) (Int32.toNatClampNeg 0) (sumF zM 0 0 0)) 0 _ _ H locs ls gd0 rfl hou1 ⟨by decide, by decide, by decide, fun i hi => absurd hi (Nat.not_lt_zero i)⟩ rfl (Nat.le_refl 0) (by rw [show Int32.toNatClampNeg 0 = 0 by decide]; exact (if_pos rfl).symm) (show (0 : Int32) + 0 = 0 by decide) rfl (by decide) (by decide) w (show lv_has ls 26 [(6, .int (nI 0)), (5, .int 0), (4, .int (nI 0)), (3, .int (nI 0)), (2, .ref z2), (1, .ref ((ad 0) 0)), (0, .ref b)] from (lv_sub hl [0, 1, 2, 3, 4, 5, 6] rfl))
/-! THE CLAIM OUT OF ONE WALK OF THE LAW'S BODY. Your part is whole_start (and what it stands on); all else here is the same for every law, but numbers. -/
def R_law : String := "CustomsShedLaw"
def lw_P (b : Addr) (xs : List Int32) (args : Array Value) (s : State) : Prop := args = #[.ref b] ∧ s.IntsAt b xs ∧ xs.length ≤ 260 ∧ (Jvm.Cond.and given_1 narrow_1).before args s = true
/-- what a walk over the start with the record d0 says of its end, said of the start itself -/
theorem lw_closed {s t : State} {o : Outcome} {d0 : Drawn} {L : List Loc} {k n : Nat} (hd0 : s.drawn.sameBut d0 lw_cs) (hv : ∃ v, o = .returned v) (hW : (s.setDrawn d0).WarmedH t.vm) (hs : (s.setDrawn d0).sameButNew ({ t with vm := s.vm } : State) L k n) : State.butDraws s t lw_cs (fun t1 => Framed s o t1 L k n) := by
  have h2 : t.drawn = d0 := congrArg State.drawn hs.1
  refine ⟨⟨hv, hW, State.sameButNew.setDrawn hs s.drawn⟩, ?_, by decide⟩
  rw [h2]
  exact hd0
def lw_Q (_ : Array Value) (s : State) (o : Outcome) (t : State) : Prop := o = .returned (some (.int 1)) ∧ State.butDraws s t lw_cs (fun t1 => Framed s o t1 [] 660961 7109381)
def lw_Z (below : List Frame) (a : Array Value) (s : State) : State → Prop := fun t => ∃ o, t.status = .running ∧ Ended t below o ∧ lw_Q a s o t
/-- the law's own end, with 1 on the stack, nothing written that was there before, its room as the claim has it; d0: the record of draws at this point (at the entry s.drawn: begin with 'refine W.base ?_' and 'have hd0 := Drawn.sameBut.refl s.drawn lw_cs') -/
theorem lw_ret {p : Program} {l : Launch} {e : Env} {s : State} {m : MethodId} {below : List Frame} {meth : Method} {c : Code} {b : Nat} {d0 : Drawn} (hd0 : s.drawn.sameBut d0 lw_cs) (hx : p.tables.exec = Jvm.exec) (hb : c.code = code) (hr : meth.sig.returnType = ret) (hlocks : meth.locks = false) {pc : Nat} {H : Heap} {ls : Array Slot} (hdg : decode code pc = .ok (.ireturn, 1)) : W p l e room_1 (s.setDrawn d0) m #[Value.ref b] below meth c H [] 660961 7109381 (lw_Z below #[Value.ref b] s) (F0 m pc ls [.int 1]) := by
  intro T hT X
  obtain ⟨fs, hret, hrun, hended, hW, hframe⟩ := X.leave (v := some (.int 1)) (hlocks := hlocks) (fun h => by rw [hr] at h; cases h)
  have hmeth' : T.vm.method? m = some meth := X.method'
  refine ⟨T.setFrames fs, ?_, .returned (some (.int 1)), hrun, hended, rfl, lw_closed hd0 ⟨_, rfl⟩ hW hframe⟩
  jvm_step X.here [X.here.top, hx, hb, hdg, hmeth', hr, ret, narrow_b1]
  (try refine ⟨rfl, ?_⟩); (try refine ⟨rfl, ?_⟩)
  first | (intro acts; rw [hret _ acts rfl rfl rfl]) | rw [hret _ _ rfl rfl rfl]
  exact Steps.refl _
/-- what holds at the law's entry: the machine, the code, the tables' words (any of lw_tbl by 'hts w (by decide +kernel)'), the script of L ints xs at the cell b, what the Statement gives of the start (any of its parts by flat_of_before) -/
def lw_At (p : Program) (s : State) (m : MethodId) (meth : Method) (c : Code) (b L : Nat) (xs : Nat → Int32) : Prop :=
  p.tables.exec = Jvm.exec ∧ c.code = code ∧ meth.sig.returnType = ret ∧ c.maxLocals = 26 ∧ s.vm.findClass R_law = some m.cls ∧ (∀ w ∈ lw_tbl, w.before #[Value.ref b] s = true) ∧ va_X b L xs s s.heap ∧ b < s.heap.size ∧ meth.locks = false ∧ (Jvm.Cond.and given_1 narrow_1).before #[Value.ref b] s = true
set_option maxRecDepth 100000 in
set_option maxHeartbeats 4000000 in
/-- YOUR PART: from the entry, for every script of at most 260 ints, the law comes to its end with true ('hflags': the launch's flags, for a law that throws: no stack traces) -/
theorem whole_start {p : Program} {e : Env} {s : State} {m : MethodId} {below : List Frame} {meth : Method} {c : Code} (l : Launch) (hflags : l.flags = flags0) {b L : Nat} {xs : Nat → Int32} (hL : L ≤ 260) (C0 : lw_At p s m meth c b L xs) : W p l e room_1 s m #[Value.ref b] below meth c s.heap [] 0 0 (lw_Z below #[Value.ref b] s) (entryFrame m ([Value.ref b] : List Value).toArray 26) := by
  obtain ⟨hx, hb, hr, hml, hown, hts, hX, hbl, hlocks, hgv⟩ := id C0
  have hst : l.stackTraces = false := by unfold Launch.stackTraces; rw [hflags]; decide
  obtain ⟨ks, kv, d1, d2, uk, uv, hPhi⟩ := phi_start hX hbl hL hts hgv
  obtain ⟨D, T, hK⟩ := k_start m.cls hts
  have F : Fx (GG D T s.heap.size ks kv d1 d2 uk uv b L xs) p s m c cL_law 26 RL (fun q : Nat => s.heap.size ≤ q) := ⟨GG.ok, hx, hb, hml, hown, ⟨TW.of hts, hK, hPhi⟩, Nat.le_refl _, fun q h => h, fun q h => h⟩
  have hend : ∀ (H : Heap) (locs : List Loc) (ls : Array Slot) (cells slots : Nat), va_S (fun q : Nat => s.heap.size ≤ q) s.heap H locs → cells ≤ 660961 → slots ≤ 7109381 → W p l e room_1 s m #[Value.ref b] below meth c H locs cells slots (lw_Z below #[Value.ref b] s) (F0 m 601 ls [.int 1]) := by
    intro H locs ls cells slots hS hc hs
    refine W.base ?_
    refine va_forget (fun q hq => hS.2.2 q hq) ?_
    refine W.widen (k := 660961) (n := 7109381) hc hs ?_
    exact lw_ret (Drawn.sameBut.refl s.drawn lw_cs) hx hb hr hlocks dL_law_601
  have hl := lv_entry ([.ref b]) (n := 26) (Nat.le_of_ble_eq_true rfl)
  rw [lg_entry_eq]
  generalize (lg_sl ([.ref b]) ++ List.replicate (26 - (lg_sl ([.ref b])).length) Slot.unset).toArray = ls at hl ⊢
  have hl : lv_has ls 26 [(0, .ref b)] := hl
  have w : Wd (GG D T s.heap.size ks kv d1 d2 uk uv b L xs) (fun q : Nat => s.heap.size ≤ q) s.heap (fl []) s.heap [] := ⟨fun k q h => by simp [fl] at h, ⟨fun i j p q h => by simp [fl] at h, fun k q h => by simp [fl] at h⟩, va_S.rf⟩
  exact ws_rows F GG.mg GG.nc GG.sg GG.sg2 GG.pv GG.pv2 GG.cb GG.dg GG.ag hst GG.scr hend w hl
set_option maxHeartbeats 4000000 in
theorem lw_walk (l : Launch) (hflags : l.flags = flags0) (b : Addr) (xs : List Int32) : MetFree l x (headSpec (Jvm.Cond.code x code maxLocals ret :: tables_1) room_1) (lw_P b xs) (fun _ _ _ _ _ => True) lw_Q := by
  refine MetFree.of_bodyS (code := code) (maxLocals := maxLocals) (ret := ret) (by decide) ?_ ?_
  · intro args s m h hn
    obtain ⟨meth, c, h1, h2, h3, h4, h5, h6, -, -⟩ := Cond.code_spec hn (atoms_spec (ws := Jvm.Cond.code x code maxLocals ret :: tables_1) h _ List.mem_cons_self)
    exact ⟨meth, c, h1, h2, h3, h4, h5, h6⟩
  · intro p e s m args below meth c s₁ B hml0 hP _
    obtain ⟨rfl, hx, hbd, hgv⟩ := hP
    obtain ⟨scr, harrAt, hlist, hof, hsmall⟩ := hx
    obtain ⟨hcb, hkn, -, -⟩ := State.arrayAt?_spec harrAt
    have hown : s.vm.findClass R_law = some m.cls := findClass_of_methodNamed B.named
    have hts0 : ∀ c ∈ (Jvm.Cond.code x code maxLocals ret :: tables_1), c.before #[Value.ref b] s = true := atoms_spec (ws := Jvm.Cond.code x code maxLocals ret :: tables_1) B.pre
    have hts : ∀ w ∈ lw_tbl, w.before #[Value.ref b] s = true := k2_hts_sels lw_privs (fun w hw => hts0 w (List.mem_cons_of_mem _ hw)) lw_privs_ok
    have hml : c.maxLocals = 26 := B.maxLocals_eq (hts0 _ List.mem_cons_self)
    have X₀ : Stand p l e room_1 s m #[Value.ref b] below meth c s₁ [] 0 0 := Stand.of_body B
    have hh0 : s₁.heap = s.heap := by rw [B.state]; rfl
    have hsz : scr.slots.size = xs.length := by rw [← Array.length_toList, hlist, List.length_map]
    have hval : ∀ j : Nat, j < xs.length → scr.slots[j]? = some (.int (xs.getD j 0)) := fun j hj => by
      rw [← Array.getElem?_toList, hlist]
      simp [hj]
    have hbl : b < s.heap.size := (Array.getElem?_eq_some_iff.mp hcb).1
    have hX : va_X b xs.length (fun j => xs.getD j 0) s s.heap := ⟨scr, hcb, hof, hkn, hsz, hval⟩
    have K : W p l e room_1 s m #[Value.ref b] below meth c s₁.heap [] 0 0 (lw_Z below #[Value.ref b] s) (entryFrame m ([Value.ref b] : List Value).toArray 26) := by
      rw [hh0]
      exact whole_start l hflags hbd ⟨B.exec, B.bytes, B.returns, hml, hown, hts, hX, hbl, B.notSynchronized, hgv⟩
    obtain ⟨t, a1, o, b1, b2, b3⟩ := K s₁ rfl X₀
    exact ⟨t, o, a1, b1, b2, b3⟩
theorem lw_pre_spec {args : Array Value} {s : State} (h : (Jvm.Cond.and given_1 narrow_1).before args s = true) (hr : rest_1_c.before args s = true) : ∃ (b : Addr) (xs : List Int32), lw_P b xs args s := by
  have hs := flat_of_before _ h
  have hq := flat_of_before _ hr
  have hc : (Cond.count 1).before args s = true := hs _ (by decide +kernel)
  have harr : (Cond.arrayOf (.arg 0) .int).before args s = true := hs _ (by decide +kernel)
  have hle : (Cond.le (.length (.arg 0)) (.int 260)).before args s = true := hs _ (by decide +kernel)
  have hlen : (Cond.isInt (.length (.arg 0))).before args s = true := hq _ (by decide +kernel)
  have hall : (Cond.all (.arg 0) (.isInt (.elem (.arg 0) (.index 0)))).before args s = true := hq _ (by decide +kernel)
  obtain ⟨b, xs, hb, hx⟩ := State.ints_of_pre rfl harr hlen hall
  have hsm : xs.length < 2 ^ 31 := hx.choose_spec.2.2.2
  have hev : (Term.length (.arg 0)).eval args s none [] s = some (.int xs.length.toInt32) := hx.length_eval hb
  have hv := Cond.le_ints hev (show (Term.int 260).eval args s none [] s = some (.int 260) from rfl)
  have hd : xs.length.toInt32 ≤ 260 := by
    simpa [Cond.before, Cond.holds, hv] using hle
  have hN : xs.length ≤ 260 := (Int32.ofNat_le_ofNat hsm (by decide)).mp (show Int32.ofNat xs.length ≤ Int32.ofNat 260 from hd)
  exact ⟨b, xs, Cond.one_arg hc (show args[0]? = some (.ref b) from hb), hx, hN, h⟩
theorem lw_comes (l : Launch) (hflags : l.flags = flags0) : Comes l x (Jvm.Cond.code x code maxLocals ret :: tables_1) room_1 (fun tb e args s => Calls_1 tb e args s ∧ rest_1 tb e args s ∧ Pre_1 tb e args s)
    (fun _ _ args s o t => lw_Q args s o t) := by
  intro p e ha hc hk s m args below hf hfit hheap happ hpre
  obtain ⟨b, xs, hP⟩ := lw_pre_spec hpre.2.2 hpre.2.1
  obtain ⟨k, o, h1, h2, h3, hQ⟩ := lw_walk l hflags b xs p e ha hc hk s m args below hf ((Spec.applies_iff_loose hf).mp happ).1 hP trivial
  exact ⟨k, o, h1, h2, h3, hQ⟩
theorem lw_frame {s t : State} {o : Outcome} {args : Array Value} (h : State.butDraws s t lw_cs (fun t1 => Framed s o t1 [] 660961 7109381)) :
    State.butDraws s t [Jvm.Choice.named "NaN.bits"] (fun t1 => Framed s o t1 (fieldLocs frame_1_writes args s ++ arrayLocs frame_1_arrays args s ++ staticLocs frame_1_statics s) 660961 7109381) := h
theorem lw_limb (L : Cond) (hL : ∀ (args : Array Value) (s t : State), L.after args s (.returned (some (.int 1))) t = true) :
    ArmFor flags0 classFile x code maxLocals ret World_1 tables_1 room_1 Calls_1 rest_1 Pre_1
      (fun tb e a s o t => postC L tb e a s o t ∧ State.butDraws s t [Jvm.Choice.named "NaN.bits"] (fun t1 => Framed s o t1 (fieldLocs frame_1_writes a s ++ arrayLocs frame_1_arrays a s ++ staticLocs frame_1_statics s) 660961 7109381)) := by
  intro l hflags _ _ p e ha hc hk s m args below hf hfit hheap happ hpre
  obtain ⟨k, o, h1, h2, h3, rfl, hF⟩ := lw_comes l hflags p e ha hc hk s m args below hf hfit hheap happ hpre
  exact ⟨k, _, h1, h2, h3, hL args s _, lw_frame hF⟩
theorem i_vc : Claimed_1_1 ∧ Claimed_1_2 := ⟨lw_limb limb_1_1 (fun args s t => by simp [limb_1_1, Cond.after, Cond.holds, Cond.value]), lw_limb limb_1_2 (fun args s t => Cond.after_iff.mpr (by
  first | (rw [show limb_1_2 = Cond.eq .result (.int 1) from rfl, Cond.eq_ints (x := 1) (y := 1) rfl rfl]; simp; done) | (simp [limb_1_2, Cond.value, Term.eval]; done)))⟩

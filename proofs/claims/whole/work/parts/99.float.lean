/-! printed by wip/whole/tools/gen99.py: meanValue, sealedFraction -/
theorem q1341 : Cond.methodLink RX6 256 yX3_sumOfValues ∈ lw_tbl := List.mem_of_getElem? (i := 1341) (by decide +kernel)
theorem q1352 : Cond.methodLink RX6 259 yX3_countSealed ∈ lw_tbl := List.mem_of_getElem? (i := 1352) (by decide +kernel)
theorem m_X3_sumOfValues : YM yX3_sumOfValues cX3_sumOfValues 3 (some (.int)) 0 := ⟨⟨List.mem_of_getElem? (i := 1344) (by decide +kernel), by decide +kernel⟩, List.mem_of_getElem? (i := 57) (by decide +kernel), ⟨by decide, by decide⟩, by decide +kernel⟩
theorem v_X3_sumOfValues : YV yX3_sumOfValues := ⟨(List.mem_of_getElem? (i := 1342) (by decide +kernel)), List.mem_of_getElem? (i := 1343) (by decide +kernel)⟩
theorem n64_of {r : UInt64} (h : FP.Core.dIsNaN r = false) : vf_n64 r := by
  unfold vf_n64
  have h1 : ¬ 9218868437227405312 < r.toNat % 2 ^ 63 := fun z => by rw [(FP.Core.isNaN_bits r).mpr z] at h; cases h
  rw [UInt64.le_iff_toNat_le, UInt64.toNat_and, show (0x7fffffffffffffff : UInt64).toNat = 2 ^ 63 - 1 by decide, Nat.and_two_pow_sub_one_eq_mod]
  exact Nat.not_lt.mp h1
theorem n32_of {r : UInt32} (h : FP.Core.fIsNaN r = false) : vf_n32 r := by
  unfold vf_n32
  have h1 : ¬ 2139095040 < r.toNat % 2 ^ 31 := fun z => by rw [(FP.Core.isNaN_bits32 r).mpr z] at h; cases h
  rw [UInt32.le_iff_toNat_le, UInt32.toNat_and, show (0x7fffffff : UInt32).toNat = 2 ^ 31 - 1 by decide, Nat.and_two_pow_sub_one_eq_mod]
  exact Nat.not_lt.mp h1
theorem dd_ok (a b : Int32) (hb : ¬ b = 0) : FP.Core.dIsNaN (FP.ddiv (FP.i2d a) (FP.i2d b)) = false := FP.Core.ddiv_out (FP.Core.i2d_fin a).notNaN (FP.Core.i2d_fin b) (fun z => FP.Core.i2d_ne_zero hb ((FP.Core.zero_bits2 _).mp z))
theorem ff_ok (a b : Int32) (hb : ¬ b = 0) : FP.Core.fIsNaN (FP.fdiv (FP.i2f a) (FP.i2f b)) = false := FP.Core.fdiv_out (FP.Core.i2f_fin a).notNaN (FP.Core.i2f_fin b) (fun z => FP.Core.i2f_ne_zero hb ((FP.Core.zero_bits232 _).mp z))
/-- the mean, the part -/
def mnD (v : Nat → Int32) (c : Nat) : UInt64 := FP.ddiv (FP.i2d (sI v c)) (FP.i2d (nI c))
def frF (v : Nat → Int32) (c : Nat) : UInt32 := FP.fdiv (FP.i2f (sI v c)) (FP.i2f (nI c))
/-- CONTRACT: a double answer, or an exception -/
def CXd (G : cG) (y : MethodName) (b : ByteArray) (n : Nat) (fr lo mc ms : Nat) (av : List Value) (w0 : va_W) (P : UInt64 → va_W → Prop) (X : String → va_W → Prop) : Prop :=
  ∀ (l : Launch) (sz : Nat), l.stackTraces = false → vx_Met l y (wy y b n (some .double)) { frames := fr, cells := mc, slots := ms, locals := lo } (va_Pc av (PreB G sz w0)) (va_Qd P (fun w1 t => PosB G sz w0 w1 t) (va_A w0 sz)) (vx_X (fun _ : va_W => True) (fun E w1 t => X E w1 ∧ PosB G sz w0 w1 t) (va_A w0 sz)) mc ms (va_A w0 sz)
abbrev XD (G : cG) (A : Nat → Prop) (P : UInt64 → va_W → Prop) (X : String → va_W → Prop) (mc ms : Nat) (below : List Frame) (args : Array Value) (s : State) : State → Prop := vx_MQ below (va_Qd P (fun w1 t => va_P G.1 vwCl w1 t.heap ∧ va_D A w1) A) (XQ G A X) args s mc ms A
theorem CXd.of {G : cG} (g : GOK G) {y : MethodName} {b : ByteArray} {n : Nat} {fr lo mc ms : Nat} {av : List Value} {w0 : va_W} {P : UInt64 → va_W → Prop} {X : String → va_W → Prop} {own : String} (hp : plainName y.cls = true) (hown : y.cls = own) (hn : (lg_sl av).length ≤ n)
    (body : ∀ (p : Program) (l : Launch) (e : Env) (s : State) (m : MethodId) (below : List Frame) (meth : Method) (c : Code) (A : Nat → Prop) (ls : Array Slot), l.stackTraces = false → (∀ x ∈ c.exceptionTable.toList, False) → Fx G p s m c b n own A → meth.sig.returnType = some .double → meth.locks = false → Wd G A s.heap w0 s.heap [] → lv_has ls n (lv_args 0 av) →
      W p l e { frames := fr, cells := mc, slots := ms, locals := lo } s m av.toArray below meth c s.heap [] 0 0 (XD G A P X mc ms below av.toArray s) (F0 m 0 ls [])) : CXd G y b n fr lo mc ms av w0 P X := by
  intro l sz hst
  refine vx_ofW (cc := b) (maxL := n) (ret := some .double) hp rfl ?_
  intro p e s m args below meth c s₁ B hml htab hv
  obtain ⟨rfl, hK, hz, hsz, hP, hD0⟩ := hv
  have hnm : s.vm.findClass y.cls = some m.cls := findClass_of_methodNamed B.named
  subst hsz
  have hD := hD0.self (sz := s.heap.size)
  have hzz : ∀ q, va_A w0 s.heap.size q → G.2.2.1 ≤ q := fun q h => h.elim (fun ⟨k, e, h1⟩ => hD0.2 k _ h1) (fun h1 => Nat.le_trans hz h1)
  have hAA : ∀ q, s.heap.size ≤ q → va_A w0 s.heap.size q := fun q h => Or.inr h
  have hl := lv_entry av (n := n) hn
  rw [lg_entry_eq]
  exact body p l e s m below meth c _ _ hst htab ⟨g, B.exec, B.bytes, hml, by rw [← hown]; exact hnm, hK, hz, hAA, hzz⟩ B.returns B.notSynchronized ⟨hP, hD, va_S.rf⟩ hl
section FLTD
variable {G : cG} {p : Program} {l : Launch} {e : Env} {R : Room} {s : State} {m : MethodId} {args : Array Value} {below : List Frame} {meth : Method} {c : Code} {H : Heap} {locs : List Loc} {cells slots : Nat} {Q : State → Prop} {cc : ByteArray} {nL : Nat} {own : String} {A : Nat → Prop} {L LC LR : List va_W} {ws : va_W} {pc : Nat} {ls : Array Slot} {rest : List Value} {mc ms : Nat}
theorem edX (F : Fx G p s m c cc nL own A) (w : Wd G A s.heap ws H locs) {P : UInt64 → va_W → Prop} {X : String → va_W → Prop} (hr : meth.sig.returnType = some .double) (hlocks : meth.locks = false) {r : UInt64} (h : P r ws) (hc : cells ≤ mc) (hs : slots ≤ ms) (hdg : decode cc pc = .ok (.dreturn, 1)) : W p l e R s m args below meth c H locs cells slots (XD G A P X mc ms below args s) (F0 m pc ls [.double r]) :=
  vx_ret (W.widen hc hs (W.dret F.x F.b hr (fun t ht hW => ⟨⟨r, ws, rfl, h, by rw [ht]; exact w.1, w.2.1⟩, w.2.2.F ht⟩) w.2.2.2.2 hdg hlocks))
theorem kXd (F : Fx G p s m c cc nL own A) (w : Wd G A s.heap (fl L) H locs) (hst : l.stackTraces = false) {y : MethodName} {b : ByteArray} {n k idx fr lo o ci q0 mc ms : Nat} {As : List Value} {P : UInt64 → va_W → Prop} {X : String → va_W → Prop} {fs : List Value} {qc : vw_C}
    (hc : CXd G y b n fr lo mc ms (.ref o :: As) (fl LC) P X) (Y : YM y b n (some .double) k) (V : YV y) (hl : Cond.methodLink own idx y ∈ lw_tbl)
    (he : (fl L)[q0]? = some (o, .inr (ci, fs))) (hq : vwCl[ci]? = some qc) (hqc : qc.1 = y.cls)
    (nB : Nat) (is : List Nat) (hn : L.length = nB) (hp : pmB nB is = true) (hL : is.map (fun i => L[i]?) = (LC ++ LR).map some)
    (hRm : fr + 1 ≤ R.frames ∧ 8 + (n + 11) + lo ≤ R.locals) (hlen : As.length = k) (hls : ls.size = nL) {st0 : List Value} (hst0 : st0 = As.reverse ++ .ref o :: rest) (hrm : (rest.map fun v => v.category).sum ≤ 8) (hdg : decode cc pc = .ok (.invokevirtual idx, 3)) (hf : cells + mc ≤ R.cells ∧ slots + ms ≤ R.slots)
    (kx : ∀ (E : String) (w1 : va_W) (ce : Cell) (q : Addr) (H1 : Heap) (locs1 : List Loc), X E w1 → Wd G A s.heap (w1 ++ fl LR) H1 locs1 → H1[q]? = some ce → ce.vm = .none → s.vm.findClass E = some ce.cls → vx_W p l e R s m args below meth c H1 locs1 (cells + mc) (slots + ms) Q (F0 m pc ls rest) q)
    (kk : ∀ (r : UInt64) (w1 : va_W) (H1 : Heap) (locs1 : List Loc), P r w1 → Wd G A s.heap (w1 ++ fl LR) H1 locs1 → W p l e R s m args below meth c H1 locs1 (cells + mc) (slots + ms) Q (F0 m (pc + 3) ls (.double r :: rest))) : W p l e R s m args below meth c H locs cells slots Q (F0 m pc ls st0) := by
  subst hst0
  have w' := w.spl nB is hn hp hL
  have hFc := Wd.freeF F w'
  refine vx_calld (vx_runV (As := As) (rest := rest) (nL := nL) (Ts := []) ⟨F.x, F.b, F.ml, F.o, fun _ h => nomatch h⟩ (hc l H.size hst) ⟨Y.B F.t (F.t _ hl rfl _) hRm, F.t _ V.1 rfl _, F.t _ V.2 rfl _⟩ ⟨fun a U g mk q => ⟨q.1, PreB.calling F.1 U g mk a q.2⟩, ?_, fun U hU hW => ⟨rfl, F.preF w' hU hW⟩⟩ rfl hlen hls rfl (lv_room hrm) hdg hf) w.2.2 (fun q _ h => hFc q h) hFc (fun q _ h => hFc q h) (fun E ce q9 u t H1 locs1 ht hvm hu hB hz1 hk1 hS hce hcv hcl => ?_) (fun r' u t H1 locs1 ht hvm hw hB hz1 hk1 hS => ?_)
  · have h := va_recv F.K w.1 hq he
    rw [hqc] at h
    exact h
  · obtain ⟨hX, hP1, hD1⟩ := hB
    rw [ht] at hP1
    exact kx E u ce q9 H1 locs1 hX (Wd.backF F w' hk1 hP1 hD1 hS) hce hcv hcl
  · obtain ⟨hP1, hD1⟩ := hB
    rw [ht] at hP1
    exact kk r' u H1 locs1 hw (Wd.backF F w' hk1 hP1 hD1 hS)
end FLTD
/-- CONTRACT: a float answer, or an exception -/
def CXf (G : cG) (y : MethodName) (b : ByteArray) (n : Nat) (fr lo mc ms : Nat) (av : List Value) (w0 : va_W) (P : UInt32 → va_W → Prop) (X : String → va_W → Prop) : Prop :=
  ∀ (l : Launch) (sz : Nat), l.stackTraces = false → vx_Met l y (wy y b n (some .float)) { frames := fr, cells := mc, slots := ms, locals := lo } (va_Pc av (PreB G sz w0)) (va_Qf P (fun w1 t => PosB G sz w0 w1 t) (va_A w0 sz)) (vx_X (fun _ : va_W => True) (fun E w1 t => X E w1 ∧ PosB G sz w0 w1 t) (va_A w0 sz)) mc ms (va_A w0 sz)
abbrev XF (G : cG) (A : Nat → Prop) (P : UInt32 → va_W → Prop) (X : String → va_W → Prop) (mc ms : Nat) (below : List Frame) (args : Array Value) (s : State) : State → Prop := vx_MQ below (va_Qf P (fun w1 t => va_P G.1 vwCl w1 t.heap ∧ va_D A w1) A) (XQ G A X) args s mc ms A
theorem CXf.of {G : cG} (g : GOK G) {y : MethodName} {b : ByteArray} {n : Nat} {fr lo mc ms : Nat} {av : List Value} {w0 : va_W} {P : UInt32 → va_W → Prop} {X : String → va_W → Prop} {own : String} (hp : plainName y.cls = true) (hown : y.cls = own) (hn : (lg_sl av).length ≤ n)
    (body : ∀ (p : Program) (l : Launch) (e : Env) (s : State) (m : MethodId) (below : List Frame) (meth : Method) (c : Code) (A : Nat → Prop) (ls : Array Slot), l.stackTraces = false → (∀ x ∈ c.exceptionTable.toList, False) → Fx G p s m c b n own A → meth.sig.returnType = some .float → meth.locks = false → Wd G A s.heap w0 s.heap [] → lv_has ls n (lv_args 0 av) →
      W p l e { frames := fr, cells := mc, slots := ms, locals := lo } s m av.toArray below meth c s.heap [] 0 0 (XF G A P X mc ms below av.toArray s) (F0 m 0 ls [])) : CXf G y b n fr lo mc ms av w0 P X := by
  intro l sz hst
  refine vx_ofW (cc := b) (maxL := n) (ret := some .float) hp rfl ?_
  intro p e s m args below meth c s₁ B hml htab hv
  obtain ⟨rfl, hK, hz, hsz, hP, hD0⟩ := hv
  have hnm : s.vm.findClass y.cls = some m.cls := findClass_of_methodNamed B.named
  subst hsz
  have hD := hD0.self (sz := s.heap.size)
  have hzz : ∀ q, va_A w0 s.heap.size q → G.2.2.1 ≤ q := fun q h => h.elim (fun ⟨k, e, h1⟩ => hD0.2 k _ h1) (fun h1 => Nat.le_trans hz h1)
  have hAA : ∀ q, s.heap.size ≤ q → va_A w0 s.heap.size q := fun q h => Or.inr h
  have hl := lv_entry av (n := n) hn
  rw [lg_entry_eq]
  exact body p l e s m below meth c _ _ hst htab ⟨g, B.exec, B.bytes, hml, by rw [← hown]; exact hnm, hK, hz, hAA, hzz⟩ B.returns B.notSynchronized ⟨hP, hD, va_S.rf⟩ hl
section FLTF
variable {G : cG} {p : Program} {l : Launch} {e : Env} {R : Room} {s : State} {m : MethodId} {args : Array Value} {below : List Frame} {meth : Method} {c : Code} {H : Heap} {locs : List Loc} {cells slots : Nat} {Q : State → Prop} {cc : ByteArray} {nL : Nat} {own : String} {A : Nat → Prop} {L LC LR : List va_W} {ws : va_W} {pc : Nat} {ls : Array Slot} {rest : List Value} {mc ms : Nat}
theorem efX (F : Fx G p s m c cc nL own A) (w : Wd G A s.heap ws H locs) {P : UInt32 → va_W → Prop} {X : String → va_W → Prop} (hr : meth.sig.returnType = some .float) (hlocks : meth.locks = false) {r : UInt32} (h : P r ws) (hc : cells ≤ mc) (hs : slots ≤ ms) (hdg : decode cc pc = .ok (.freturn, 1)) : W p l e R s m args below meth c H locs cells slots (XF G A P X mc ms below args s) (F0 m pc ls [.float r]) :=
  vx_ret (W.widen hc hs (W.fret F.x F.b hr (fun t ht hW => ⟨⟨r, ws, rfl, h, by rw [ht]; exact w.1, w.2.1⟩, w.2.2.F ht⟩) w.2.2.2.2 hdg hlocks))
theorem kXf (F : Fx G p s m c cc nL own A) (w : Wd G A s.heap (fl L) H locs) (hst : l.stackTraces = false) {y : MethodName} {b : ByteArray} {n k idx fr lo o ci q0 mc ms : Nat} {As : List Value} {P : UInt32 → va_W → Prop} {X : String → va_W → Prop} {fs : List Value} {qc : vw_C}
    (hc : CXf G y b n fr lo mc ms (.ref o :: As) (fl LC) P X) (Y : YM y b n (some .float) k) (V : YV y) (hl : Cond.methodLink own idx y ∈ lw_tbl)
    (he : (fl L)[q0]? = some (o, .inr (ci, fs))) (hq : vwCl[ci]? = some qc) (hqc : qc.1 = y.cls)
    (nB : Nat) (is : List Nat) (hn : L.length = nB) (hp : pmB nB is = true) (hL : is.map (fun i => L[i]?) = (LC ++ LR).map some)
    (hRm : fr + 1 ≤ R.frames ∧ 8 + (n + 11) + lo ≤ R.locals) (hlen : As.length = k) (hls : ls.size = nL) {st0 : List Value} (hst0 : st0 = As.reverse ++ .ref o :: rest) (hrm : (rest.map fun v => v.category).sum ≤ 8) (hdg : decode cc pc = .ok (.invokevirtual idx, 3)) (hf : cells + mc ≤ R.cells ∧ slots + ms ≤ R.slots)
    (kx : ∀ (E : String) (w1 : va_W) (ce : Cell) (q : Addr) (H1 : Heap) (locs1 : List Loc), X E w1 → Wd G A s.heap (w1 ++ fl LR) H1 locs1 → H1[q]? = some ce → ce.vm = .none → s.vm.findClass E = some ce.cls → vx_W p l e R s m args below meth c H1 locs1 (cells + mc) (slots + ms) Q (F0 m pc ls rest) q)
    (kk : ∀ (r : UInt32) (w1 : va_W) (H1 : Heap) (locs1 : List Loc), P r w1 → Wd G A s.heap (w1 ++ fl LR) H1 locs1 → W p l e R s m args below meth c H1 locs1 (cells + mc) (slots + ms) Q (F0 m (pc + 3) ls (.float r :: rest))) : W p l e R s m args below meth c H locs cells slots Q (F0 m pc ls st0) := by
  subst hst0
  have w' := w.spl nB is hn hp hL
  have hFc := Wd.freeF F w'
  refine vx_callf (vx_runV (As := As) (rest := rest) (nL := nL) (Ts := []) ⟨F.x, F.b, F.ml, F.o, fun _ h => nomatch h⟩ (hc l H.size hst) ⟨Y.B F.t (F.t _ hl rfl _) hRm, F.t _ V.1 rfl _, F.t _ V.2 rfl _⟩ ⟨fun a U g mk q => ⟨q.1, PreB.calling F.1 U g mk a q.2⟩, ?_, fun U hU hW => ⟨rfl, F.preF w' hU hW⟩⟩ rfl hlen hls rfl (lv_room hrm) hdg hf) w.2.2 (fun q _ h => hFc q h) hFc (fun q _ h => hFc q h) (fun E ce q9 u t H1 locs1 ht hvm hu hB hz1 hk1 hS hce hcv hcl => ?_) (fun r' u t H1 locs1 ht hvm hw hB hz1 hk1 hS => ?_)
  · have h := va_recv F.K w.1 hq he
    rw [hqc] at h
    exact h
  · obtain ⟨hX, hP1, hD1⟩ := hB
    rw [ht] at hP1
    exact kx E u ce q9 H1 locs1 hX (Wd.backF F w' hk1 hP1 hD1 hS) hce hcv hcl
  · obtain ⟨hP1, hD1⟩ := hB
    rw [ht] at hP1
    exact kk r' u H1 locs1 hw (Wd.backF F w' hk1 hP1 hD1 hS)
end FLTF
set_option maxRecDepth 100000 in
set_option maxHeartbeats 4000000 in
theorem t_X7_meanValue {G : cG} (g : GOK G) {mo : Nat → Nat} {M : Mem} {c : Nat} {v : Nat → Int32} (hc : M.2 0 1 = nI c) (hc16 : c ≤ 16) (hw : ∀ p, p < c → f_X7_worth (wrI M 0 0) (nI p) = some (v p)) : CXd G yX7_meanValue cX7_meanValue 3 2 60 0 0 [.ref (mo 0)] (fl [wMo G.2.1 mo M]) (fun d w1 => w1 = fl [wMo G.2.1 mo (wrI M 0 (if c = 0 then 1 else 0))] ∧ (c ≠ 0 → d = mnD v c)) (fun _ _ => False) := by
  refine CXd.of g (by decide) rfl (Nat.le_of_ble_eq_true rfl) ?_
  intro p l e s m below meth c9 A ls hst htab F hr hlocks w hl
  generalize ([.ref (mo 0)] : List Value).toArray = args
  have hl : lv_has ls 3 [(0, .ref (mo 0))] := hl
  have w : Wd G A s.heap (fl [wMo G.2.1 mo M]) _ _ := w
  refine lv_aload_n F.x F.b dX7_meanValue_0 rfl (lv_at hl 0 rfl) ?_
  refine lv_aload_n F.x F.b dX7_meanValue_1 rfl (lv_at hl 0 rfl) ?_
  refine rg F w cl7 0 rfl 1 (by decide) q1548 rfl (v := .ref (mo 1)) rfl dX7_meanValue_2 ?_
  refine lv_iconst (v := 1) F.x F.b dX7_meanValue_5 (by decide) ?_
  refine ri F w 1 (n := 148) (f := M.2 0) rfl (by decide) dX7_meanValue_6 ?_
  rw [show (M.2 0 (Int32.toNatClampNeg 1)) = nI c from hc]
  by_cases h0 : c = 0
  · refine lv_if_ne (tgt := 14) F.x F.b dX7_meanValue_7 (by decide) (fun c9 => absurd (by rw [h0]; decide) c9) (fun _ => ?_)
    refine lv_iconst (v := 1) F.x F.b dX7_meanValue_10 (by decide) ?_
    refine lv_goto (tgt := 15) F.x F.b dX7_meanValue_11 (by decide) ?_
    refine rp F w (ws' := fl [wMo G.2.1 mo (wrI M 0 1)]) cl7 0 rfl 0 (by decide) q1547 rfl rfl rfl rfl (Nat.le_of_ble_eq_true rfl) rfl dX7_meanValue_15 (fun H locs w => ?_)
    refine lv_aload_n F.x F.b dX7_meanValue_18 rfl (lv_at hl 0 rfl) ?_
    refine rg F w cl7 0 rfl 0 (by decide) q1547 rfl (v := .int 1) rfl dX7_meanValue_19 ?_
    have w : Wd G A s.heap (fl [wMo G.2.1 mo (wrI M 0 1)]) _ _ := w
    refine lv_if_le (tgt := 27) F.x F.b dX7_meanValue_22 (by decide) (fun c9 => absurd c9 (by decide)) (fun _ => ?_)
    refine lv_dconst0 F.x F.b dX7_meanValue_25 ?_
    exact edX F w hr hlocks ⟨by rw [if_pos h0], fun z => absurd h0 z⟩ (Nat.le_of_ble_eq_true rfl) (Nat.le_of_ble_eq_true rfl) dX7_meanValue_26
  · have Lp : ∀ (d i : Nat), i + d = c → ∀ (H : Heap) (locs : List Loc) (ls : Array Slot), Wd G A s.heap (fl [wMo G.2.1 mo (wrI M 0 0)]) H locs → lv_has ls 3 [(2, .int (nI i)), (1, .int (sI v i)), (0, .ref (mo 0))] → W p l e { frames := 2, cells := 0, slots := 0, locals := 60 } s m args below meth c9 H locs 0 0 (XD G A (fun d w1 => w1 = fl [wMo G.2.1 mo (wrI M 0 (if c = 0 then 1 else 0))] ∧ (c ≠ 0 → d = mnD v c)) (fun _ _ => False) 0 0 below args s) (F0 m 31 ls []) := by
      intro d
      induction d with
      | zero =>
        intro i hi H locs ls w hl
        obtain rfl : c = i := by omega
        refine lv_iload_n F.x F.b dX7_meanValue_31 rfl (lv_at hl 0 rfl) ?_
        refine lv_aload_n F.x F.b dX7_meanValue_32 rfl (lv_at hl 2 rfl) ?_
        refine rg F w cl7 0 rfl 1 (by decide) q1548 rfl (v := .ref (mo 1)) rfl dX7_meanValue_33 ?_
        refine lv_iconst (v := 1) F.x F.b dX7_meanValue_36 (by decide) ?_
        refine ri F w 1 (n := 148) (f := (wrI M 0 0).2 0) rfl (by decide) dX7_meanValue_37 ?_
        rw [wrI_2, show (M.2 0 (Int32.toNatClampNeg 1)) = nI c from hc]
        refine lv_icmp_ge (tgt := 55) F.x F.b dX7_meanValue_38 (by decide) (fun _ => ?_) (fun c9 => absurd (Int32.le_refl (nI c)) c9)
        refine lv_iload_n F.x F.b dX7_meanValue_55 rfl (lv_at hl 1 rfl) ?_
        refine lv_i2d F.x F.b dX7_meanValue_56 ?_
        refine lv_aload_n F.x F.b dX7_meanValue_57 rfl (lv_at hl 2 rfl) ?_
        refine rg F w cl7 0 rfl 1 (by decide) q1548 rfl (v := .ref (mo 1)) rfl dX7_meanValue_58 ?_
        refine lv_iconst (v := 1) F.x F.b dX7_meanValue_61 (by decide) ?_
        refine ri F w 1 (n := 148) (f := (wrI M 0 0).2 0) rfl (by decide) dX7_meanValue_62 ?_
        refine lv_i2d F.x F.b dX7_meanValue_63 ?_
        rw [wrI_2, show M.2 0 (Int32.toNatClampNeg 1) = nI c from hc]
        refine lv_ddiv F.x F.b dX7_meanValue_64 (n64_of (dd_ok _ _ (fun z => h0 ((nI_eq (a := c) (b := 0) (by omega) (by omega)).mp z)))) ?_
        exact edX F w hr hlocks ⟨by rw [if_neg h0], fun _ => rfl⟩ (Nat.le_of_ble_eq_true rfl) (Nat.le_of_ble_eq_true rfl) dX7_meanValue_65
      | succ d ih =>
        intro i hi H locs ls w hl
        refine lv_iload_n F.x F.b dX7_meanValue_31 rfl (lv_at hl 0 rfl) ?_
        refine lv_aload_n F.x F.b dX7_meanValue_32 rfl (lv_at hl 2 rfl) ?_
        refine rg F w cl7 0 rfl 1 (by decide) q1548 rfl (v := .ref (mo 1)) rfl dX7_meanValue_33 ?_
        refine lv_iconst (v := 1) F.x F.b dX7_meanValue_36 (by decide) ?_
        refine ri F w 1 (n := 148) (f := (wrI M 0 0).2 0) rfl (by decide) dX7_meanValue_37 ?_
        rw [wrI_2, show (M.2 0 (Int32.toNatClampNeg 1)) = nI c from hc]
        refine lv_icmp_ge (tgt := 55) F.x F.b dX7_meanValue_38 (by decide) (fun c9 => absurd c9 (nI_ge (a := i) (b := c) (by omega) (by omega))) (fun _ => ?_)
        refine lv_iload_n F.x F.b dX7_meanValue_41 rfl (lv_at hl 1 rfl) ?_
        refine lv_aload_n F.x F.b dX7_meanValue_42 rfl (lv_at hl 2 rfl) ?_
        refine lv_iload_n F.x F.b dX7_meanValue_43 rfl (lv_at hl 0 rfl) ?_
        refine kXi F w hst (LC := [wMo G.2.1 mo (wrI M 0 0)]) (LR := []) (As := [.int (nI i)]) (rest := [.int (sI v i)]) (t_X7_worth F.1 (hw i (by omega))).toX m_X7_worth v_X7_worth q1763 (ci := 11) (q0 := 0) rfl rfl rfl 1 [0] rfl rfl rfl ⟨Nat.le_of_ble_eq_true rfl, Nat.le_of_ble_eq_true rfl⟩ rfl hl.1 rfl (Nat.le_of_ble_eq_true rfl) dX7_meanValue_44 ⟨Nat.le_of_ble_eq_true rfl, Nat.le_of_ble_eq_true rfl⟩ (fun _ _ _ _ _ _ hx => False.elim hx) (fun r9 w1 H locs h9 w => ?_)
        obtain ⟨rfl, h9⟩ := h9
        have w := w.jn (L1 := [wMo G.2.1 mo (wrI M 0 0)]) (L' := [wMo G.2.1 mo (wrI M 0 0)]) h9 1 [0] rfl rfl rfl
        have w : Wd G A s.heap (fl [wMo G.2.1 mo (wrI M 0 0)]) _ _ := w
        refine lv_iadd F.x F.b dX7_meanValue_47 ?_
        refine lv_istore_n (lv' := [(1, .int ((sI v i) + (v i))), (2, .int (nI i)), (0, .ref (mo 0))]) F.x F.b dX7_meanValue_48 rfl hl (by decide) rfl (fun ls hl => ?_)
        refine lv_iinc (v := (nI (i + 1))) (lv' := [(2, .int (nI (i + 1))), (1, .int ((sI v i) + (v i))), (0, .ref (mo 0))]) F.x F.b dX7_meanValue_49 hl (k := 1) rfl (nI_1 i) (by decide) rfl (fun ls hl => ?_)
        refine lv_goto (tgt := 31) F.x F.b dX7_meanValue_52 (by decide) ?_
        exact ih (i + 1) (by omega) H locs ls w hl
    refine lv_if_ne (tgt := 14) F.x F.b dX7_meanValue_7 (by decide) (fun _ => ?_) (fun c9 => absurd c9 (fun z => h0 ((nI_eq (a := c) (b := 0) (by omega) (by omega)).mp z)))
    refine lv_iconst (v := 0) F.x F.b dX7_meanValue_14 (by decide) ?_
    refine rp F w (ws' := fl [wMo G.2.1 mo (wrI M 0 0)]) cl7 0 rfl 0 (by decide) q1547 rfl rfl rfl rfl (Nat.le_of_ble_eq_true rfl) rfl dX7_meanValue_15 (fun H locs w => ?_)
    refine lv_aload_n F.x F.b dX7_meanValue_18 rfl (lv_at hl 0 rfl) ?_
    refine rg F w cl7 0 rfl 0 (by decide) q1547 rfl (v := .int 0) rfl dX7_meanValue_19 ?_
    have w : Wd G A s.heap (fl [wMo G.2.1 mo (wrI M 0 0)]) _ _ := w
    refine lv_if_le (tgt := 27) F.x F.b dX7_meanValue_22 (by decide) (fun _ => ?_) (fun c9 => absurd (by decide) c9)
    refine lv_iconst (v := 0) F.x F.b dX7_meanValue_27 (by decide) ?_
    refine lv_istore_n (lv' := [(1, .int 0), (0, .ref (mo 0))]) F.x F.b dX7_meanValue_28 rfl hl (by decide) rfl (fun ls hl => ?_)
    refine lv_iconst (v := 0) F.x F.b dX7_meanValue_29 (by decide) ?_
    refine lv_istore_n (lv' := [(2, .int 0), (1, .int 0), (0, .ref (mo 0))]) F.x F.b dX7_meanValue_30 rfl hl (by decide) rfl (fun ls hl => ?_)
    exact Lp c 0 (by omega) _ _ _ w hl
set_option maxRecDepth 100000 in
set_option maxHeartbeats 4000000 in
theorem t_X7_sealedFraction {G : cG} (g : GOK G) {mo : Nat → Nat} {M : Mem} {c : Nat} {v : Nat → Int32} (hc : M.2 0 1 = nI c) (hc16 : c ≤ 16) (hw : f_X7_many (wrI M 0 0) (nI 5) = some (sI v c)) : CXf G yX7_sealedFraction cX7_sealedFraction 1 2 60 0 0 [.ref (mo 0)] (fl [wMo G.2.1 mo M]) (fun d w1 => w1 = fl [wMo G.2.1 mo (wrI M 0 (if c = 0 then 1 else 0))] ∧ (c ≠ 0 → d = frF v c)) (fun _ _ => False) := by
  refine CXf.of g (by decide) rfl (Nat.le_of_ble_eq_true rfl) ?_
  intro p l e s m below meth c9 A ls hst htab F hr hlocks w hl
  generalize ([.ref (mo 0)] : List Value).toArray = args
  have hl : lv_has ls 1 [(0, .ref (mo 0))] := hl
  have w : Wd G A s.heap (fl [wMo G.2.1 mo M]) _ _ := w
  refine lv_aload_n F.x F.b dX7_sealedFraction_0 rfl (lv_at hl 0 rfl) ?_
  refine lv_aload_n F.x F.b dX7_sealedFraction_1 rfl (lv_at hl 0 rfl) ?_
  refine rg F w cl7 0 rfl 1 (by decide) q1548 rfl (v := .ref (mo 1)) rfl dX7_sealedFraction_2 ?_
  refine lv_iconst (v := 1) F.x F.b dX7_sealedFraction_5 (by decide) ?_
  refine ri F w 1 (n := 148) (f := M.2 0) rfl (by decide) dX7_sealedFraction_6 ?_
  rw [show (M.2 0 (Int32.toNatClampNeg 1)) = nI c from hc]
  by_cases h0 : c = 0
  · refine lv_if_ne (tgt := 14) F.x F.b dX7_sealedFraction_7 (by decide) (fun c9 => absurd (by rw [h0]; decide) c9) (fun _ => ?_)
    refine lv_iconst (v := 1) F.x F.b dX7_sealedFraction_10 (by decide) ?_
    refine lv_goto (tgt := 15) F.x F.b dX7_sealedFraction_11 (by decide) ?_
    refine rp F w (ws' := fl [wMo G.2.1 mo (wrI M 0 1)]) cl7 0 rfl 0 (by decide) q1547 rfl rfl rfl rfl (Nat.le_of_ble_eq_true rfl) rfl dX7_sealedFraction_15 (fun H locs w => ?_)
    refine lv_aload_n F.x F.b dX7_sealedFraction_18 rfl (lv_at hl 0 rfl) ?_
    refine rg F w cl7 0 rfl 0 (by decide) q1547 rfl (v := .int 1) rfl dX7_sealedFraction_19 ?_
    have w : Wd G A s.heap (fl [wMo G.2.1 mo (wrI M 0 1)]) _ _ := w
    refine lv_if_le (tgt := 29) F.x F.b dX7_sealedFraction_22 (by decide) (fun c9 => absurd c9 (by decide)) (fun _ => ?_)
    refine lv_fconst0 F.x F.b dX7_sealedFraction_25 ?_
    refine lv_goto (tgt := 43) F.x F.b dX7_sealedFraction_26 (by decide) ?_
    exact efX F w hr hlocks ⟨by rw [if_pos h0], fun z => absurd h0 z⟩ (Nat.le_of_ble_eq_true rfl) (Nat.le_of_ble_eq_true rfl) dX7_sealedFraction_43
  · refine lv_if_ne (tgt := 14) F.x F.b dX7_sealedFraction_7 (by decide) (fun _ => ?_) (fun c9 => absurd c9 (fun z => h0 ((nI_eq (a := c) (b := 0) (by omega) (by omega)).mp z)))
    refine lv_iconst (v := 0) F.x F.b dX7_sealedFraction_14 (by decide) ?_
    refine rp F w (ws' := fl [wMo G.2.1 mo (wrI M 0 0)]) cl7 0 rfl 0 (by decide) q1547 rfl rfl rfl rfl (Nat.le_of_ble_eq_true rfl) rfl dX7_sealedFraction_15 (fun H locs w => ?_)
    refine lv_aload_n F.x F.b dX7_sealedFraction_18 rfl (lv_at hl 0 rfl) ?_
    refine rg F w cl7 0 rfl 0 (by decide) q1547 rfl (v := .int 0) rfl dX7_sealedFraction_19 ?_
    have w : Wd G A s.heap (fl [wMo G.2.1 mo (wrI M 0 0)]) _ _ := w
    refine lv_if_le (tgt := 29) F.x F.b dX7_sealedFraction_22 (by decide) (fun _ => ?_) (fun c9 => absurd (by decide) c9)
    refine lv_aload_n F.x F.b dX7_sealedFraction_29 rfl (lv_at hl 0 rfl) ?_
    refine lv_iconst (v := 5) F.x F.b dX7_sealedFraction_30 (by decide) ?_
    refine kXi F w hst (LC := [wMo G.2.1 mo (wrI M 0 0)]) (LR := []) (As := [.int 5]) (rest := []) (t_X7_many F.1 hw).toX m_X7_many v_X7_many q1679 (ci := 11) (q0 := 0) rfl rfl rfl 1 [0] rfl rfl rfl ⟨Nat.le_of_ble_eq_true rfl, Nat.le_of_ble_eq_true rfl⟩ rfl hl.1 rfl (Nat.le_of_ble_eq_true rfl) dX7_sealedFraction_31 ⟨Nat.le_of_ble_eq_true rfl, Nat.le_of_ble_eq_true rfl⟩ (fun _ _ _ _ _ _ hx => False.elim hx) (fun r9 w1 H locs h9 w => ?_)
    obtain ⟨rfl, h9⟩ := h9
    have w := w.jn (L1 := [wMo G.2.1 mo (wrI M 0 0)]) (L' := [wMo G.2.1 mo (wrI M 0 0)]) h9 1 [0] rfl rfl rfl
    have w : Wd G A s.heap (fl [wMo G.2.1 mo (wrI M 0 0)]) _ _ := w
    refine lv_i2f F.x F.b dX7_sealedFraction_34 ?_
    refine lv_aload_n F.x F.b dX7_sealedFraction_35 rfl (lv_at hl 0 rfl) ?_
    refine rg F w cl7 0 rfl 1 (by decide) q1548 rfl (v := .ref (mo 1)) rfl dX7_sealedFraction_36 ?_
    refine lv_iconst (v := 1) F.x F.b dX7_sealedFraction_39 (by decide) ?_
    refine ri F w 1 (n := 148) (f := (wrI M 0 0).2 0) rfl (by decide) dX7_sealedFraction_40 ?_
    refine lv_i2f F.x F.b dX7_sealedFraction_41 ?_
    rw [wrI_2, show M.2 0 (Int32.toNatClampNeg 1) = nI c from hc]
    refine lv_fdiv F.x F.b dX7_sealedFraction_42 (n32_of (ff_ok _ _ (fun z => h0 ((nI_eq (a := c) (b := 0) (by omega) (by omega)).mp z)))) ?_
    exact efX F w hr hlocks ⟨by rw [if_neg h0], fun _ => rfl⟩ (Nat.le_of_ble_eq_true rfl) (Nat.le_of_ble_eq_true rfl) dX7_sealedFraction_43
set_option maxRecDepth 100000 in
set_option maxHeartbeats 4000000 in
theorem k_meanValue {G : cG} (g : GOK G) (gM : MG G) {ad : Nat → Nat → Nat} {K S Fc C D B : Mem} {cu ct : Nat} {hs : hS} {sv : sV} {ou : oB} {c : Nat} {v : Nat → Int32} (hc : S.1 0 = nI c) (hc16 : c ≤ 16) (hsum : f_X3_sumOfValues S = some (sI v c)) : CXd G yX6_meanValue cX6_meanValue 2 40 1500 20 200 [.ref ((ad 0) 0)] (fl (wTop G.2.1 ad K S Fc C D B cu ct hs sv ou)) (fun d w1 => c ≠ 0 ∧ w1 = (fl (wTop G.2.1 ad K S Fc C D B cu ct hs sv ou)) ∧ d = mnD v c) (fun E w1 => E = eARE ∧ c = 0 ∧ w1 = (fl (wTop G.2.1 ad K S Fc C D B cu ct hs sv ou))) := by
  refine CXd.of g (by decide) rfl (Nat.le_of_ble_eq_true rfl) ?_
  intro p l e s m below meth c9 A ls hst htab F hr hlocks w hl
  generalize ([.ref ((ad 0) 0)] : List Value).toArray = args
  have hl : lv_has ls 2 [(0, .ref ((ad 0) 0))] := hl
  have w : Wd G A s.heap (fl [wXo G.2.1 (ad 0) (xF ad) (svV sv) K, wSh G.2.1 (ad 1) S, wSh G.2.1 (ad 2) Fc, wTe G.2.1 (ad 4) C, wSb G.2.1 (ad 5) ou, wAd G.2.1 (ad 6) D, wAb G.2.1 (ad 7) B, wHo G.2.1 (ad 3) cu ct hs, hsL G.2.1 hs, blk G.2.1 sv]) _ _ := w
  refine lv_aload_n F.x F.b dX6_meanValue_0 rfl (lv_at hl 0 rfl) ?_
  refine rg F w cl6 0 rfl 0 (by decide) q301 rfl (v := .ref ((ad 1) 0)) rfl dX6_meanValue_1 ?_
  refine rgN F w cl4 1 rfl 0 (by decide) q188 rfl (v := .ref ((ad 1) 1)) rfl dX6_meanValue_4 ?_
  refine rgN F w cl3 2 rfl 7 (by decide) q127 rfl (v := .int (S.1 0)) rfl dX6_meanValue_7 ?_
  refine lv_istore_n (lv' := [(1, .int (S.1 0)), (0, .ref ((ad 0) 0))]) F.x F.b dX6_meanValue_10 rfl hl (by decide) rfl (fun ls hl => ?_)
  refine lv_iload_n F.x F.b dX6_meanValue_11 rfl (lv_at hl 0 rfl) ?_
  rw [show (S.1 0) = nI c from hc]
  by_cases h0 : c = 0
  · refine lv_if_ne (tgt := 25) F.x F.b dX6_meanValue_12 (by decide) (fun c9 => absurd (show nI c = 0 by rw [h0]; rfl) c9) (fun _ => ?_)
    exact wTS F w gM hst htab hlocks hS_ARE (is := 253) (by decide +kernel : (253, "no lots") ∈ msgs) (⟨rfl, h0, rfl⟩) hl.1 dX6_meanValue_15 dX6_meanValue_18 dX6_meanValue_19 dX6_meanValue_21 dX6_meanValue_24 ⟨Nat.le_of_ble_eq_true rfl, Nat.le_of_ble_eq_true rfl, Nat.le_of_ble_eq_true rfl, Nat.le_of_ble_eq_true rfl⟩ ⟨Nat.le_of_ble_eq_true rfl, Nat.le_of_ble_eq_true rfl⟩
  · refine lv_if_ne (tgt := 25) F.x F.b dX6_meanValue_12 (by decide) (fun _ => ?_) (fun c9 => absurd c9 (fun z => h0 ((nI_eq (a := c) (b := 0) (by omega) (by omega)).mp z)))
    refine lv_aload_n F.x F.b dX6_meanValue_25 rfl (lv_at hl 1 rfl) ?_
    refine rg F w cl6 0 rfl 0 (by decide) q301 rfl (v := .ref ((ad 1) 0)) rfl dX6_meanValue_26 ?_
    refine rgN F w cl4 1 rfl 0 (by decide) q188 rfl (v := .ref ((ad 1) 1)) rfl dX6_meanValue_29 ?_
    refine kXi F w hst (LC := [wSh G.2.1 (ad 1) S]) (LR := [wXo G.2.1 (ad 0) (xF ad) (svV sv) K, wSh G.2.1 (ad 2) Fc, wTe G.2.1 (ad 4) C, wSb G.2.1 (ad 5) ou, wAd G.2.1 (ad 6) D, wAb G.2.1 (ad 7) B, wHo G.2.1 (ad 3) cu ct hs, hsL G.2.1 hs, blk G.2.1 sv]) (As := []) (rest := []) (t_X3_sumOfValues F.1 hsum).toX m_X3_sumOfValues v_X3_sumOfValues q1341 (ci := 7) (q0 := 2) rfl rfl rfl 10 [1, 0, 2, 3, 4, 5, 6, 7, 8, 9] rfl rfl rfl ⟨Nat.le_of_ble_eq_true rfl, Nat.le_of_ble_eq_true rfl⟩ rfl hl.1 rfl (Nat.le_of_ble_eq_true rfl) dX6_meanValue_32 ⟨Nat.le_of_ble_eq_true rfl, Nat.le_of_ble_eq_true rfl⟩ (fun _ _ _ _ _ _ hx => False.elim hx) (fun r9 w1 H locs h9 w => ?_)
    obtain ⟨rfl, h9⟩ := h9
    have w := w.jn (L1 := [wSh G.2.1 (ad 1) S]) (L' := [wXo G.2.1 (ad 0) (xF ad) (svV sv) K, wSh G.2.1 (ad 1) S, wSh G.2.1 (ad 2) Fc, wTe G.2.1 (ad 4) C, wSb G.2.1 (ad 5) ou, wAd G.2.1 (ad 6) D, wAb G.2.1 (ad 7) B, wHo G.2.1 (ad 3) cu ct hs, hsL G.2.1 hs, blk G.2.1 sv]) h9 10 [1, 0, 2, 3, 4, 5, 6, 7, 8, 9] rfl rfl rfl
    refine lv_i2d F.x F.b dX6_meanValue_35 ?_
    refine lv_iload_n F.x F.b dX6_meanValue_36 rfl (lv_at hl 0 rfl) ?_
    refine lv_i2d F.x F.b dX6_meanValue_37 ?_
    rw [show (S.1 0 : Int32) = nI c from hc]
    refine lv_ddiv F.x F.b dX6_meanValue_38 (n64_of (dd_ok _ _ (fun z => h0 ((nI_eq (a := c) (b := 0) (by omega) (by omega)).mp z)))) ?_
    exact edX F w hr hlocks ⟨h0, rfl, rfl⟩ (Nat.le_of_ble_eq_true rfl) (Nat.le_of_ble_eq_true rfl) dX6_meanValue_39
set_option maxRecDepth 100000 in
set_option maxHeartbeats 4000000 in
theorem k_sealedFraction {G : cG} (g : GOK G) (gM : MG G) {ad : Nat → Nat → Nat} {K S Fc C D B : Mem} {cu ct : Nat} {hs : hS} {sv : sV} {ou : oB} {c : Nat} {v : Nat → Int32} (hc : S.1 0 = nI c) (hc16 : c ≤ 16) (hsum : f_X3_countSealed S = some (sI v c)) : CXf G yX6_sealedFraction cX6_sealedFraction 2 40 1500 20 200 [.ref ((ad 0) 0)] (fl (wTop G.2.1 ad K S Fc C D B cu ct hs sv ou)) (fun d w1 => c ≠ 0 ∧ w1 = (fl (wTop G.2.1 ad K S Fc C D B cu ct hs sv ou)) ∧ d = frF v c) (fun E w1 => E = eARE ∧ c = 0 ∧ w1 = (fl (wTop G.2.1 ad K S Fc C D B cu ct hs sv ou))) := by
  refine CXf.of g (by decide) rfl (Nat.le_of_ble_eq_true rfl) ?_
  intro p l e s m below meth c9 A ls hst htab F hr hlocks w hl
  generalize ([.ref ((ad 0) 0)] : List Value).toArray = args
  have hl : lv_has ls 2 [(0, .ref ((ad 0) 0))] := hl
  have w : Wd G A s.heap (fl [wXo G.2.1 (ad 0) (xF ad) (svV sv) K, wSh G.2.1 (ad 1) S, wSh G.2.1 (ad 2) Fc, wTe G.2.1 (ad 4) C, wSb G.2.1 (ad 5) ou, wAd G.2.1 (ad 6) D, wAb G.2.1 (ad 7) B, wHo G.2.1 (ad 3) cu ct hs, hsL G.2.1 hs, blk G.2.1 sv]) _ _ := w
  refine lv_aload_n F.x F.b dX6_sealedFraction_0 rfl (lv_at hl 0 rfl) ?_
  refine rg F w cl6 0 rfl 0 (by decide) q301 rfl (v := .ref ((ad 1) 0)) rfl dX6_sealedFraction_1 ?_
  refine rgN F w cl4 1 rfl 0 (by decide) q188 rfl (v := .ref ((ad 1) 1)) rfl dX6_sealedFraction_4 ?_
  refine rgN F w cl3 2 rfl 7 (by decide) q127 rfl (v := .int (S.1 0)) rfl dX6_sealedFraction_7 ?_
  refine lv_istore_n (lv' := [(1, .int (S.1 0)), (0, .ref ((ad 0) 0))]) F.x F.b dX6_sealedFraction_10 rfl hl (by decide) rfl (fun ls hl => ?_)
  refine lv_iload_n F.x F.b dX6_sealedFraction_11 rfl (lv_at hl 0 rfl) ?_
  rw [show (S.1 0) = nI c from hc]
  by_cases h0 : c = 0
  · refine lv_if_ne (tgt := 25) F.x F.b dX6_sealedFraction_12 (by decide) (fun c9 => absurd (show nI c = 0 by rw [h0]; rfl) c9) (fun _ => ?_)
    exact wTS F w gM hst htab hlocks hS_ARE (is := 253) (by decide +kernel : (253, "no lots") ∈ msgs) (⟨rfl, h0, rfl⟩) hl.1 dX6_sealedFraction_15 dX6_sealedFraction_18 dX6_sealedFraction_19 dX6_sealedFraction_21 dX6_sealedFraction_24 ⟨Nat.le_of_ble_eq_true rfl, Nat.le_of_ble_eq_true rfl, Nat.le_of_ble_eq_true rfl, Nat.le_of_ble_eq_true rfl⟩ ⟨Nat.le_of_ble_eq_true rfl, Nat.le_of_ble_eq_true rfl⟩
  · refine lv_if_ne (tgt := 25) F.x F.b dX6_sealedFraction_12 (by decide) (fun _ => ?_) (fun c9 => absurd c9 (fun z => h0 ((nI_eq (a := c) (b := 0) (by omega) (by omega)).mp z)))
    refine lv_aload_n F.x F.b dX6_sealedFraction_25 rfl (lv_at hl 1 rfl) ?_
    refine rg F w cl6 0 rfl 0 (by decide) q301 rfl (v := .ref ((ad 1) 0)) rfl dX6_sealedFraction_26 ?_
    refine rgN F w cl4 1 rfl 0 (by decide) q188 rfl (v := .ref ((ad 1) 1)) rfl dX6_sealedFraction_29 ?_
    refine kXi F w hst (LC := [wSh G.2.1 (ad 1) S]) (LR := [wXo G.2.1 (ad 0) (xF ad) (svV sv) K, wSh G.2.1 (ad 2) Fc, wTe G.2.1 (ad 4) C, wSb G.2.1 (ad 5) ou, wAd G.2.1 (ad 6) D, wAb G.2.1 (ad 7) B, wHo G.2.1 (ad 3) cu ct hs, hsL G.2.1 hs, blk G.2.1 sv]) (As := []) (rest := []) (t_X3_countSealed F.1 hsum).toX m_X3_countSealed v_X3_countSealed q1352 (ci := 7) (q0 := 2) rfl rfl rfl 10 [1, 0, 2, 3, 4, 5, 6, 7, 8, 9] rfl rfl rfl ⟨Nat.le_of_ble_eq_true rfl, Nat.le_of_ble_eq_true rfl⟩ rfl hl.1 rfl (Nat.le_of_ble_eq_true rfl) dX6_sealedFraction_32 ⟨Nat.le_of_ble_eq_true rfl, Nat.le_of_ble_eq_true rfl⟩ (fun _ _ _ _ _ _ hx => False.elim hx) (fun r9 w1 H locs h9 w => ?_)
    obtain ⟨rfl, h9⟩ := h9
    have w := w.jn (L1 := [wSh G.2.1 (ad 1) S]) (L' := [wXo G.2.1 (ad 0) (xF ad) (svV sv) K, wSh G.2.1 (ad 1) S, wSh G.2.1 (ad 2) Fc, wTe G.2.1 (ad 4) C, wSb G.2.1 (ad 5) ou, wAd G.2.1 (ad 6) D, wAb G.2.1 (ad 7) B, wHo G.2.1 (ad 3) cu ct hs, hsL G.2.1 hs, blk G.2.1 sv]) h9 10 [1, 0, 2, 3, 4, 5, 6, 7, 8, 9] rfl rfl rfl
    refine lv_i2f F.x F.b dX6_sealedFraction_35 ?_
    refine lv_iload_n F.x F.b dX6_sealedFraction_36 rfl (lv_at hl 0 rfl) ?_
    refine lv_i2f F.x F.b dX6_sealedFraction_37 ?_
    rw [show (S.1 0 : Int32) = nI c from hc]
    refine lv_fdiv F.x F.b dX6_sealedFraction_38 (n32_of (ff_ok _ _ (fun z => h0 ((nI_eq (a := c) (b := 0) (by omega) (by omega)).mp z)))) ?_
    exact efX F w hr hlocks ⟨h0, rfl, rfl⟩ (Nat.le_of_ble_eq_true rfl) (Nat.le_of_ble_eq_true rfl) dX6_sealedFraction_39

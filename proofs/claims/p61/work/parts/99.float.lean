/-! printed by wip/p61/tools/gen99.py: meanValue, sealedFraction, exact -/
theorem q1447 : Cond.methodLink RX6 256 yX3_sumOfValues ∈ lw_tbl := List.mem_of_getElem? (i := 1447) (by decide +kernel)
theorem q1459 : Cond.methodLink RX6 259 yX3_countSealed ∈ lw_tbl := List.mem_of_getElem? (i := 1459) (by decide +kernel)
theorem m_X3_sumOfValues : YM yX3_sumOfValues cX3_sumOfValues 3 (some (.int)) 0 := ⟨⟨List.mem_of_getElem? (i := 1450) (by decide +kernel), by decide +kernel⟩, List.mem_of_getElem? (i := 17) (by decide +kernel), ⟨by decide, by decide⟩, by decide +kernel⟩
theorem v_X3_sumOfValues : YV yX3_sumOfValues := ⟨(List.mem_of_getElem? (i := 1448) (by decide +kernel)), List.mem_of_getElem? (i := 1449) (by decide +kernel)⟩
theorem n64_of {r : UInt64} (h : FP.Core.dIsNaN r = false) : vf_n64 r := by
  unfold vf_n64
  have h1 : ¬ 9218868437227405312 < r.toNat % 2 ^ 63 := fun z => by rw [(FP.Core.isNaN_bits r).mpr z] at h; cases h
  rw [UInt64.le_iff_toNat_le, UInt64.toNat_and, show (0x7fffffffffffffff : UInt64).toNat = 2 ^ 63 - 1 by decide, Nat.and_two_pow_sub_one_eq_mod]
  exact Nat.not_lt.mp h1
theorem n32_of {r : UInt32} (h : FP.Core.fIsNaN r = false) : vf_n32 r := by
  unfold vf_n32
  have h1 : ¬ 2139095040 < r.toNat % 2 ^ 31 := fun z => by rw [(FP.Core.isNaN_bits32 r).mpr z] at h; cases h
  rw [UInt32.le_iff_toNat_le, UInt32.toNat_and, show (0x7fffffff : UInt32).toNat = 2 ^ 31 - 1 by decide, Nat.and_two_pow_sub_one_eq_mod]
  exact Nat.not_lt.mp h1
theorem dd_ok (a b : Int32) (hb : ¬ b = 0) : FP.Core.dIsNaN (FP.ddiv (FP.i2d a) (FP.i2d b)) = false := FP.Core.ddiv_out (FP.Core.i2d_fin a).notNaN (FP.Core.i2d_fin b) (fun z => FP.Core.i2d_ne_zero hb ((FP.Core.zero_bits2 _).mp z))
theorem ff_ok (a b : Int32) (hb : ¬ b = 0) : FP.Core.fIsNaN (FP.fdiv (FP.i2f a) (FP.i2f b)) = false := FP.Core.fdiv_out (FP.Core.i2f_fin a).notNaN (FP.Core.i2f_fin b) (fun z => FP.Core.i2f_ne_zero hb ((FP.Core.zero_bits232 _).mp z))
/-- the mean, the part -/
def mnD (v : Nat → Int32) (c : Nat) : UInt64 := FP.ddiv (FP.i2d (sI v c)) (FP.i2d (nI c))
def frF (v : Nat → Int32) (c : Nat) : UInt32 := FP.fdiv (FP.i2f (sI v c)) (FP.i2f (nI c))
/-- CONTRACT: a double answer, or an exception -/
def CXd (G : cG) (y : MethodName) (b : ByteArray) (n : Nat) (fr lo mc ms : Nat) (av : List Value) (w0 : va_W) (P : UInt64 → va_W → Prop) (X : String → va_W → Prop) : Prop :=
  ∀ (l : Launch) (sz : Nat), l.stackTraces = false → vx_Met l y (wy y b n (some .double)) { frames := fr, cells := mc, slots := ms, locals := lo } (va_Pc av (PreB G sz w0)) (va_Qd P (fun w1 t => PosB G sz w0 w1 t) (va_A w0 sz)) (vx_X (fun _ : va_W => True) (fun E w1 t => X E w1 ∧ PosB G sz w0 w1 t) (va_A w0 sz)) mc ms (va_A w0 sz)
abbrev XD (G : cG) (A : Nat → Prop) (P : UInt64 → va_W → Prop) (X : String → va_W → Prop) (mc ms : Nat) (below : List Frame) (args : Array Value) (s : State) : State → Prop := vx_MQ below (va_Qd P (fun w1 t => va_P G.1 vwCl w1 t.heap ∧ va_D A w1) A) (XQ G A X) args s mc ms A
theorem CXd.of {G : cG} (g : GOK G) {y : MethodName} {b : ByteArray} {n : Nat} {fr lo mc ms : Nat} {av : List Value} {w0 : va_W} {P : UInt64 → va_W → Prop} {X : String → va_W → Prop} {own : String} (hp : plainName y.cls = true) (hown : y.cls = own) (hn : (lg_sl av).length ≤ n)
    (body : ∀ (p : Program) (l : Launch) (e : Env) (s : State) (m : MethodId) (below : List Frame) (meth : Method) (c : Code) (A : Nat → Prop) (ls : Array Slot), l.stackTraces = false → (∀ x ∈ c.exceptionTable.toList, False) → Fx G p s m c b n own A → meth.sig.returnType = some .double → meth.locks = false → Wd G A s.heap w0 s.heap [] → lv_has ls n (lv_args 0 av) →
      W p l e { frames := fr, cells := mc, slots := ms, locals := lo } s m av.toArray below meth c s.heap [] 0 0 (XD G A P X mc ms below av.toArray s) (F0 m 0 ls [])) : CXd G y b n fr lo mc ms av w0 P X := by
  intro l sz hst
  refine vx_ofW (cc := b) (maxL := n) (ret := some .double) hp rfl ?_
  intro p e s m args below meth c s₁ B hml htab hv
  obtain ⟨rfl, hK, hz, hsz, hP, hD0⟩ := hv
  have hnm : s.vm.findClass y.cls = some m.cls := findClass_of_methodNamed B.named
  subst hsz
  have hD := hD0.self (sz := s.heap.size)
  have hzz : ∀ q, va_A w0 s.heap.size q → G.2.2.1 ≤ q := fun q h => h.elim (fun ⟨k, e, h1⟩ => hD0.2 k _ h1) (fun h1 => Nat.le_trans hz h1)
  have hAA : ∀ q, s.heap.size ≤ q → va_A w0 s.heap.size q := fun q h => Or.inr h
  have hl := lv_entry av (n := n) hn
  rw [lg_entry_eq]
  exact body p l e s m below meth c _ _ hst htab ⟨g, B.exec, B.bytes, hml, by rw [← hown]; exact hnm, hK, hz, hAA, hzz⟩ B.returns B.notSynchronized ⟨hP, hD, va_S.rf⟩ hl
section FLTD
variable {G : cG} {p : Program} {l : Launch} {e : Env} {R : Room} {s : State} {m : MethodId} {args : Array Value} {below : List Frame} {meth : Method} {c : Code} {H : Heap} {locs : List Loc} {cells slots : Nat} {Q : State → Prop} {cc : ByteArray} {nL : Nat} {own : String} {A : Nat → Prop} {L LC LR : List va_W} {ws : va_W} {pc : Nat} {ls : Array Slot} {rest : List Value} {mc ms : Nat}
theorem edX (F : Fx G p s m c cc nL own A) (w : Wd G A s.heap ws H locs) {P : UInt64 → va_W → Prop} {X : String → va_W → Prop} (hr : meth.sig.returnType = some .double) (hlocks : meth.locks = false) {r : UInt64} (h : P r ws) (hc : cells ≤ mc) (hs : slots ≤ ms) (hdg : decode cc pc = .ok (.dreturn, 1)) : W p l e R s m args below meth c H locs cells slots (XD G A P X mc ms below args s) (F0 m pc ls [.double r]) :=
  vx_ret (W.widen hc hs (W.dret F.x F.b hr (fun t ht hW => ⟨⟨r, ws, rfl, h, by rw [ht]; exact w.1, w.2.1⟩, w.2.2.F ht⟩) w.2.2.2.2 hdg hlocks))
theorem kXd (F : Fx G p s m c cc nL own A) (w : Wd G A s.heap (fl L) H locs) (hst : l.stackTraces = false) {y : MethodName} {b : ByteArray} {n k idx fr lo o ci q0 mc ms : Nat} {As : List Value} {P : UInt64 → va_W → Prop} {X : String → va_W → Prop} {fs : List Value} {qc : vw_C}
    (hc : CXd G y b n fr lo mc ms (.ref o :: As) (fl LC) P X) (Y : YM y b n (some .double) k) (V : YV y) (hl : Cond.methodLink own idx y ∈ lw_tbl)
    (he : (fl L)[q0]? = some (o, .inr (ci, fs))) (hq : vwCl[ci]? = some qc) (hqc : qc.1 = y.cls)
    (nB : Nat) (is : List Nat) (hn : L.length = nB) (hp : pmB nB is = true) (hL : is.map (fun i => L[i]?) = (LC ++ LR).map some)
    (hRm : fr + 1 ≤ R.frames ∧ 8 + (n + 11) + lo ≤ R.locals) (hlen : As.length = k) (hls : ls.size = nL) {st0 : List Value} (hst0 : st0 = As.reverse ++ .ref o :: rest) (hrm : (rest.map fun v => v.category).sum ≤ 8) (hdg : decode cc pc = .ok (.invokevirtual idx, 3)) (hf : cells + mc ≤ R.cells ∧ slots + ms ≤ R.slots)
    (kx : ∀ (E : String) (w1 : va_W) (ce : Cell) (q : Addr) (H1 : Heap) (locs1 : List Loc), X E w1 → Wd G A s.heap (w1 ++ fl LR) H1 locs1 → H1[q]? = some ce → ce.vm = .none → s.vm.findClass E = some ce.cls → vx_W p l e R s m args below meth c H1 locs1 (cells + mc) (slots + ms) Q (F0 m pc ls rest) q)
    (kk : ∀ (r : UInt64) (w1 : va_W) (H1 : Heap) (locs1 : List Loc), P r w1 → Wd G A s.heap (w1 ++ fl LR) H1 locs1 → W p l e R s m args below meth c H1 locs1 (cells + mc) (slots + ms) Q (F0 m (pc + 3) ls (.double r :: rest))) : W p l e R s m args below meth c H locs cells slots Q (F0 m pc ls st0) := by
  subst hst0
  have w' := w.spl nB is hn hp hL
  have hFc := Wd.freeF F w'
  refine vx_calld (vx_runV (As := As) (rest := rest) (nL := nL) (Ts := []) ⟨F.x, F.b, F.ml, F.o, fun _ h => nomatch h⟩ (hc l H.size hst) ⟨Y.B F.t (F.t _ hl rfl _) hRm, F.t _ V.1 rfl _, F.t _ V.2 rfl _⟩ ⟨fun a U g mk q => ⟨q.1, PreB.calling F.1 U g mk a q.2⟩, ?_, fun U hU hW => ⟨rfl, F.preF w' hU hW⟩⟩ rfl hlen hls rfl (lv_room hrm) hdg hf) w.2.2 (fun q _ h => hFc q h) hFc (fun q _ h => hFc q h) (fun E ce q9 u t H1 locs1 ht hvm hu hB hz1 hk1 hS hce hcv hcl => ?_) (fun r' u t H1 locs1 ht hvm hw hB hz1 hk1 hS => ?_)
  · have h := va_recv F.K w.1 hq he
    rw [hqc] at h
    exact h
  · obtain ⟨hX, hP1, hD1⟩ := hB
    rw [ht] at hP1
    exact kx E u ce q9 H1 locs1 hX (Wd.backF F w' hk1 hP1 hD1 hS) hce hcv hcl
  · obtain ⟨hP1, hD1⟩ := hB
    rw [ht] at hP1
    exact kk r' u H1 locs1 hw (Wd.backF F w' hk1 hP1 hD1 hS)
end FLTD
/-- CONTRACT: a float answer, or an exception -/
def CXf (G : cG) (y : MethodName) (b : ByteArray) (n : Nat) (fr lo mc ms : Nat) (av : List Value) (w0 : va_W) (P : UInt32 → va_W → Prop) (X : String → va_W → Prop) : Prop :=
  ∀ (l : Launch) (sz : Nat), l.stackTraces = false → vx_Met l y (wy y b n (some .float)) { frames := fr, cells := mc, slots := ms, locals := lo } (va_Pc av (PreB G sz w0)) (va_Qf P (fun w1 t => PosB G sz w0 w1 t) (va_A w0 sz)) (vx_X (fun _ : va_W => True) (fun E w1 t => X E w1 ∧ PosB G sz w0 w1 t) (va_A w0 sz)) mc ms (va_A w0 sz)
abbrev XF (G : cG) (A : Nat → Prop) (P : UInt32 → va_W → Prop) (X : String → va_W → Prop) (mc ms : Nat) (below : List Frame) (args : Array Value) (s : State) : State → Prop := vx_MQ below (va_Qf P (fun w1 t => va_P G.1 vwCl w1 t.heap ∧ va_D A w1) A) (XQ G A X) args s mc ms A
theorem CXf.of {G : cG} (g : GOK G) {y : MethodName} {b : ByteArray} {n : Nat} {fr lo mc ms : Nat} {av : List Value} {w0 : va_W} {P : UInt32 → va_W → Prop} {X : String → va_W → Prop} {own : String} (hp : plainName y.cls = true) (hown : y.cls = own) (hn : (lg_sl av).length ≤ n)
    (body : ∀ (p : Program) (l : Launch) (e : Env) (s : State) (m : MethodId) (below : List Frame) (meth : Method) (c : Code) (A : Nat → Prop) (ls : Array Slot), l.stackTraces = false → (∀ x ∈ c.exceptionTable.toList, False) → Fx G p s m c b n own A → meth.sig.returnType = some .float → meth.locks = false → Wd G A s.heap w0 s.heap [] → lv_has ls n (lv_args 0 av) →
      W p l e { frames := fr, cells := mc, slots := ms, locals := lo } s m av.toArray below meth c s.heap [] 0 0 (XF G A P X mc ms below av.toArray s) (F0 m 0 ls [])) : CXf G y b n fr lo mc ms av w0 P X := by
  intro l sz hst
  refine vx_ofW (cc := b) (maxL := n) (ret := some .float) hp rfl ?_
  intro p e s m args below meth c s₁ B hml htab hv
  obtain ⟨rfl, hK, hz, hsz, hP, hD0⟩ := hv
  have hnm : s.vm.findClass y.cls = some m.cls := findClass_of_methodNamed B.named
  subst hsz
  have hD := hD0.self (sz := s.heap.size)
  have hzz : ∀ q, va_A w0 s.heap.size q → G.2.2.1 ≤ q := fun q h => h.elim (fun ⟨k, e, h1⟩ => hD0.2 k _ h1) (fun h1 => Nat.le_trans hz h1)
  have hAA : ∀ q, s.heap.size ≤ q → va_A w0 s.heap.size q := fun q h => Or.inr h
  have hl := lv_entry av (n := n) hn
  rw [lg_entry_eq]
  exact body p l e s m below meth c _ _ hst htab ⟨g, B.exec, B.bytes, hml, by rw [← hown]; exact hnm, hK, hz, hAA, hzz⟩ B.returns B.notSynchronized ⟨hP, hD, va_S.rf⟩ hl
section FLTF
variable {G : cG} {p : Program} {l : Launch} {e : Env} {R : Room} {s : State} {m : MethodId} {args : Array Value} {below : List Frame} {meth : Method} {c : Code} {H : Heap} {locs : List Loc} {cells slots : Nat} {Q : State → Prop} {cc : ByteArray} {nL : Nat} {own : String} {A : Nat → Prop} {L LC LR : List va_W} {ws : va_W} {pc : Nat} {ls : Array Slot} {rest : List Value} {mc ms : Nat}
theorem efX (F : Fx G p s m c cc nL own A) (w : Wd G A s.heap ws H locs) {P : UInt32 → va_W → Prop} {X : String → va_W → Prop} (hr : meth.sig.returnType = some .float) (hlocks : meth.locks = false) {r : UInt32} (h : P r ws) (hc : cells ≤ mc) (hs : slots ≤ ms) (hdg : decode cc pc = .ok (.freturn, 1)) : W p l e R s m args below meth c H locs cells slots (XF G A P X mc ms below args s) (F0 m pc ls [.float r]) :=
  vx_ret (W.widen hc hs (W.fret F.x F.b hr (fun t ht hW => ⟨⟨r, ws, rfl, h, by rw [ht]; exact w.1, w.2.1⟩, w.2.2.F ht⟩) w.2.2.2.2 hdg hlocks))
theorem kXf (F : Fx G p s m c cc nL own A) (w : Wd G A s.heap (fl L) H locs) (hst : l.stackTraces = false) {y : MethodName} {b : ByteArray} {n k idx fr lo o ci q0 mc ms : Nat} {As : List Value} {P : UInt32 → va_W → Prop} {X : String → va_W → Prop} {fs : List Value} {qc : vw_C}
    (hc : CXf G y b n fr lo mc ms (.ref o :: As) (fl LC) P X) (Y : YM y b n (some .float) k) (V : YV y) (hl : Cond.methodLink own idx y ∈ lw_tbl)
    (he : (fl L)[q0]? = some (o, .inr (ci, fs))) (hq : vwCl[ci]? = some qc) (hqc : qc.1 = y.cls)
    (nB : Nat) (is : List Nat) (hn : L.length = nB) (hp : pmB nB is = true) (hL : is.map (fun i => L[i]?) = (LC ++ LR).map some)
    (hRm : fr + 1 ≤ R.frames ∧ 8 + (n + 11) + lo ≤ R.locals) (hlen : As.length = k) (hls : ls.size = nL) {st0 : List Value} (hst0 : st0 = As.reverse ++ .ref o :: rest) (hrm : (rest.map fun v => v.category).sum ≤ 8) (hdg : decode cc pc = .ok (.invokevirtual idx, 3)) (hf : cells + mc ≤ R.cells ∧ slots + ms ≤ R.slots)
    (kx : ∀ (E : String) (w1 : va_W) (ce : Cell) (q : Addr) (H1 : Heap) (locs1 : List Loc), X E w1 → Wd G A s.heap (w1 ++ fl LR) H1 locs1 → H1[q]? = some ce → ce.vm = .none → s.vm.findClass E = some ce.cls → vx_W p l e R s m args below meth c H1 locs1 (cells + mc) (slots + ms) Q (F0 m pc ls rest) q)
    (kk : ∀ (r : UInt32) (w1 : va_W) (H1 : Heap) (locs1 : List Loc), P r w1 → Wd G A s.heap (w1 ++ fl LR) H1 locs1 → W p l e R s m args below meth c H1 locs1 (cells + mc) (slots + ms) Q (F0 m (pc + 3) ls (.float r :: rest))) : W p l e R s m args below meth c H locs cells slots Q (F0 m pc ls st0) := by
  subst hst0
  have w' := w.spl nB is hn hp hL
  have hFc := Wd.freeF F w'
  refine vx_callf (vx_runV (As := As) (rest := rest) (nL := nL) (Ts := []) ⟨F.x, F.b, F.ml, F.o, fun _ h => nomatch h⟩ (hc l H.size hst) ⟨Y.B F.t (F.t _ hl rfl _) hRm, F.t _ V.1 rfl _, F.t _ V.2 rfl _⟩ ⟨fun a U g mk q => ⟨q.1, PreB.calling F.1 U g mk a q.2⟩, ?_, fun U hU hW => ⟨rfl, F.preF w' hU hW⟩⟩ rfl hlen hls rfl (lv_room hrm) hdg hf) w.2.2 (fun q _ h => hFc q h) hFc (fun q _ h => hFc q h) (fun E ce q9 u t H1 locs1 ht hvm hu hB hz1 hk1 hS hce hcv hcl => ?_) (fun r' u t H1 locs1 ht hvm hw hB hz1 hk1 hS => ?_)
  · have h := va_recv F.K w.1 hq he
    rw [hqc] at h
    exact h
  · obtain ⟨hX, hP1, hD1⟩ := hB
    rw [ht] at hP1
    exact kx E u ce q9 H1 locs1 hX (Wd.backF F w' hk1 hP1 hD1 hS) hce hcv hcl
  · obtain ⟨hP1, hD1⟩ := hB
    rw [ht] at hP1
    exact kk r' u H1 locs1 hw (Wd.backF F w' hk1 hP1 hD1 hS)
end FLTF
set_option maxRecDepth 100000 in
set_option maxHeartbeats 4000000 in
theorem k_meanValue_no {G : cG} (g : GOK G) (gM : MG G) {ad : Nat → Nat → Nat} {svx : Value} {K S : Mem} {c : Nat} (hc : S.1 0 = nI c) (hc16 : c ≤ 16) (h0 : c = 0) : CXd G yX6_meanValue cX6_meanValue 2 6 82 1 6 [.ref ((ad 0) 0)] (fl [wXo G.2.1 (ad 0) (xF ad) svx K, wSh G.2.1 (ad 1) S]) (fun _ _ => False) (QE eARE (fl [wXo G.2.1 (ad 0) (xF ad) svx K, wSh G.2.1 (ad 1) S])) := by
  refine CXd.of g (by decide) rfl (Nat.le_of_ble_eq_true rfl) ?_
  intro p l e s m below meth c9 A ls hst htab F hr hlocks w hl
  generalize ([.ref ((ad 0) 0)] : List Value).toArray = args
  have hl : lv_has ls 2 [(0, .ref ((ad 0) 0))] := hl
  have w : Wd G A s.heap (fl [wXo G.2.1 (ad 0) (xF ad) svx K, wSh G.2.1 (ad 1) S]) _ _ := w
  refine lv_aload_n F.x F.b dX6_meanValue_0 rfl (lv_at hl 0 rfl) ?_
  refine rg F w cl6 0 rfl 0 (by decide) q260 rfl (v := .ref ((ad 1) 0)) rfl dX6_meanValue_1 ?_
  refine rgN F w cl4 1 rfl 0 (by decide) q147 rfl (v := .ref ((ad 1) 1)) rfl dX6_meanValue_4 ?_
  refine rgN F w cl3 2 rfl 7 (by decide) q86 rfl (v := .int (S.1 0)) rfl dX6_meanValue_7 ?_
  refine lv_istore_n (lv' := [(1, .int (S.1 0)), (0, .ref ((ad 0) 0))]) F.x F.b dX6_meanValue_10 rfl hl (by decide) rfl (fun ls hl => ?_)
  refine lv_iload_n F.x F.b dX6_meanValue_11 rfl (lv_at hl 0 rfl) ?_
  rw [show (S.1 0) = nI c from hc]
  refine lv_if_ne (tgt := 25) F.x F.b dX6_meanValue_12 (by decide) (fun c9 => absurd (show nI c = 0 by rw [h0]; rfl) c9) (fun _ => ?_)
  exact wTS F w gM hst htab hlocks hS_ARE (is := 253) (by decide +kernel : (253, "no lots") ∈ msgs) (show QE eARE (fl [wXo G.2.1 (ad 0) (xF ad) svx K, wSh G.2.1 (ad 1) S]) eARE _ from ⟨rfl, rfl⟩) hl.1 dX6_meanValue_15 dX6_meanValue_18 dX6_meanValue_19 dX6_meanValue_21 dX6_meanValue_24 ⟨Nat.le_of_ble_eq_true rfl, Nat.le_of_ble_eq_true rfl, Nat.le_of_ble_eq_true rfl, Nat.le_of_ble_eq_true rfl⟩ ⟨Nat.le_of_ble_eq_true rfl, Nat.le_of_ble_eq_true rfl⟩
set_option maxRecDepth 100000 in
set_option maxHeartbeats 4000000 in
theorem k_meanValue_ok {G : cG} (g : GOK G) {ad : Nat → Nat → Nat} {svx : Value} {K S : Mem} {c : Nat} {v : Nat → Int32} (hc : S.1 0 = nI c) (hc16 : c ≤ 16) (h0 : c ≠ 0) (hsum : f_X3_sumOfValues S = some (sI v c)) : CXd G yX6_meanValue cX6_meanValue 2 2 43 0 0 [.ref ((ad 0) 0)] (fl [wXo G.2.1 (ad 0) (xF ad) svx K, wSh G.2.1 (ad 1) S]) (fun d w1 => d = mnD v c ∧ w1 = (fl [wXo G.2.1 (ad 0) (xF ad) svx K, wSh G.2.1 (ad 1) S])) (fun _ _ => False) := by
  refine CXd.of g (by decide) rfl (Nat.le_of_ble_eq_true rfl) ?_
  intro p l e s m below meth c9 A ls hst htab F hr hlocks w hl
  generalize ([.ref ((ad 0) 0)] : List Value).toArray = args
  have hl : lv_has ls 2 [(0, .ref ((ad 0) 0))] := hl
  have w : Wd G A s.heap (fl [wXo G.2.1 (ad 0) (xF ad) svx K, wSh G.2.1 (ad 1) S]) _ _ := w
  refine lv_aload_n F.x F.b dX6_meanValue_0 rfl (lv_at hl 0 rfl) ?_
  refine rg F w cl6 0 rfl 0 (by decide) q260 rfl (v := .ref ((ad 1) 0)) rfl dX6_meanValue_1 ?_
  refine rgN F w cl4 1 rfl 0 (by decide) q147 rfl (v := .ref ((ad 1) 1)) rfl dX6_meanValue_4 ?_
  refine rgN F w cl3 2 rfl 7 (by decide) q86 rfl (v := .int (S.1 0)) rfl dX6_meanValue_7 ?_
  refine lv_istore_n (lv' := [(1, .int (S.1 0)), (0, .ref ((ad 0) 0))]) F.x F.b dX6_meanValue_10 rfl hl (by decide) rfl (fun ls hl => ?_)
  refine lv_iload_n F.x F.b dX6_meanValue_11 rfl (lv_at hl 0 rfl) ?_
  rw [show (S.1 0) = nI c from hc]
  refine lv_if_ne (tgt := 25) F.x F.b dX6_meanValue_12 (by decide) (fun _ => ?_) (fun c9 => absurd c9 (fun z => h0 ((nI_eq (a := c) (b := 0) (by omega) (by omega)).mp z)))
  refine lv_aload_n F.x F.b dX6_meanValue_25 rfl (lv_at hl 1 rfl) ?_
  refine rg F w cl6 0 rfl 0 (by decide) q260 rfl (v := .ref ((ad 1) 0)) rfl dX6_meanValue_26 ?_
  refine rgN F w cl4 1 rfl 0 (by decide) q147 rfl (v := .ref ((ad 1) 1)) rfl dX6_meanValue_29 ?_
  refine kXi F w hst (LC := [wSh G.2.1 (ad 1) S]) (LR := [wXo G.2.1 (ad 0) (xF ad) svx K]) (As := []) (rest := []) (t_X3_sumOfValues F.1 hsum).toX m_X3_sumOfValues v_X3_sumOfValues q1447 (ci := 7) (q0 := 2) rfl rfl rfl 2 [1, 0] rfl rfl rfl ⟨Nat.le_of_ble_eq_true rfl, Nat.le_of_ble_eq_true rfl⟩ rfl hl.1 rfl (Nat.le_of_ble_eq_true rfl) dX6_meanValue_32 ⟨Nat.le_of_ble_eq_true rfl, Nat.le_of_ble_eq_true rfl⟩ (fun _ _ _ _ _ _ hx => False.elim hx) (fun r9 w1 H locs h9 w => ?_)
  obtain ⟨rfl, h9⟩ := h9
  have w := w.jn (L1 := [wSh G.2.1 (ad 1) S]) (L' := [wXo G.2.1 (ad 0) (xF ad) svx K, wSh G.2.1 (ad 1) S]) h9 2 [1, 0] rfl rfl rfl
  refine lv_i2d F.x F.b dX6_meanValue_35 ?_
  refine lv_iload_n F.x F.b dX6_meanValue_36 rfl (lv_at hl 0 rfl) ?_
  refine lv_i2d F.x F.b dX6_meanValue_37 ?_
  rw [show (S.1 0 : Int32) = nI c from hc]
  refine lv_ddiv F.x F.b dX6_meanValue_38 (n64_of (dd_ok _ _ (fun z => h0 ((nI_eq (a := c) (b := 0) (by omega) (by omega)).mp z)))) ?_
  exact edX F w hr hlocks ⟨rfl, rfl⟩ (Nat.le_of_ble_eq_true rfl) (Nat.le_of_ble_eq_true rfl) dX6_meanValue_39
set_option maxRecDepth 100000 in
set_option maxHeartbeats 4000000 in
theorem k_sealedFraction_no {G : cG} (g : GOK G) (gM : MG G) {ad : Nat → Nat → Nat} {svx : Value} {K S : Mem} {c : Nat} (hc : S.1 0 = nI c) (hc16 : c ≤ 16) (h0 : c = 0) : CXf G yX6_sealedFraction cX6_sealedFraction 2 6 82 1 6 [.ref ((ad 0) 0)] (fl [wXo G.2.1 (ad 0) (xF ad) svx K, wSh G.2.1 (ad 1) S]) (fun _ _ => False) (QE eARE (fl [wXo G.2.1 (ad 0) (xF ad) svx K, wSh G.2.1 (ad 1) S])) := by
  refine CXf.of g (by decide) rfl (Nat.le_of_ble_eq_true rfl) ?_
  intro p l e s m below meth c9 A ls hst htab F hr hlocks w hl
  generalize ([.ref ((ad 0) 0)] : List Value).toArray = args
  have hl : lv_has ls 2 [(0, .ref ((ad 0) 0))] := hl
  have w : Wd G A s.heap (fl [wXo G.2.1 (ad 0) (xF ad) svx K, wSh G.2.1 (ad 1) S]) _ _ := w
  refine lv_aload_n F.x F.b dX6_sealedFraction_0 rfl (lv_at hl 0 rfl) ?_
  refine rg F w cl6 0 rfl 0 (by decide) q260 rfl (v := .ref ((ad 1) 0)) rfl dX6_sealedFraction_1 ?_
  refine rgN F w cl4 1 rfl 0 (by decide) q147 rfl (v := .ref ((ad 1) 1)) rfl dX6_sealedFraction_4 ?_
  refine rgN F w cl3 2 rfl 7 (by decide) q86 rfl (v := .int (S.1 0)) rfl dX6_sealedFraction_7 ?_
  refine lv_istore_n (lv' := [(1, .int (S.1 0)), (0, .ref ((ad 0) 0))]) F.x F.b dX6_sealedFraction_10 rfl hl (by decide) rfl (fun ls hl => ?_)
  refine lv_iload_n F.x F.b dX6_sealedFraction_11 rfl (lv_at hl 0 rfl) ?_
  rw [show (S.1 0) = nI c from hc]
  refine lv_if_ne (tgt := 25) F.x F.b dX6_sealedFraction_12 (by decide) (fun c9 => absurd (show nI c = 0 by rw [h0]; rfl) c9) (fun _ => ?_)
  exact wTS F w gM hst htab hlocks hS_ARE (is := 253) (by decide +kernel : (253, "no lots") ∈ msgs) (show QE eARE (fl [wXo G.2.1 (ad 0) (xF ad) svx K, wSh G.2.1 (ad 1) S]) eARE _ from ⟨rfl, rfl⟩) hl.1 dX6_sealedFraction_15 dX6_sealedFraction_18 dX6_sealedFraction_19 dX6_sealedFraction_21 dX6_sealedFraction_24 ⟨Nat.le_of_ble_eq_true rfl, Nat.le_of_ble_eq_true rfl, Nat.le_of_ble_eq_true rfl, Nat.le_of_ble_eq_true rfl⟩ ⟨Nat.le_of_ble_eq_true rfl, Nat.le_of_ble_eq_true rfl⟩
set_option maxRecDepth 100000 in
set_option maxHeartbeats 4000000 in
theorem k_sealedFraction_ok {G : cG} (g : GOK G) {ad : Nat → Nat → Nat} {svx : Value} {K S : Mem} {c : Nat} {v : Nat → Int32} (hc : S.1 0 = nI c) (hc16 : c ≤ 16) (h0 : c ≠ 0) (hsum : f_X3_countSealed S = some (sI v c)) : CXf G yX6_sealedFraction cX6_sealedFraction 2 2 43 0 0 [.ref ((ad 0) 0)] (fl [wXo G.2.1 (ad 0) (xF ad) svx K, wSh G.2.1 (ad 1) S]) (fun d w1 => d = frF v c ∧ w1 = (fl [wXo G.2.1 (ad 0) (xF ad) svx K, wSh G.2.1 (ad 1) S])) (fun _ _ => False) := by
  refine CXf.of g (by decide) rfl (Nat.le_of_ble_eq_true rfl) ?_
  intro p l e s m below meth c9 A ls hst htab F hr hlocks w hl
  generalize ([.ref ((ad 0) 0)] : List Value).toArray = args
  have hl : lv_has ls 2 [(0, .ref ((ad 0) 0))] := hl
  have w : Wd G A s.heap (fl [wXo G.2.1 (ad 0) (xF ad) svx K, wSh G.2.1 (ad 1) S]) _ _ := w
  refine lv_aload_n F.x F.b dX6_sealedFraction_0 rfl (lv_at hl 0 rfl) ?_
  refine rg F w cl6 0 rfl 0 (by decide) q260 rfl (v := .ref ((ad 1) 0)) rfl dX6_sealedFraction_1 ?_
  refine rgN F w cl4 1 rfl 0 (by decide) q147 rfl (v := .ref ((ad 1) 1)) rfl dX6_sealedFraction_4 ?_
  refine rgN F w cl3 2 rfl 7 (by decide) q86 rfl (v := .int (S.1 0)) rfl dX6_sealedFraction_7 ?_
  refine lv_istore_n (lv' := [(1, .int (S.1 0)), (0, .ref ((ad 0) 0))]) F.x F.b dX6_sealedFraction_10 rfl hl (by decide) rfl (fun ls hl => ?_)
  refine lv_iload_n F.x F.b dX6_sealedFraction_11 rfl (lv_at hl 0 rfl) ?_
  rw [show (S.1 0) = nI c from hc]
  refine lv_if_ne (tgt := 25) F.x F.b dX6_sealedFraction_12 (by decide) (fun _ => ?_) (fun c9 => absurd c9 (fun z => h0 ((nI_eq (a := c) (b := 0) (by omega) (by omega)).mp z)))
  refine lv_aload_n F.x F.b dX6_sealedFraction_25 rfl (lv_at hl 1 rfl) ?_
  refine rg F w cl6 0 rfl 0 (by decide) q260 rfl (v := .ref ((ad 1) 0)) rfl dX6_sealedFraction_26 ?_
  refine rgN F w cl4 1 rfl 0 (by decide) q147 rfl (v := .ref ((ad 1) 1)) rfl dX6_sealedFraction_29 ?_
  refine kXi F w hst (LC := [wSh G.2.1 (ad 1) S]) (LR := [wXo G.2.1 (ad 0) (xF ad) svx K]) (As := []) (rest := []) (t_X3_countSealed F.1 hsum).toX m_X3_countSealed v_X3_countSealed q1459 (ci := 7) (q0 := 2) rfl rfl rfl 2 [1, 0] rfl rfl rfl ⟨Nat.le_of_ble_eq_true rfl, Nat.le_of_ble_eq_true rfl⟩ rfl hl.1 rfl (Nat.le_of_ble_eq_true rfl) dX6_sealedFraction_32 ⟨Nat.le_of_ble_eq_true rfl, Nat.le_of_ble_eq_true rfl⟩ (fun _ _ _ _ _ _ hx => False.elim hx) (fun r9 w1 H locs h9 w => ?_)
  obtain ⟨rfl, h9⟩ := h9
  have w := w.jn (L1 := [wSh G.2.1 (ad 1) S]) (L' := [wXo G.2.1 (ad 0) (xF ad) svx K, wSh G.2.1 (ad 1) S]) h9 2 [1, 0] rfl rfl rfl
  refine lv_i2f F.x F.b dX6_sealedFraction_35 ?_
  refine lv_iload_n F.x F.b dX6_sealedFraction_36 rfl (lv_at hl 0 rfl) ?_
  refine lv_i2f F.x F.b dX6_sealedFraction_37 ?_
  rw [show (S.1 0 : Int32) = nI c from hc]
  refine lv_fdiv F.x F.b dX6_sealedFraction_38 (n32_of (ff_ok _ _ (fun z => h0 ((nI_eq (a := c) (b := 0) (by omega) (by omega)).mp z)))) ?_
  exact efX F w hr hlocks ⟨rfl, rfl⟩ (Nat.le_of_ble_eq_true rfl) (Nat.le_of_ble_eq_true rfl) dX6_sealedFraction_39

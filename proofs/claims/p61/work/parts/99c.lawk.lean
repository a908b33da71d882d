/-! THE LAW'S OWN METHODS: with a table, how they are called -/
def allE : List String := [eNSE, eIOB, eIAE, eISE, eUOE, eARE]
/-- none of the six is another's kind -/
def NcG (G : cG) : Prop := ∀ (U : State) (H : Heap), G.2.2.2 U H → ∀ E ∈ allE, ∀ T ∈ allE, E ≠ T → va_Nc E T U
theorem Fx.nc {G : cG} {p : Program} {s : State} {m : MethodId} {c : Code} {cc : ByteArray} {nL : Nat} {own : String} {A : Nat → Prop} (F : Fx G p s m c cc nL own A) (h : NcG G) {E T : String} (hE : E ∈ allE) (hT : T ∈ allE) (hn : E ≠ T) : va_Nc E T s := h s s.heap F.2.2.2.2.2.1.2.2 E hE T hT hn
abbrev NX : String → va_W → Prop := fun _ _ => False
/-- CONTRACT of a method with a table that throws nothing -/
def CXH (G : cG) (y : MethodName) (b : ByteArray) (n : Nat) (hh : List (Nat × Nat × Nat × Nat)) (fr lo mc ms : Nat) (av : List Value) (w0 : va_W) (P : Int32 → va_W → Prop) : Prop :=
  ∀ (l : Launch) (sz : Nat), l.stackTraces = false → vx_Met l y [Cond.codeWith y b n (some .int) hh] { frames := fr, cells := mc, slots := ms, locals := lo } (va_Pc av (PreB G sz w0)) (va_Qi P (fun w1 t => PosB G sz w0 w1 t) (va_A w0 sz)) (vx_X (fun _ : va_W => True) (fun E w1 t => (fun (_ : String) (_ : va_W) => False) E w1 ∧ PosB G sz w0 w1 t) (va_A w0 sz)) mc ms (va_A w0 sz)
theorem CXH.of {G : cG} (g : GOK G) {y : MethodName} {b : ByteArray} {n : Nat} {hh : List (Nat × Nat × Nat × Nat)} {fr lo mc ms : Nat} {av : List Value} {w0 : va_W} {P : Int32 → va_W → Prop} {own : String} (hp : plainName y.cls = true) (hown : y.cls = own) (hn : (lg_sl av).length ≤ n) (hmem : Cond.codeWith y b n (some .int) hh ∈ lw_tbl) (hkw : kw (Cond.codeWith y b n (some .int) hh) = true)
    (body : ∀ (p : Program) (l : Launch) (e : Env) (s : State) (m : MethodId) (below : List Frame) (meth : Method) (c : Code) (A : Nat → Prop) (ls : Array Slot), l.stackTraces = false → c.exceptionTable.toList = tableOf hh → Fx G p s m c b n own A → meth.sig.returnType = some .int → meth.locks = false → Wd G A s.heap w0 s.heap [] → lv_has ls n (lv_args 0 av) →
      W p l e { frames := fr, cells := mc, slots := ms, locals := lo } s m av.toArray below meth c s.heap [] 0 0 (XI G A P NX mc ms below av.toArray s) (F0 m 0 ls [])) : CXH G y b n hh fr lo mc ms av w0 P := by
  intro l sz hst
  refine vx_ofWH (cc := b) (maxL := n) (ret := some .int) (hh := hh) hp rfl ?_
  intro p e s m args below meth c s₁ B hml hv
  obtain ⟨rfl, hK, hz, hsz, hP, hD0⟩ := hv
  have hnm : s.vm.findClass y.cls = some m.cls := findClass_of_methodNamed B.named
  subst hsz
  have hD := hD0.self (sz := s.heap.size)
  have hzz : ∀ q, va_A w0 s.heap.size q → G.2.2.1 ≤ q := fun q h => h.elim (fun ⟨k, e, h1⟩ => hD0.2 k _ h1) (fun h1 => Nat.le_trans hz h1)
  have hAA : ∀ q, s.heap.size ≤ q → va_A w0 s.heap.size q := fun q h => Or.inr h
  have hl := lv_entry av (n := n) hn
  rw [lg_entry_eq]
  exact body p l e s m below meth c _ _ hst (vx_table (x := y) B (hK.1 _ hmem hkw av.toArray)) ⟨g, B.exec, B.bytes, hml, by rw [← hown]; exact hnm, hK, hz, hAA, hzz⟩ B.returns B.notSynchronized ⟨hP, hD, va_S.rf⟩ hl
/-- a method with a table, by its words -/
def YMH (y : MethodName) (b : ByteArray) (n : Nat) (hh : List (Nat × Nat × Nat × Nat)) (k : Nat) : Prop := (Cond.codeWith y b n (some .int) hh ∈ lw_tbl ∧ kw (Cond.codeWith y b n (some .int) hh) = true) ∧ (Cond.initialized y.cls ∈ lw_tbl) ∧ (y.cls ≠ "java/lang/invoke/MethodHandle" ∧ y.cls ≠ "java/lang/invoke/VarHandle") ∧ (parseMethodDescriptor y.desc).map (fun d => d.parameters.length) = some k
/-- CONTRACT of a method with a table that throws nothing -/
def CXHd (G : cG) (y : MethodName) (b : ByteArray) (n : Nat) (hh : List (Nat × Nat × Nat × Nat)) (fr lo mc ms : Nat) (av : List Value) (w0 : va_W) (P : UInt64 → va_W → Prop) : Prop :=
  ∀ (l : Launch) (sz : Nat), l.stackTraces = false → vx_Met l y [Cond.codeWith y b n (some .double) hh] { frames := fr, cells := mc, slots := ms, locals := lo } (va_Pc av (PreB G sz w0)) (va_Qd P (fun w1 t => PosB G sz w0 w1 t) (va_A w0 sz)) (vx_X (fun _ : va_W => True) (fun E w1 t => (fun (_ : String) (_ : va_W) => False) E w1 ∧ PosB G sz w0 w1 t) (va_A w0 sz)) mc ms (va_A w0 sz)
theorem CXHd.of {G : cG} (g : GOK G) {y : MethodName} {b : ByteArray} {n : Nat} {hh : List (Nat × Nat × Nat × Nat)} {fr lo mc ms : Nat} {av : List Value} {w0 : va_W} {P : UInt64 → va_W → Prop} {own : String} (hp : plainName y.cls = true) (hown : y.cls = own) (hn : (lg_sl av).length ≤ n) (hmem : Cond.codeWith y b n (some .double) hh ∈ lw_tbl) (hkw : kw (Cond.codeWith y b n (some .double) hh) = true)
    (body : ∀ (p : Program) (l : Launch) (e : Env) (s : State) (m : MethodId) (below : List Frame) (meth : Method) (c : Code) (A : Nat → Prop) (ls : Array Slot), l.stackTraces = false → c.exceptionTable.toList = tableOf hh → Fx G p s m c b n own A → meth.sig.returnType = some .double → meth.locks = false → Wd G A s.heap w0 s.heap [] → lv_has ls n (lv_args 0 av) →
      W p l e { frames := fr, cells := mc, slots := ms, locals := lo } s m av.toArray below meth c s.heap [] 0 0 (XD G A P NX mc ms below av.toArray s) (F0 m 0 ls [])) : CXHd G y b n hh fr lo mc ms av w0 P := by
  intro l sz hst
  refine vx_ofWH (cc := b) (maxL := n) (ret := some .double) (hh := hh) hp rfl ?_
  intro p e s m args below meth c s₁ B hml hv
  obtain ⟨rfl, hK, hz, hsz, hP, hD0⟩ := hv
  have hnm : s.vm.findClass y.cls = some m.cls := findClass_of_methodNamed B.named
  subst hsz
  have hD := hD0.self (sz := s.heap.size)
  have hzz : ∀ q, va_A w0 s.heap.size q → G.2.2.1 ≤ q := fun q h => h.elim (fun ⟨k, e, h1⟩ => hD0.2 k _ h1) (fun h1 => Nat.le_trans hz h1)
  have hAA : ∀ q, s.heap.size ≤ q → va_A w0 s.heap.size q := fun q h => Or.inr h
  have hl := lv_entry av (n := n) hn
  rw [lg_entry_eq]
  exact body p l e s m below meth c _ _ hst (vx_table (x := y) B (hK.1 _ hmem hkw av.toArray)) ⟨g, B.exec, B.bytes, hml, by rw [← hown]; exact hnm, hK, hz, hAA, hzz⟩ B.returns B.notSynchronized ⟨hP, hD, va_S.rf⟩ hl
/-- a method with a table, by its words -/
def YMHd (y : MethodName) (b : ByteArray) (n : Nat) (hh : List (Nat × Nat × Nat × Nat)) (k : Nat) : Prop := (Cond.codeWith y b n (some .double) hh ∈ lw_tbl ∧ kw (Cond.codeWith y b n (some .double) hh) = true) ∧ (Cond.initialized y.cls ∈ lw_tbl) ∧ (y.cls ≠ "java/lang/invoke/MethodHandle" ∧ y.cls ≠ "java/lang/invoke/VarHandle") ∧ (parseMethodDescriptor y.desc).map (fun d => d.parameters.length) = some k
/-- CONTRACT of a method with a table that throws nothing -/
def CXHf (G : cG) (y : MethodName) (b : ByteArray) (n : Nat) (hh : List (Nat × Nat × Nat × Nat)) (fr lo mc ms : Nat) (av : List Value) (w0 : va_W) (P : UInt32 → va_W → Prop) : Prop :=
  ∀ (l : Launch) (sz : Nat), l.stackTraces = false → vx_Met l y [Cond.codeWith y b n (some .float) hh] { frames := fr, cells := mc, slots := ms, locals := lo } (va_Pc av (PreB G sz w0)) (va_Qf P (fun w1 t => PosB G sz w0 w1 t) (va_A w0 sz)) (vx_X (fun _ : va_W => True) (fun E w1 t => (fun (_ : String) (_ : va_W) => False) E w1 ∧ PosB G sz w0 w1 t) (va_A w0 sz)) mc ms (va_A w0 sz)
theorem CXHf.of {G : cG} (g : GOK G) {y : MethodName} {b : ByteArray} {n : Nat} {hh : List (Nat × Nat × Nat × Nat)} {fr lo mc ms : Nat} {av : List Value} {w0 : va_W} {P : UInt32 → va_W → Prop} {own : String} (hp : plainName y.cls = true) (hown : y.cls = own) (hn : (lg_sl av).length ≤ n) (hmem : Cond.codeWith y b n (some .float) hh ∈ lw_tbl) (hkw : kw (Cond.codeWith y b n (some .float) hh) = true)
    (body : ∀ (p : Program) (l : Launch) (e : Env) (s : State) (m : MethodId) (below : List Frame) (meth : Method) (c : Code) (A : Nat → Prop) (ls : Array Slot), l.stackTraces = false → c.exceptionTable.toList = tableOf hh → Fx G p s m c b n own A → meth.sig.returnType = some .float → meth.locks = false → Wd G A s.heap w0 s.heap [] → lv_has ls n (lv_args 0 av) →
      W p l e { frames := fr, cells := mc, slots := ms, locals := lo } s m av.toArray below meth c s.heap [] 0 0 (XF G A P NX mc ms below av.toArray s) (F0 m 0 ls [])) : CXHf G y b n hh fr lo mc ms av w0 P := by
  intro l sz hst
  refine vx_ofWH (cc := b) (maxL := n) (ret := some .float) (hh := hh) hp rfl ?_
  intro p e s m args below meth c s₁ B hml hv
  obtain ⟨rfl, hK, hz, hsz, hP, hD0⟩ := hv
  have hnm : s.vm.findClass y.cls = some m.cls := findClass_of_methodNamed B.named
  subst hsz
  have hD := hD0.self (sz := s.heap.size)
  have hzz : ∀ q, va_A w0 s.heap.size q → G.2.2.1 ≤ q := fun q h => h.elim (fun ⟨k, e, h1⟩ => hD0.2 k _ h1) (fun h1 => Nat.le_trans hz h1)
  have hAA : ∀ q, s.heap.size ≤ q → va_A w0 s.heap.size q := fun q h => Or.inr h
  have hl := lv_entry av (n := n) hn
  rw [lg_entry_eq]
  exact body p l e s m below meth c _ _ hst (vx_table (x := y) B (hK.1 _ hmem hkw av.toArray)) ⟨g, B.exec, B.bytes, hml, by rw [← hown]; exact hnm, hK, hz, hAA, hzz⟩ B.returns B.notSynchronized ⟨hP, hD, va_S.rf⟩ hl
/-- a method with a table, by its words -/
def YMHf (y : MethodName) (b : ByteArray) (n : Nat) (hh : List (Nat × Nat × Nat × Nat)) (k : Nat) : Prop := (Cond.codeWith y b n (some .float) hh ∈ lw_tbl ∧ kw (Cond.codeWith y b n (some .float) hh) = true) ∧ (Cond.initialized y.cls ∈ lw_tbl) ∧ (y.cls ≠ "java/lang/invoke/MethodHandle" ∧ y.cls ≠ "java/lang/invoke/VarHandle") ∧ (parseMethodDescriptor y.desc).map (fun d => d.parameters.length) = some k
section LAWK
variable {G : cG} {p : Program} {l : Launch} {e : Env} {R : Room} {s : State} {m : MethodId} {args : Array Value} {below : List Frame} {meth : Method} {c : Code} {H : Heap} {locs : List Loc} {cells slots : Nat} {Q : State → Prop} {cc : ByteArray} {nL : Nat} {own : String} {A : Nat → Prop} {L LC LR : List va_W} {ws ws' : va_W} {pc : Nat} {ls : Array Slot} {rest : List Value} {mc ms a : Nat}
/-- CALL of such a method -/
theorem kLi (F : Fx G p s m c cc nL own A) (w : Wd G A s.heap (fl L) H locs) (hst : l.stackTraces = false) {y : MethodName} {b : ByteArray} {n k idx fr lo : Nat} {hh : List (Nat × Nat × Nat × Nat)} {As : List Value} {P : Int32 → va_W → Prop}
    (hc : CXH G y b n hh fr lo mc ms As (fl LC) P) (Y : YMH y b n hh k) (V : YS y) (hl : Cond.methodLink own idx y ∈ lw_tbl)
    (nB : Nat) (is : List Nat) (hn : L.length = nB) (hp : pmB nB is = true) (hL : is.map (fun i => L[i]?) = (LC ++ LR).map some)
    (hRm : fr + 1 ≤ R.frames ∧ 8 + (n + 11) + lo ≤ R.locals) (hlen : As.length = k) (hls : ls.size = nL) {st0 : List Value} (hst0 : st0 = As.reverse ++ rest) (hrm : (rest.map fun v => v.category).sum ≤ 8) (hdg : decode cc pc = .ok (.invokestatic idx, 3)) (hf : cells + mc ≤ R.cells ∧ slots + ms ≤ R.slots)
    (kk : ∀ (r : Int32) (w1 : va_W) (H1 : Heap) (locs1 : List Loc), P r w1 → Wd G A s.heap (w1 ++ fl LR) H1 locs1 → W p l e R s m args below meth c H1 locs1 (cells + mc) (slots + ms) Q (F0 m (pc + 3) ls (.int r :: rest))) : W p l e R s m args below meth c H locs cells slots Q (F0 m pc ls st0) := by
  subst hst0
  have w' := w.spl nB is hn hp hL
  have hFc := Wd.freeF F w'
  obtain ⟨⟨h1, h2⟩, h3, h4, h5⟩ := Y
  refine vx_calli (vx_runSX (hh := hh) (bytes := b) (maxL := n) (ret := some .int) (As := As) (rest := rest) (nL := nL) (Ts := []) ⟨F.x, F.b, F.ml, F.o, fun _ h => nomatch h⟩ (hc l H.size hst) ⟨⟨rfl, rfl, hRm.1, hRm.2, fun w hw a' U hW => by rw [List.mem_singleton.mp hw]; exact (F.t.warm hW) _ h1 h2 _, List.mem_singleton.mpr rfl⟩, F.t _ h1 h2 _, F.t _ h3 rfl _, h4, fun sig h => by rw [h] at h5; exact (Option.some.inj h5).symm, F.t _ hl rfl _, F.t _ V rfl _⟩ ⟨fun a U g mk q => ⟨q.1, PreB.calling F.1 U g mk a q.2⟩, fun U hU hW => ⟨rfl, F.preF w' hU hW⟩⟩ rfl hlen hls rfl (lv_room hrm) hdg hf) w.2.2 (fun q _ h => hFc q h) hFc (fun q _ h => hFc q h) (fun E ce q9 u t H1 locs1 ht hvm hu hB hz1 hk1 hS hce hcv hcl => ?_) (fun r' u t H1 locs1 ht hvm hw hB hz1 hk1 hS => ?_)
  · exact False.elim hB.1
  · obtain ⟨hP1, hD1⟩ := hB
    rw [ht] at hP1
    exact kk r' u H1 locs1 hw (Wd.backF F w' hk1 hP1 hD1 hS)
/-- CALL of such a method -/
theorem kLd (F : Fx G p s m c cc nL own A) (w : Wd G A s.heap (fl L) H locs) (hst : l.stackTraces = false) {y : MethodName} {b : ByteArray} {n k idx fr lo : Nat} {hh : List (Nat × Nat × Nat × Nat)} {As : List Value} {P : UInt64 → va_W → Prop}
    (hc : CXHd G y b n hh fr lo mc ms As (fl LC) P) (Y : YMHd y b n hh k) (V : YS y) (hl : Cond.methodLink own idx y ∈ lw_tbl)
    (nB : Nat) (is : List Nat) (hn : L.length = nB) (hp : pmB nB is = true) (hL : is.map (fun i => L[i]?) = (LC ++ LR).map some)
    (hRm : fr + 1 ≤ R.frames ∧ 8 + (n + 11) + lo ≤ R.locals) (hlen : As.length = k) (hls : ls.size = nL) {st0 : List Value} (hst0 : st0 = As.reverse ++ rest) (hrm : (rest.map fun v => v.category).sum ≤ 8) (hdg : decode cc pc = .ok (.invokestatic idx, 3)) (hf : cells + mc ≤ R.cells ∧ slots + ms ≤ R.slots)
    (kk : ∀ (r : UInt64) (w1 : va_W) (H1 : Heap) (locs1 : List Loc), P r w1 → Wd G A s.heap (w1 ++ fl LR) H1 locs1 → W p l e R s m args below meth c H1 locs1 (cells + mc) (slots + ms) Q (F0 m (pc + 3) ls (.double r :: rest))) : W p l e R s m args below meth c H locs cells slots Q (F0 m pc ls st0) := by
  subst hst0
  have w' := w.spl nB is hn hp hL
  have hFc := Wd.freeF F w'
  obtain ⟨⟨h1, h2⟩, h3, h4, h5⟩ := Y
  refine vx_calld (vx_runSX (hh := hh) (bytes := b) (maxL := n) (ret := some .double) (As := As) (rest := rest) (nL := nL) (Ts := []) ⟨F.x, F.b, F.ml, F.o, fun _ h => nomatch h⟩ (hc l H.size hst) ⟨⟨rfl, rfl, hRm.1, hRm.2, fun w hw a' U hW => by rw [List.mem_singleton.mp hw]; exact (F.t.warm hW) _ h1 h2 _, List.mem_singleton.mpr rfl⟩, F.t _ h1 h2 _, F.t _ h3 rfl _, h4, fun sig h => by rw [h] at h5; exact (Option.some.inj h5).symm, F.t _ hl rfl _, F.t _ V rfl _⟩ ⟨fun a U g mk q => ⟨q.1, PreB.calling F.1 U g mk a q.2⟩, fun U hU hW => ⟨rfl, F.preF w' hU hW⟩⟩ rfl hlen hls rfl (lv_room hrm) hdg hf) w.2.2 (fun q _ h => hFc q h) hFc (fun q _ h => hFc q h) (fun E ce q9 u t H1 locs1 ht hvm hu hB hz1 hk1 hS hce hcv hcl => ?_) (fun r' u t H1 locs1 ht hvm hw hB hz1 hk1 hS => ?_)
  · exact False.elim hB.1
  · obtain ⟨hP1, hD1⟩ := hB
    rw [ht] at hP1
    exact kk r' u H1 locs1 hw (Wd.backF F w' hk1 hP1 hD1 hS)
/-- CALL of such a method -/
theorem kLf (F : Fx G p s m c cc nL own A) (w : Wd G A s.heap (fl L) H locs) (hst : l.stackTraces = false) {y : MethodName} {b : ByteArray} {n k idx fr lo : Nat} {hh : List (Nat × Nat × Nat × Nat)} {As : List Value} {P : UInt32 → va_W → Prop}
    (hc : CXHf G y b n hh fr lo mc ms As (fl LC) P) (Y : YMHf y b n hh k) (V : YS y) (hl : Cond.methodLink own idx y ∈ lw_tbl)
    (nB : Nat) (is : List Nat) (hn : L.length = nB) (hp : pmB nB is = true) (hL : is.map (fun i => L[i]?) = (LC ++ LR).map some)
    (hRm : fr + 1 ≤ R.frames ∧ 8 + (n + 11) + lo ≤ R.locals) (hlen : As.length = k) (hls : ls.size = nL) {st0 : List Value} (hst0 : st0 = As.reverse ++ rest) (hrm : (rest.map fun v => v.category).sum ≤ 8) (hdg : decode cc pc = .ok (.invokestatic idx, 3)) (hf : cells + mc ≤ R.cells ∧ slots + ms ≤ R.slots)
    (kk : ∀ (r : UInt32) (w1 : va_W) (H1 : Heap) (locs1 : List Loc), P r w1 → Wd G A s.heap (w1 ++ fl LR) H1 locs1 → W p l e R s m args below meth c H1 locs1 (cells + mc) (slots + ms) Q (F0 m (pc + 3) ls (.float r :: rest))) : W p l e R s m args below meth c H locs cells slots Q (F0 m pc ls st0) := by
  subst hst0
  have w' := w.spl nB is hn hp hL
  have hFc := Wd.freeF F w'
  obtain ⟨⟨h1, h2⟩, h3, h4, h5⟩ := Y
  refine vx_callf (vx_runSX (hh := hh) (bytes := b) (maxL := n) (ret := some .float) (As := As) (rest := rest) (nL := nL) (Ts := []) ⟨F.x, F.b, F.ml, F.o, fun _ h => nomatch h⟩ (hc l H.size hst) ⟨⟨rfl, rfl, hRm.1, hRm.2, fun w hw a' U hW => by rw [List.mem_singleton.mp hw]; exact (F.t.warm hW) _ h1 h2 _, List.mem_singleton.mpr rfl⟩, F.t _ h1 h2 _, F.t _ h3 rfl _, h4, fun sig h => by rw [h] at h5; exact (Option.some.inj h5).symm, F.t _ hl rfl _, F.t _ V rfl _⟩ ⟨fun a U g mk q => ⟨q.1, PreB.calling F.1 U g mk a q.2⟩, fun U hU hW => ⟨rfl, F.preF w' hU hW⟩⟩ rfl hlen hls rfl (lv_room hrm) hdg hf) w.2.2 (fun q _ h => hFc q h) hFc (fun q _ h => hFc q h) (fun E ce q9 u t H1 locs1 ht hvm hu hB hz1 hk1 hS hce hcv hcl => ?_) (fun r' u t H1 locs1 ht hvm hw hB hz1 hk1 hS => ?_)
  · exact False.elim hB.1
  · obtain ⟨hP1, hD1⟩ := hB
    rw [ht] at hP1
    exact kk r' u H1 locs1 hw (Wd.backF F w' hk1 hP1 hD1 hS)
end LAWK
/-- CONTRACT: a long answer, or an exception -/
def CXl (G : cG) (y : MethodName) (b : ByteArray) (n : Nat) (fr lo mc ms : Nat) (av : List Value) (w0 : va_W) (P : Int64 → va_W → Prop) (X : String → va_W → Prop) : Prop :=
  ∀ (l : Launch) (sz : Nat), l.stackTraces = false → vx_Met l y (wy y b n (some .long)) { frames := fr, cells := mc, slots := ms, locals := lo } (va_Pc av (PreB G sz w0)) (va_Ql P (fun w1 t => PosB G sz w0 w1 t) (va_A w0 sz)) (vx_X (fun _ : va_W => True) (fun E w1 t => X E w1 ∧ PosB G sz w0 w1 t) (va_A w0 sz)) mc ms (va_A w0 sz)
abbrev XL (G : cG) (A : Nat → Prop) (P : Int64 → va_W → Prop) (X : String → va_W → Prop) (mc ms : Nat) (below : List Frame) (args : Array Value) (s : State) : State → Prop := vx_MQ below (va_Ql P (fun w1 t => va_P G.1 vwCl w1 t.heap ∧ va_D A w1) A) (XQ G A X) args s mc ms A
theorem CXl.of {G : cG} (g : GOK G) {y : MethodName} {b : ByteArray} {n : Nat} {fr lo mc ms : Nat} {av : List Value} {w0 : va_W} {P : Int64 → va_W → Prop} {X : String → va_W → Prop} {own : String} (hp : plainName y.cls = true) (hown : y.cls = own) (hn : (lg_sl av).length ≤ n)
    (body : ∀ (p : Program) (l : Launch) (e : Env) (s : State) (m : MethodId) (below : List Frame) (meth : Method) (c : Code) (A : Nat → Prop) (ls : Array Slot), l.stackTraces = false → (∀ x ∈ c.exceptionTable.toList, False) → Fx G p s m c b n own A → meth.sig.returnType = some .long → meth.locks = false → Wd G A s.heap w0 s.heap [] → lv_has ls n (lv_args 0 av) →
      W p l e { frames := fr, cells := mc, slots := ms, locals := lo } s m av.toArray below meth c s.heap [] 0 0 (XL G A P X mc ms below av.toArray s) (F0 m 0 ls [])) : CXl G y b n fr lo mc ms av w0 P X := by
  intro l sz hst
  refine vx_ofW (cc := b) (maxL := n) (ret := some .long) hp rfl ?_
  intro p e s m args below meth c s₁ B hml htab hv
  obtain ⟨rfl, hK, hz, hsz, hP, hD0⟩ := hv
  have hnm : s.vm.findClass y.cls = some m.cls := findClass_of_methodNamed B.named
  subst hsz
  have hD := hD0.self (sz := s.heap.size)
  have hzz : ∀ q, va_A w0 s.heap.size q → G.2.2.1 ≤ q := fun q h => h.elim (fun ⟨k, e, h1⟩ => hD0.2 k _ h1) (fun h1 => Nat.le_trans hz h1)
  have hAA : ∀ q, s.heap.size ≤ q → va_A w0 s.heap.size q := fun q h => Or.inr h
  have hl := lv_entry av (n := n) hn
  rw [lg_entry_eq]
  exact body p l e s m below meth c _ _ hst htab ⟨g, B.exec, B.bytes, hml, by rw [← hown]; exact hnm, hK, hz, hAA, hzz⟩ B.returns B.notSynchronized ⟨hP, hD, va_S.rf⟩ hl
section LNG
variable {G : cG} {p : Program} {l : Launch} {e : Env} {R : Room} {s : State} {m : MethodId} {args : Array Value} {below : List Frame} {meth : Method} {c : Code} {H : Heap} {locs : List Loc} {cells slots : Nat} {Q : State → Prop} {cc : ByteArray} {nL : Nat} {own : String} {A : Nat → Prop} {L LC LR : List va_W} {ws : va_W} {pc : Nat} {ls : Array Slot} {rest : List Value} {mc ms : Nat}
theorem elX (F : Fx G p s m c cc nL own A) (w : Wd G A s.heap ws H locs) {P : Int64 → va_W → Prop} {X : String → va_W → Prop} (hr : meth.sig.returnType = some .long) (hlocks : meth.locks = false) {r : Int64} (h : P r ws) (hc : cells ≤ mc) (hs : slots ≤ ms) (hdg : decode cc pc = .ok (.lreturn, 1)) : W p l e R s m args below meth c H locs cells slots (XL G A P X mc ms below args s) (F0 m pc ls [.long r]) :=
  vx_ret (W.widen hc hs (W.lret F.x F.b hr (fun t ht hW => ⟨⟨r, ws, rfl, h, by rw [ht]; exact w.1, w.2.1⟩, w.2.2.F ht⟩) w.2.2.2.2 hdg hlocks))
theorem kXl (F : Fx G p s m c cc nL own A) (w : Wd G A s.heap (fl L) H locs) (hst : l.stackTraces = false) {y : MethodName} {b : ByteArray} {n k idx fr lo o ci q0 mc ms : Nat} {As : List Value} {P : Int64 → va_W → Prop} {X : String → va_W → Prop} {fs : List Value} {qc : vw_C}
    (hc : CXl G y b n fr lo mc ms (.ref o :: As) (fl LC) P X) (Y : YM y b n (some .long) k) (V : YV y) (hl : Cond.methodLink own idx y ∈ lw_tbl)
    (he : (fl L)[q0]? = some (o, .inr (ci, fs))) (hq : vwCl[ci]? = some qc) (hqc : qc.1 = y.cls)
    (nB : Nat) (is : List Nat) (hn : L.length = nB) (hp : pmB nB is = true) (hL : is.map (fun i => L[i]?) = (LC ++ LR).map some)
    (hRm : fr + 1 ≤ R.frames ∧ 8 + (n + 11) + lo ≤ R.locals) (hlen : As.length = k) (hls : ls.size = nL) {st0 : List Value} (hst0 : st0 = As.reverse ++ .ref o :: rest) (hrm : (rest.map fun v => v.category).sum ≤ 8) (hdg : decode cc pc = .ok (.invokevirtual idx, 3)) (hf : cells + mc ≤ R.cells ∧ slots + ms ≤ R.slots)
    (kx : ∀ (E : String) (w1 : va_W) (ce : Cell) (q : Addr) (H1 : Heap) (locs1 : List Loc), X E w1 → Wd G A s.heap (w1 ++ fl LR) H1 locs1 → H1[q]? = some ce → ce.vm = .none → s.vm.findClass E = some ce.cls → vx_W p l e R s m args below meth c H1 locs1 (cells + mc) (slots + ms) Q (F0 m pc ls rest) q)
    (kk : ∀ (r : Int64) (w1 : va_W) (H1 : Heap) (locs1 : List Loc), P r w1 → Wd G A s.heap (w1 ++ fl LR) H1 locs1 → W p l e R s m args below meth c H1 locs1 (cells + mc) (slots + ms) Q (F0 m (pc + 3) ls (.long r :: rest))) : W p l e R s m args below meth c H locs cells slots Q (F0 m pc ls st0) := by
  subst hst0
  have w' := w.spl nB is hn hp hL
  have hFc := Wd.freeF F w'
  refine vx_calll (vx_runV (As := As) (rest := rest) (nL := nL) (Ts := []) ⟨F.x, F.b, F.ml, F.o, fun _ h => nomatch h⟩ (hc l H.size hst) ⟨Y.B F.t (F.t _ hl rfl _) hRm, F.t _ V.1 rfl _, F.t _ V.2 rfl _⟩ ⟨fun a U g mk q => ⟨q.1, PreB.calling F.1 U g mk a q.2⟩, ?_, fun U hU hW => ⟨rfl, F.preF w' hU hW⟩⟩ rfl hlen hls rfl (lv_room hrm) hdg hf) w.2.2 (fun q _ h => hFc q h) hFc (fun q _ h => hFc q h) (fun E ce q9 u t H1 locs1 ht hvm hu hB hz1 hk1 hS hce hcv hcl => ?_) (fun r' u t H1 locs1 ht hvm hw hB hz1 hk1 hS => ?_)
  · have h := va_recv F.K w.1 hq he
    rw [hqc] at h
    exact h
  · obtain ⟨hX, hP1, hD1⟩ := hB
    rw [ht] at hP1
    exact kx E u ce q9 H1 locs1 hX (Wd.backF F w' hk1 hP1 hD1 hS) hce hcv hcl
  · obtain ⟨hP1, hD1⟩ := hB
    rw [ht] at hP1
    exact kk r' u H1 locs1 hw (Wd.backF F w' hk1 hP1 hD1 hS)
end LNG
section LAWK
variable {G : cG} {p : Program} {l : Launch} {e : Env} {R : Room} {s : State} {m : MethodId} {args : Array Value} {below : List Frame} {meth : Method} {c : Code} {H : Heap} {locs : List Loc} {cells slots : Nat} {Q : State → Prop} {cc : ByteArray} {nL : Nat} {own : String} {A : Nat → Prop} {L LC LR : List va_W} {ws ws' : va_W} {pc : Nat} {ls : Array Slot} {rest : List Value} {mc ms a : Nat}
/-- CALL, invokestatic, over blocks, int answer -/
theorem kBi (F : Fx G p s m c cc nL own A) (w : Wd G A s.heap (fl L) H locs) (hst : l.stackTraces = false) {y : MethodName} {b : ByteArray} {n k idx fr lo : Nat} {ret : FieldType} {As : List Value} {P : Int32 → va_W → Prop}
    (hc : CX G y b n ret fr lo mc ms As (fl LC) P NX) (Y : YM y b n (some ret) k) (V : YS y) (hl : Cond.methodLink own idx y ∈ lw_tbl)
    (nB : Nat) (is : List Nat) (hn : L.length = nB) (hp : pmB nB is = true) (hL : is.map (fun i => L[i]?) = (LC ++ LR).map some)
    (hRm : fr + 1 ≤ R.frames ∧ 8 + (n + 11) + lo ≤ R.locals) (hlen : As.length = k) (hls : ls.size = nL) {st0 : List Value} (hst0 : st0 = As.reverse ++ rest) (hrm : (rest.map fun v => v.category).sum ≤ 8) (hdg : decode cc pc = .ok (.invokestatic idx, 3)) (hf : cells + mc ≤ R.cells ∧ slots + ms ≤ R.slots)
    (kk : ∀ (r : Int32) (w1 : va_W) (H1 : Heap) (locs1 : List Loc), P r w1 → Wd G A s.heap (w1 ++ fl LR) H1 locs1 → W p l e R s m args below meth c H1 locs1 (cells + mc) (slots + ms) Q (F0 m (pc + 3) ls (.int r :: rest))) : W p l e R s m args below meth c H locs cells slots Q (F0 m pc ls st0) := by
  subst hst0
  have w' := w.spl nB is hn hp hL
  have hFc := Wd.freeF F w'
  refine vx_calli (vx_runS (As := As) (rest := rest) (nL := nL) (Ts := []) ⟨F.x, F.b, F.ml, F.o, fun _ h => nomatch h⟩ (hc l H.size hst) ⟨Y.B F.t (F.t _ hl rfl _) hRm, F.t _ V rfl _⟩ ⟨fun a U g mk q => ⟨q.1, PreB.calling F.1 U g mk a q.2⟩, fun U hU hW => ⟨rfl, F.preF w' hU hW⟩⟩ rfl hlen hls rfl (lv_room hrm) hdg hf) w.2.2 (fun q _ h => hFc q h) hFc (fun q _ h => hFc q h) (fun E ce q9 u t H1 locs1 ht hvm hu hB hz1 hk1 hS hce hcv hcl => ?_) (fun r' u t H1 locs1 ht hvm hw hB hz1 hk1 hS => ?_)
  · exact False.elim hB.1
  · obtain ⟨hP1, hD1⟩ := hB
    rw [ht] at hP1
    exact kk r' u H1 locs1 hw (Wd.backF F w' hk1 hP1 hD1 hS)
/-- CALL, invokestatic, over blocks, long answer -/
theorem kBl (F : Fx G p s m c cc nL own A) (w : Wd G A s.heap (fl L) H locs) (hst : l.stackTraces = false) {y : MethodName} {b : ByteArray} {n k idx fr lo : Nat} {As : List Value} {P : Int64 → va_W → Prop}
    (hc : CXl G y b n fr lo mc ms As (fl LC) P NX) (Y : YM y b n (some .long) k) (V : YS y) (hl : Cond.methodLink own idx y ∈ lw_tbl)
    (nB : Nat) (is : List Nat) (hn : L.length = nB) (hp : pmB nB is = true) (hL : is.map (fun i => L[i]?) = (LC ++ LR).map some)
    (hRm : fr + 1 ≤ R.frames ∧ 8 + (n + 11) + lo ≤ R.locals) (hlen : As.length = k) (hls : ls.size = nL) {st0 : List Value} (hst0 : st0 = As.reverse ++ rest) (hrm : (rest.map fun v => v.category).sum ≤ 8) (hdg : decode cc pc = .ok (.invokestatic idx, 3)) (hf : cells + mc ≤ R.cells ∧ slots + ms ≤ R.slots)
    (kk : ∀ (r : Int64) (w1 : va_W) (H1 : Heap) (locs1 : List Loc), P r w1 → Wd G A s.heap (w1 ++ fl LR) H1 locs1 → W p l e R s m args below meth c H1 locs1 (cells + mc) (slots + ms) Q (F0 m (pc + 3) ls (.long r :: rest))) : W p l e R s m args below meth c H locs cells slots Q (F0 m pc ls st0) := by
  subst hst0
  have w' := w.spl nB is hn hp hL
  have hFc := Wd.freeF F w'
  refine vx_calll (vx_runS (As := As) (rest := rest) (nL := nL) (Ts := []) ⟨F.x, F.b, F.ml, F.o, fun _ h => nomatch h⟩ (hc l H.size hst) ⟨Y.B F.t (F.t _ hl rfl _) hRm, F.t _ V rfl _⟩ ⟨fun a U g mk q => ⟨q.1, PreB.calling F.1 U g mk a q.2⟩, fun U hU hW => ⟨rfl, F.preF w' hU hW⟩⟩ rfl hlen hls rfl (lv_room hrm) hdg hf) w.2.2 (fun q _ h => hFc q h) hFc (fun q _ h => hFc q h) (fun E ce q9 u t H1 locs1 ht hvm hu hB hz1 hk1 hS hce hcv hcl => ?_) (fun r' u t H1 locs1 ht hvm hw hB hz1 hk1 hS => ?_)
  · exact False.elim hB.1
  · obtain ⟨hP1, hD1⟩ := hB
    rw [ht] at hP1
    exact kk r' u H1 locs1 hw (Wd.backF F w' hk1 hP1 hD1 hS)
/-- a long into its cell, out of it; a double -/
theorem rLs (F : Fx G p s m c cc nL own A) (w : Wd G A s.heap ws H locs) (q0 : Nat) {n : Nat} {f : Nat → Int64} (ha : ws[q0]? = some (a, .inl (G.2.1 4, n, .inr (.inl f)))) {i : Int32} {x : Int64} (hi : ib i n = true) (hws : ws.set q0 (a, .inl (G.2.1 4, n, .inr (.inl (vp_updL f i.toNatClampNeg x)))) = ws') (hdg : decode cc pc = .ok (.lastore, 1))
    (kk : ∀ (H1 : Heap) (locs1 : List Loc), Wd G A s.heap ws' H1 locs1 → W p l e R s m args below meth c H1 locs1 cells slots Q (F0 m (pc + 1) ls rest)) : W p l e R s m args below meth c H locs cells slots Q (F0 m pc ls (.long x :: .int i :: .ref a :: rest)) :=
  va_last F.x F.b F.K w.1 w.2.1 w.2.2 q0 4 ha rfl (ib_in hi) hdg (fun H1 locs1 h1 h2 h3 => kk H1 locs1 (by rw [← hws]; exact ⟨h1, h2, h3⟩))
theorem rLl (F : Fx G p s m c cc nL own A) (w : Wd G A s.heap ws H locs) (q0 : Nat) {n : Nat} {f : Nat → Int64} (ha : ws[q0]? = some (a, .inl (G.2.1 4, n, .inr (.inl f)))) {i : Int32} (hi : ib i n = true) {v : Int64} (hv : f i.toNatClampNeg = v) (hdg : decode cc pc = .ok (.laload, 1))
    (kk : W p l e R s m args below meth c H locs cells slots Q (F0 m (pc + 1) ls (.long v :: rest))) : W p l e R s m args below meth c H locs cells slots Q (F0 m pc ls (.int i :: .ref a :: rest)) := by
  subst hv
  exact va_lald F.x F.b F.K w.1 q0 4 ha rfl (ib_in hi) hdg kk
/-- rows of the table that don't take E -/
abbrev passes (args : Array Value) (s : State) (own E : String) (pc : Nat) (z : ExceptionTableEntry) : Prop := covers z pc = false ∨ (z.catchType ≠ 0 ∧ ∃ nm : String, (Cond.classLink own z.catchType nm).before args s = true ∧ va_Nc E nm s)
theorem pass_nil {E : String} : ∀ z ∈ tableOf [], passes args s own E pc z := fun z hz => nomatch hz
theorem pass_cons (F : Fx G p s m c cc nL own A) (hNC : NcG G) {E T : String} {a1 a2 a3 a4 : Nat} {r : List (Nat × Nat × Nat × Nat)} (h0 : a4 ≠ 0) (hl : Cond.classLink own a4 T ∈ lw_tbl) (hE : E ∈ allE) (hT : T ∈ allE) (hn : E ≠ T) (tl : ∀ z ∈ tableOf r, passes args s own E pc z) : ∀ z ∈ tableOf ((a1, a2, a3, a4) :: r), passes args s own E pc z := fun z hz => by
  rcases List.mem_cons.mp hz with e | h
  · rw [e]
    exact Or.inr ⟨h0, T, F.t _ hl rfl _, F.nc hNC hE hT hn⟩
  · exact tl z h
end LAWK
/-- the script is known for ever -/
def XS (G : cG) (b L : Nat) (xs : Nat → Int32) : Prop := ∀ (U : State) (H : Heap), G.2.2.2 U H → va_X b L xs U H ∧ b < G.2.2.1 ∧ L ≤ 260
section SCR
variable {G : cG} {p : Program} {l : Launch} {e : Env} {R : Room} {s : State} {m : MethodId} {args : Array Value} {below : List Frame} {meth : Method} {c : Code} {H : Heap} {locs : List Loc} {cells slots : Nat} {Q : State → Prop} {cc : ByteArray} {nL : Nat} {own : String} {A : Nat → Prop} {ws : va_W} {pc : Nat} {ls : Array Slot} {rest : List Value}
theorem Fx.xs (F : Fx G p s m c cc nL own A) {b L : Nat} {xs : Nat → Int32} (h : XS G b L xs) : va_X b L xs s s.heap ∧ ¬ A b ∧ b < s.heap.size ∧ L ≤ 260 := by
  obtain ⟨h1, h2, h3⟩ := h s s.heap F.2.2.2.2.2.1.2.2
  refine ⟨h1, fun q => absurd (F.z b q) (Nat.not_le.mpr h2), ?_, h3⟩
  obtain ⟨scr, hc, -⟩ := h1
  exact (Array.getElem?_eq_some_iff.mp hc).1
/-- an int of the script -/
theorem rX (F : Fx G p s m c cc nL own A) (w : Wd G A s.heap ws H locs) {b L : Nat} {xs : Nat → Int32} (h : XS G b L xs) {k : Nat} (hk : k < L) (hdg : decode cc pc = .ok (.iaload, 1))
    (kk : W p l e R s m args below meth c H locs cells slots Q (F0 m (pc + 1) ls (.int (xs k) :: rest))) : W p l e R s m args below meth c H locs cells slots Q (F0 m pc ls (.int (nI k) :: .ref b :: rest)) := by
  obtain ⟨hX, hbA, hbl, hL⟩ := F.xs h
  refine va_sld F.x F.b hX hbl hbA w.2.2 (nI_in hk (by omega)) hdg ?_
  rw [nI_clamp (by omega)]
  exact kk
theorem rXl (F : Fx G p s m c cc nL own A) (w : Wd G A s.heap ws H locs) {b L : Nat} {xs : Nat → Int32} (h : XS G b L xs) (hdg : decode cc pc = .ok (.arraylength, 1))
    (kk : W p l e R s m args below meth c H locs cells slots Q (F0 m (pc + 1) ls (.int (nI L) :: rest))) : W p l e R s m args below meth c H locs cells slots Q (F0 m pc ls (.ref b :: rest)) := by
  obtain ⟨hX, hbA, hbl, hL⟩ := F.xs h
  exact va_slen F.x F.b hX hbl hbA w.2.2 hdg kk
/-- two longs alike -/
theorem rLc (hexec : p.tables.exec = Jvm.exec) (hb : c.code = cc) {x y : Int64} (hxy : x = y) (hdg : decode cc pc = .ok (.lcmp, 1))
    (k : W p l e R s m args below meth c H locs cells slots Q (F0 m (pc + 1) ls (.int 0 :: rest))) : W p l e R s m args below meth c H locs cells slots Q (F0 m pc ls (.long y :: .long x :: rest)) := by
  subst hxy
  intro T hT X
  obtain ⟨t, a, b⟩ := k T hT X
  refine ⟨t, ?_, b⟩
  jvm_step X.here [X.here.top, hexec, hb, hdg]
  exact a
end SCR

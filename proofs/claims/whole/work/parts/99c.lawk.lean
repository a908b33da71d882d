/-! THE LAW'S OWN METHODS: with a table, over the class' world and a long's cell; how they are called -/
def allE : List String := [eNSE, eIOB, eIAE, eISE, eUOE, eARE]
/-- none of the six is another's kind -/
def NcG (G : cG) : Prop := ∀ (U : State) (H : Heap), G.2.2.2 U H → ∀ E ∈ allE, ∀ T ∈ allE, E ≠ T → va_Nc E T U
theorem Fx.nc {G : cG} {p : Program} {s : State} {m : MethodId} {c : Code} {cc : ByteArray} {nL : Nat} {own : String} {A : Nat → Prop} (F : Fx G p s m c cc nL own A) (h : NcG G) {E T : String} (hE : E ∈ allE) (hT : T ∈ allE) (hn : E ≠ T) : va_Nc E T s := h s s.heap F.2.2.2.2.2.1.2.2 E hE T hT hn
/-- CONTRACT of a method with a table that throws nothing -/
def CXH (G : cG) (y : MethodName) (b : ByteArray) (n : Nat) (hh : List (Nat × Nat × Nat × Nat)) (fr lo mc ms : Nat) (av : List Value) (w0 : va_W) (P : Int32 → va_W → Prop) : Prop :=
  ∀ (l : Launch) (sz : Nat), l.stackTraces = false → vx_Met l y [Cond.codeWith y b n (some .int) hh] { frames := fr, cells := mc, slots := ms, locals := lo } (va_Pc av (PreB G sz w0)) (va_Qi P (fun w1 t => PosB G sz w0 w1 t) (va_A w0 sz)) (vx_X (fun _ : va_W => True) (fun E w1 t => (fun (_ : String) (_ : va_W) => False) E w1 ∧ PosB G sz w0 w1 t) (va_A w0 sz)) mc ms (va_A w0 sz)
abbrev NX : String → va_W → Prop := fun _ _ => False
theorem CXH.of {G : cG} (g : GOK G) {y : MethodName} {b : ByteArray} {n : Nat} {hh : List (Nat × Nat × Nat × Nat)} {fr lo mc ms : Nat} {av : List Value} {w0 : va_W} {P : Int32 → va_W → Prop} {own : String} (hp : plainName y.cls = true) (hown : y.cls = own) (hn : (lg_sl av).length ≤ n) (hmem : Cond.codeWith y b n (some .int) hh ∈ lw_tbl) (hkw : kw (Cond.codeWith y b n (some .int) hh) = true)
    (body : ∀ (p : Program) (l : Launch) (e : Env) (s : State) (m : MethodId) (below : List Frame) (meth : Method) (c : Code) (A : Nat → Prop) (ls : Array Slot), l.stackTraces = false → c.exceptionTable.toList = tableOf hh → Fx G p s m c b n own A → meth.sig.returnType = some .int → meth.locks = false → Wd G A s.heap w0 s.heap [] → lv_has ls n (lv_args 0 av) →
      W p l e { frames := fr, cells := mc, slots := ms, locals := lo } s m av.toArray below meth c s.heap [] 0 0 (XI G A P NX mc ms below av.toArray s) (F0 m 0 ls [])) : CXH G y b n hh fr lo mc ms av w0 P := by
  intro l sz hst
  refine vx_ofWH (cc := b) (maxL := n) (ret := some .int) (hh := hh) hp rfl ?_
  intro p e s m args below meth c s₁ B hml hv
  obtain ⟨rfl, hK, hz, hsz, hP, hD0⟩ := hv
  have hnm : s.vm.findClass y.cls = some m.cls := findClass_of_methodNamed B.named
  subst hsz
  have hD := hD0.self (sz := s.heap.size)
  have hzz : ∀ q, va_A w0 s.heap.size q → G.2.2.1 ≤ q := fun q h => h.elim (fun ⟨k, e, h1⟩ => hD0.2 k _ h1) (fun h1 => Nat.le_trans hz h1)
  have hAA : ∀ q, s.heap.size ≤ q → va_A w0 s.heap.size q := fun q h => Or.inr h
  have hl := lv_entry av (n := n) hn
  rw [lg_entry_eq]
  exact body p l e s m below meth c _ _ hst (vx_table (x := y) B (hK.1 _ hmem hkw av.toArray)) ⟨g, B.exec, B.bytes, hml, by rw [← hown]; exact hnm, hK, hz, hAA, hzz⟩ B.returns B.notSynchronized ⟨hP, hD, va_S.rf⟩ hl
/-- a method with a table, by its words -/
def YMH (y : MethodName) (b : ByteArray) (n : Nat) (hh : List (Nat × Nat × Nat × Nat)) (k : Nat) : Prop := (Cond.codeWith y b n (some .int) hh ∈ lw_tbl ∧ kw (Cond.codeWith y b n (some .int) hh) = true) ∧ (Cond.initialized y.cls ∈ lw_tbl) ∧ (y.cls ≠ "java/lang/invoke/MethodHandle" ∧ y.cls ≠ "java/lang/invoke/VarHandle") ∧ (parseMethodDescriptor y.desc).map (fun d => d.parameters.length) = some k
section LAWK
variable {G : cG} {p : Program} {l : Launch} {e : Env} {R : Room} {s : State} {m : MethodId} {args : Array Value} {below : List Frame} {meth : Method} {c : Code} {H : Heap} {locs : List Loc} {cells slots : Nat} {Q : State → Prop} {cc : ByteArray} {nL : Nat} {own : String} {A : Nat → Prop} {L LC LR : List va_W} {ws ws' : va_W} {pc : Nat} {ls : Array Slot} {rest : List Value} {mc ms a : Nat}
/-- CALL of such a method -/
theorem kLi (F : Fx G p s m c cc nL own A) (w : Wd G A s.heap (fl L) H locs) (hst : l.stackTraces = false) {y : MethodName} {b : ByteArray} {n k idx fr lo : Nat} {hh : List (Nat × Nat × Nat × Nat)} {As : List Value} {P : Int32 → va_W → Prop}
    (hc : CXH G y b n hh fr lo mc ms As (fl LC) P) (Y : YMH y b n hh k) (V : YS y) (hl : Cond.methodLink own idx y ∈ lw_tbl)
    (nB : Nat) (is : List Nat) (hn : L.length = nB) (hp : pmB nB is = true) (hL : is.map (fun i => L[i]?) = (LC ++ LR).map some)
    (hRm : fr + 1 ≤ R.frames ∧ 8 + (n + 11) + lo ≤ R.locals) (hlen : As.length = k) (hls : ls.size = nL) {st0 : List Value} (hst0 : st0 = As.reverse ++ rest) (hrm : (rest.map fun v => v.category).sum ≤ 8) (hdg : decode cc pc = .ok (.invokestatic idx, 3)) (hf : cells + mc ≤ R.cells ∧ slots + ms ≤ R.slots)
    (kk : ∀ (r : Int32) (w1 : va_W) (H1 : Heap) (locs1 : List Loc), P r w1 → Wd G A s.heap (w1 ++ fl LR) H1 locs1 → W p l e R s m args below meth c H1 locs1 (cells + mc) (slots + ms) Q (F0 m (pc + 3) ls (.int r :: rest))) : W p l e R s m args below meth c H locs cells slots Q (F0 m pc ls st0) := by
  subst hst0
  have w' := w.spl nB is hn hp hL
  have hFc := Wd.freeF F w'
  obtain ⟨⟨h1, h2⟩, h3, h4, h5⟩ := Y
  refine vx_calli (vx_runSX (hh := hh) (bytes := b) (maxL := n) (ret := some .int) (As := As) (rest := rest) (nL := nL) (Ts := []) ⟨F.x, F.b, F.ml, F.o, fun _ h => nomatch h⟩ (hc l H.size hst) ⟨⟨rfl, rfl, hRm.1, hRm.2, fun w hw a' U hW => by rw [List.mem_singleton.mp hw]; exact (F.t.warm hW) _ h1 h2 _, List.mem_singleton.mpr rfl⟩, F.t _ h1 h2 _, F.t _ h3 rfl _, h4, fun sig h => by rw [h] at h5; exact (Option.some.inj h5).symm, F.t _ hl rfl _, F.t _ V rfl _⟩ ⟨fun a U g mk q => ⟨q.1, PreB.calling F.1 U g mk a q.2⟩, fun U hU hW => ⟨rfl, F.preF w' hU hW⟩⟩ rfl hlen hls rfl (lv_room hrm) hdg hf) w.2.2 (fun q _ h => hFc q h) hFc (fun q _ h => hFc q h) (fun E ce q9 u t H1 locs1 ht hvm hu hB hz1 hk1 hS hce hcv hcl => ?_) (fun r' u t H1 locs1 ht hvm hw hB hz1 hk1 hS => ?_)
  · exact False.elim hB.1
  · obtain ⟨hP1, hD1⟩ := hB
    rw [ht] at hP1
    exact kk r' u H1 locs1 hw (Wd.backF F w' hk1 hP1 hD1 hS)
/-- a long into its cell, out of it; a double -/
theorem rLs (F : Fx G p s m c cc nL own A) (w : Wd G A s.heap ws H locs) (q0 : Nat) {n : Nat} {f : Nat → Int64} (ha : ws[q0]? = some (a, .inl (G.2.1 4, n, .inr (.inl f)))) {i : Int32} {x : Int64} (hi : ib i n = true) (hws : ws.set q0 (a, .inl (G.2.1 4, n, .inr (.inl (vp_updL f i.toNatClampNeg x)))) = ws') (hdg : decode cc pc = .ok (.lastore, 1))
    (kk : ∀ (H1 : Heap) (locs1 : List Loc), Wd G A s.heap ws' H1 locs1 → W p l e R s m args below meth c H1 locs1 cells slots Q (F0 m (pc + 1) ls rest)) : W p l e R s m args below meth c H locs cells slots Q (F0 m pc ls (.long x :: .int i :: .ref a :: rest)) :=
  va_last F.x F.b F.K w.1 w.2.1 w.2.2 q0 4 ha rfl (ib_in hi) hdg (fun H1 locs1 h1 h2 h3 => kk H1 locs1 (by rw [← hws]; exact ⟨h1, h2, h3⟩))
theorem rDs (F : Fx G p s m c cc nL own A) (w : Wd G A s.heap ws H locs) (q0 : Nat) {n : Nat} {f : Nat → UInt64} (ha : ws[q0]? = some (a, .inl (G.2.1 5, n, .inr (.inr (.inr (.inl f)))))) {i : Int32} {x : UInt64} (hi : ib i n = true) (hws : ws.set q0 (a, .inl (G.2.1 5, n, .inr (.inr (.inr (.inl (vf_upd f i.toNatClampNeg x)))))) = ws') (hdg : decode cc pc = .ok (.dastore, 1))
    (kk : ∀ (H1 : Heap) (locs1 : List Loc), Wd G A s.heap ws' H1 locs1 → W p l e R s m args below meth c H1 locs1 cells slots Q (F0 m (pc + 1) ls rest)) : W p l e R s m args below meth c H locs cells slots Q (F0 m pc ls (.double x :: .int i :: .ref a :: rest)) :=
  va_dast F.x F.b F.K w.1 w.2.1 w.2.2 q0 5 ha rfl (ib_in hi) hdg (fun H1 locs1 h1 h2 h3 => kk H1 locs1 (by rw [← hws]; exact ⟨h1, h2, h3⟩))
theorem rLl (F : Fx G p s m c cc nL own A) (w : Wd G A s.heap ws H locs) (q0 : Nat) {n : Nat} {f : Nat → Int64} (ha : ws[q0]? = some (a, .inl (G.2.1 4, n, .inr (.inl f)))) {i : Int32} (hi : ib i n = true) {v : Int64} (hv : f i.toNatClampNeg = v) (hdg : decode cc pc = .ok (.laload, 1))
    (kk : W p l e R s m args below meth c H locs cells slots Q (F0 m (pc + 1) ls (.long v :: rest))) : W p l e R s m args below meth c H locs cells slots Q (F0 m pc ls (.int i :: .ref a :: rest)) := by
  subst hv
  exact va_lald F.x F.b F.K w.1 q0 4 ha rfl (ib_in hi) hdg kk
theorem rDl (F : Fx G p s m c cc nL own A) (w : Wd G A s.heap ws H locs) (q0 : Nat) {n : Nat} {f : Nat → UInt64} (ha : ws[q0]? = some (a, .inl (G.2.1 5, n, .inr (.inr (.inr (.inl f)))))) {i : Int32} (hi : ib i n = true) {v : UInt64} (hv : f i.toNatClampNeg = v) (hdg : decode cc pc = .ok (.daload, 1))
    (kk : W p l e R s m args below meth c H locs cells slots Q (F0 m (pc + 1) ls (.double v :: rest))) : W p l e R s m args below meth c H locs cells slots Q (F0 m pc ls (.int i :: .ref a :: rest)) := by
  subst hv
  exact va_dald F.x F.b F.K w.1 q0 5 ha rfl (ib_in hi) hdg kk
/-- rows of the table that don't take E -/
abbrev passes (args : Array Value) (s : State) (own E : String) (pc : Nat) (z : ExceptionTableEntry) : Prop := covers z pc = false ∨ (z.catchType ≠ 0 ∧ ∃ nm : String, (Cond.classLink own z.catchType nm).before args s = true ∧ va_Nc E nm s)
theorem pass_nil {E : String} : ∀ z ∈ tableOf [], passes args s own E pc z := fun z hz => nomatch hz
theorem pass_cons (F : Fx G p s m c cc nL own A) (hNC : NcG G) {E T : String} {a1 a2 a3 a4 : Nat} {r : List (Nat × Nat × Nat × Nat)} (h0 : a4 ≠ 0) (hl : Cond.classLink own a4 T ∈ lw_tbl) (hE : E ∈ allE) (hT : T ∈ allE) (hn : E ≠ T) (tl : ∀ z ∈ tableOf r, passes args s own E pc z) : ∀ z ∈ tableOf ((a1, a2, a3, a4) :: r), passes args s own E pc z := fun z hz => by
  rcases List.mem_cons.mp hz with e | h
  · rw [e]
    exact Or.inr ⟨h0, T, F.t _ hl rfl _, F.nc hNC hE hT hn⟩
  · exact tl z h
end LAWK
/-- the class' world and the answer's cell -/
def wLaw (T : Nat → ClassId) (ad : Nat → Nat → Nat) (K S Fc C D B : Mem) (cu ct : Nat) (hs : hS) (sv : sV) (ou : oB) (ow : va_W) : List va_W := [wXo T (ad 0) (xF ad) (svV sv) K, wSh T (ad 1) S, wSh T (ad 2) Fc, wTe T (ad 4) C, wSb T (ad 5) ou, wAd T (ad 6) D, wAb T (ad 7) B, wHo T (ad 3) cu ct hs, ow, hsL T hs, blk T sv]
/-- the class' answer, as a number of the law's, and the model's -/
def LOK (G : cG) (ad : Nat → Nat → Nat) (fo N : Nat) (fm : Option (Int32 × Mem)) (r : Int32) (w1 : va_W) : Prop := ∃ (K S Fc C D B : Mem) (cu ct : Nat) (hs : hS) (sv : sV) (ou : oB) (M' : Mem) (b : Int32) (f : Nat → Int64), w1 = fl (wLaw G.2.1 ad K S Fc C D B cu ct hs sv ou [(fo, .inl (G.2.1 4, 1, .inr (.inl f)))]) ∧ fm = some (b, M') ∧ M'.1 0 = r ∧ Top (N + 64) K S C cu ct hs sv ou M' ∧ (r = 0 → f 0 = b.toInt64)
theorem updL0 (f : Nat → Int64) (x : Int64) : vp_updL f (Int32.toNatClampNeg 0) x 0 = x := by
  unfold vp_updL
  rw [if_pos (by decide)]

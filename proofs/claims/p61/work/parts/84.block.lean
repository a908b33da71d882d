/-! WORLDS OF BLOCKS: lists of cells side by side, taken and put back by the blocks' places; calls of methods that may throw -/
def fl : List va_W → va_W
  | [] => []
  | [a] => a
  | a :: b :: r => a ++ fl (b :: r)
theorem fl_flatten : ∀ L : List va_W, fl L = L.flatten
  | [] => rfl
  | [a] => by simp [fl]
  | a :: b :: r => by rw [fl, fl_flatten (b :: r)]; simp
theorem fl_perm {L L' : List va_W} (h : L.Perm L') : (fl L).Perm (fl L') := by
  rw [fl_flatten, fl_flatten]
  exact h.flatten
theorem fl_app (L L' : List va_W) : fl (L ++ L') = fl L ++ fl L' := by
  rw [fl_flatten, fl_flatten, fl_flatten, List.flatten_append]
/-- places that are each taken once -/
def pmB (n : Nat) (is : List Nat) : Bool := is.isPerm (List.range n)
theorem range_map' {α : Type} (L : List α) : (List.range L.length).map (fun i => L[i]?) = L.map some := by
  apply List.ext_getElem
  · simp
  · intro i h1 h2
    simp
theorem pm_perm {α : Type} {L L' : List α} {nB : Nat} {is : List Nat} (hn : L.length = nB) (hp : pmB nB is = true) (h : is.map (fun i => L[i]?) = L'.map some) : L.Perm L' := by
  subst hn
  have h1 : is.Perm (List.range L.length) := List.isPerm_iff.mp hp
  have h2 := (h1.map (fun i => L[i]?)).filterMap id
  rw [h, range_map' L] at h2
  simpa [List.filterMap_map, Function.comp_def] using h2.symm
theorem CI.toX {G : cG} {y : MethodName} {b : ByteArray} {n : Nat} {ret : FieldType} {fr lo : Nat} {av : List Value} {w0 w1 : va_W} {r : Int32} (h : CI G y b n ret fr lo av w0 w1 r) : CX G y b n ret fr lo 0 0 av w0 (fun r' w' => r' = r ∧ w' = w1) (fun _ _ => False) := by
  intro l sz hst
  refine MetFree.mono (h l sz) (fun _ _ h => h) (fun _ _ _ _ _ h => h) (fun a st o t _ hq => Or.inl ⟨?_, hq.2⟩)
  obtain ⟨⟨⟨r', u, h1, h2, h3⟩, h4⟩, -⟩ := hq
  exact ⟨⟨r', w1, h1, ⟨h2, rfl⟩, h3⟩, h4⟩
theorem CV.toX {G : cG} {y : MethodName} {b : ByteArray} {n : Nat} {fr lo : Nat} {av : List Value} {w0 w1 : va_W} (h : CV G y b n fr lo av w0 w1) : CXv G y b n fr lo 0 0 av w0 (fun w' => w' = w1) (fun _ _ => False) := by
  intro l sz hst
  refine MetFree.mono (h l sz) (fun _ _ h => h) (fun _ _ _ _ _ h => h) (fun a st o t _ hq => Or.inl ⟨?_, hq.2⟩)
  obtain ⟨⟨⟨u, h1, h2, h3⟩, h4⟩, -⟩ := hq
  exact ⟨⟨w1, h1, rfl, h3⟩, h4⟩
section BLOCK
variable {G : cG} {p : Program} {l : Launch} {e : Env} {R : Room} {s : State} {m : MethodId} {args : Array Value} {below : List Frame} {meth : Method} {c : Code} {H : Heap} {locs : List Loc} {cells slots : Nat} {Q : State → Prop} {cc : ByteArray} {nL : Nat} {own : String} {A : Nat → Prop} {L LC LR L1 L' : List va_W} {w1 : va_W} {pc : Nat} {ls : Array Slot} {rest : List Value}
theorem Wd.spl (w : Wd G A s.heap (fl L) H locs) (nB : Nat) (is : List Nat) (hn : L.length = nB) (hp : pmB nB is = true) (hL : is.map (fun i => L[i]?) = (LC ++ LR).map some) : Wd G A s.heap (fl LC ++ fl LR) H locs := by
  have h := w.perm (fl_perm (pm_perm hn hp hL))
  rw [fl_app] at h
  exact h
theorem Wd.jn (w : Wd G A s.heap (w1 ++ fl LR) H locs) (h1 : w1 = fl L1) (nB : Nat) (is : List Nat) (hn : (L1 ++ LR).length = nB) (hp : pmB nB is = true) (hL : is.map (fun i => (L1 ++ LR)[i]?) = L'.map some) : Wd G A s.heap (fl L') H locs := by
  subst h1
  rw [← fl_app] at w
  exact w.perm (fl_perm (pm_perm hn hp hL))
theorem Wd.re (w : Wd G A s.heap (fl L) H locs) (nB : Nat) (is : List Nat) (hn : L.length = nB) (hp : pmB nB is = true) (hL : is.map (fun i => L[i]?) = L'.map some) : Wd G A s.heap (fl L') H locs := w.perm (fl_perm (pm_perm hn hp hL))
/-- CALL, invokevirtual, an int, over blocks -/
theorem kXi (F : Fx G p s m c cc nL own A) (w : Wd G A s.heap (fl L) H locs) (hst : l.stackTraces = false) {y : MethodName} {b : ByteArray} {n k idx fr lo o ci q0 mc ms : Nat} {ret : FieldType} {As : List Value} {P : Int32 → va_W → Prop} {X : String → va_W → Prop} {fs : List Value} {qc : vw_C}
    (hc : CX G y b n ret fr lo mc ms (.ref o :: As) (fl LC) P X) (Y : YM y b n (some ret) k) (V : YV y) (hl : Cond.methodLink own idx y ∈ lw_tbl)
    (he : (fl L)[q0]? = some (o, .inr (ci, fs))) (hq : vwCl[ci]? = some qc) (hqc : qc.1 = y.cls)
    (nB : Nat) (is : List Nat) (hn : L.length = nB) (hp : pmB nB is = true) (hL : is.map (fun i => L[i]?) = (LC ++ LR).map some)
    (hRm : fr + 1 ≤ R.frames ∧ 8 + (n + 11) + lo ≤ R.locals) (hlen : As.length = k) (hls : ls.size = nL) {st0 : List Value} (hst0 : st0 = As.reverse ++ .ref o :: rest) (hrm : (rest.map fun v => v.category).sum ≤ 8) (hdg : decode cc pc = .ok (.invokevirtual idx, 3)) (hf : cells + mc ≤ R.cells ∧ slots + ms ≤ R.slots)
    (kx : ∀ (E : String) (w1 : va_W) (ce : Cell) (q : Addr) (H1 : Heap) (locs1 : List Loc), X E w1 → Wd G A s.heap (w1 ++ fl LR) H1 locs1 → H1[q]? = some ce → ce.vm = .none → s.vm.findClass E = some ce.cls → vx_W p l e R s m args below meth c H1 locs1 (cells + mc) (slots + ms) Q (F0 m pc ls rest) q)
    (kk : ∀ (r : Int32) (w1 : va_W) (H1 : Heap) (locs1 : List Loc), P r w1 → Wd G A s.heap (w1 ++ fl LR) H1 locs1 → W p l e R s m args below meth c H1 locs1 (cells + mc) (slots + ms) Q (F0 m (pc + 3) ls (.int r :: rest))) : W p l e R s m args below meth c H locs cells slots Q (F0 m pc ls st0) := by
  subst hst0
  have w' := w.spl nB is hn hp hL
  have hFc := Wd.freeF F w'
  refine vx_calli (vx_runV (As := As) (rest := rest) (nL := nL) (Ts := []) ⟨F.x, F.b, F.ml, F.o, fun _ h => nomatch h⟩ (hc l H.size hst) ⟨Y.B F.t (F.t _ hl rfl _) hRm, F.t _ V.1 rfl _, F.t _ V.2 rfl _⟩ ⟨fun a U g mk q => ⟨q.1, PreB.calling F.1 U g mk a q.2⟩, ?_, fun U hU hW => ⟨rfl, F.preF w' hU hW⟩⟩ rfl hlen hls rfl (lv_room hrm) hdg hf) w.2.2 (fun q _ h => hFc q h) hFc (fun q _ h => hFc q h) (fun E ce q9 u t H1 locs1 ht hvm hu hB hz1 hk1 hS hce hcv hcl => ?_) (fun r' u t H1 locs1 ht hvm hw hB hz1 hk1 hS => ?_)
  · have h := va_recv F.K w.1 hq he
    rw [hqc] at h
    exact h
  · obtain ⟨hX, hP1, hD1⟩ := hB
    rw [ht] at hP1
    exact kx E u ce q9 H1 locs1 hX (Wd.backF F w' hk1 hP1 hD1 hS) hce hcv hcl
  · obtain ⟨hP1, hD1⟩ := hB
    rw [ht] at hP1
    exact kk r' u H1 locs1 hw (Wd.backF F w' hk1 hP1 hD1 hS)
/-- .. no answer -/
theorem kXv (F : Fx G p s m c cc nL own A) (w : Wd G A s.heap (fl L) H locs) (hst : l.stackTraces = false) {y : MethodName} {b : ByteArray} {n k idx fr lo o ci q0 mc ms : Nat} {As : List Value} {P : va_W → Prop} {X : String → va_W → Prop} {fs : List Value} {qc : vw_C}
    (hc : CXv G y b n fr lo mc ms (.ref o :: As) (fl LC) P X) (Y : YM y b n none k) (V : YV y) (hl : Cond.methodLink own idx y ∈ lw_tbl)
    (he : (fl L)[q0]? = some (o, .inr (ci, fs))) (hq : vwCl[ci]? = some qc) (hqc : qc.1 = y.cls)
    (nB : Nat) (is : List Nat) (hn : L.length = nB) (hp : pmB nB is = true) (hL : is.map (fun i => L[i]?) = (LC ++ LR).map some)
    (hRm : fr + 1 ≤ R.frames ∧ 8 + (n + 11) + lo ≤ R.locals) (hlen : As.length = k) (hls : ls.size = nL) {st0 : List Value} (hst0 : st0 = As.reverse ++ .ref o :: rest) (hrm : (rest.map fun v => v.category).sum ≤ 8) (hdg : decode cc pc = .ok (.invokevirtual idx, 3)) (hf : cells + mc ≤ R.cells ∧ slots + ms ≤ R.slots)
    (kx : ∀ (E : String) (w1 : va_W) (ce : Cell) (q : Addr) (H1 : Heap) (locs1 : List Loc), X E w1 → Wd G A s.heap (w1 ++ fl LR) H1 locs1 → H1[q]? = some ce → ce.vm = .none → s.vm.findClass E = some ce.cls → vx_W p l e R s m args below meth c H1 locs1 (cells + mc) (slots + ms) Q (F0 m pc ls rest) q)
    (kk : ∀ (w1 : va_W) (H1 : Heap) (locs1 : List Loc), P w1 → Wd G A s.heap (w1 ++ fl LR) H1 locs1 → W p l e R s m args below meth c H1 locs1 (cells + mc) (slots + ms) Q (F0 m (pc + 3) ls rest)) : W p l e R s m args below meth c H locs cells slots Q (F0 m pc ls st0) := by
  subst hst0
  have w' := w.spl nB is hn hp hL
  have hFc := Wd.freeF F w'
  refine vx_callv (vx_runV (As := As) (rest := rest) (nL := nL) (Ts := []) ⟨F.x, F.b, F.ml, F.o, fun _ h => nomatch h⟩ (hc l H.size hst) ⟨Y.B F.t (F.t _ hl rfl _) hRm, F.t _ V.1 rfl _, F.t _ V.2 rfl _⟩ ⟨fun a U g mk q => ⟨q.1, PreB.calling F.1 U g mk a q.2⟩, ?_, fun U hU hW => ⟨rfl, F.preF w' hU hW⟩⟩ rfl hlen hls rfl (lv_room hrm) hdg hf) w.2.2 (fun q _ h => hFc q h) hFc (fun q _ h => hFc q h) (fun E ce q9 u t H1 locs1 ht hvm hu hB hz1 hk1 hS hce hcv hcl => ?_) (fun u t H1 locs1 ht hvm hw hB hz1 hk1 hS => ?_)
  · have h := va_recv F.K w.1 hq he
    rw [hqc] at h
    exact h
  · obtain ⟨hX, hP1, hD1⟩ := hB
    rw [ht] at hP1
    exact kx E u ce q9 H1 locs1 hX (Wd.backF F w' hk1 hP1 hD1 hS) hce hcv hcl
  · obtain ⟨hP1, hD1⟩ := hB
    rw [ht] at hP1
    exact kk u H1 locs1 hw (Wd.backF F w' hk1 hP1 hD1 hS)
/-- CALL, invokestatic of the own class, no answer, no cell used -/
theorem kXSv (F : Fx G p s m c cc nL own A) (w : Wd G A s.heap (fl L) H locs) (hst : l.stackTraces = false) {y : MethodName} {b : ByteArray} {n k idx fr lo mc ms : Nat} {As : List Value} {P : va_W → Prop} {X : String → va_W → Prop}
    (hc : CXv G y b n fr lo mc ms As [] P X) (Y : YM y b n none k) (V : YS y) (hl : Cond.methodLink own idx y ∈ lw_tbl)
    (hRm : fr + 1 ≤ R.frames ∧ 8 + (n + 11) + lo ≤ R.locals) (hlen : As.length = k) (hls : ls.size = nL) {st0 : List Value} (hst0 : st0 = As.reverse ++ rest) (hrm : (rest.map fun v => v.category).sum ≤ 8) (hdg : decode cc pc = .ok (.invokestatic idx, 3)) (hf : cells + mc ≤ R.cells ∧ slots + ms ≤ R.slots)
    (kx : ∀ (E : String) (w1 : va_W) (ce : Cell) (q : Addr) (H1 : Heap) (locs1 : List Loc), X E w1 → Wd G A s.heap (w1 ++ fl L) H1 locs1 → H1[q]? = some ce → ce.vm = .none → s.vm.findClass E = some ce.cls → vx_W p l e R s m args below meth c H1 locs1 (cells + mc) (slots + ms) Q (F0 m pc ls rest) q)
    (kk : ∀ (w1 : va_W) (H1 : Heap) (locs1 : List Loc), P w1 → Wd G A s.heap (w1 ++ fl L) H1 locs1 → W p l e R s m args below meth c H1 locs1 (cells + mc) (slots + ms) Q (F0 m (pc + 3) ls rest)) : W p l e R s m args below meth c H locs cells slots Q (F0 m pc ls st0) := by
  subst hst0
  have w' : Wd G A s.heap (([] : va_W) ++ fl L) H locs := w
  have hFc := Wd.freeF F w'
  refine vx_callv (vx_runS (As := As) (rest := rest) (nL := nL) (Ts := []) ⟨F.x, F.b, F.ml, F.o, fun _ h => nomatch h⟩ (hc l H.size hst) ⟨Y.B F.t (F.t _ hl rfl _) hRm, F.t _ V rfl _⟩ ⟨fun a U g mk q => ⟨q.1, PreB.calling F.1 U g mk a q.2⟩, fun U hU hW => ⟨rfl, F.preF w' hU hW⟩⟩ rfl hlen hls rfl (lv_room hrm) hdg hf) w.2.2 (fun q _ h => hFc q h) hFc (fun q _ h => hFc q h) (fun E ce q9 u t H1 locs1 ht hvm hu hB hz1 hk1 hS hce hcv hcl => ?_) (fun u t H1 locs1 ht hvm hw hB hz1 hk1 hS => ?_)
  · obtain ⟨hX, hP1, hD1⟩ := hB
    rw [ht] at hP1
    exact kx E u ce q9 H1 locs1 hX (Wd.backF F w' hk1 hP1 hD1 hS) hce hcv hcl
  · obtain ⟨hP1, hD1⟩ := hB
    rw [ht] at hP1
    exact kk u H1 locs1 hw (Wd.backF F w' hk1 hP1 hD1 hS)
end BLOCK

/-- CONTRACT of a constructor: it makes cells, throws nothing -/
def CN (G : cG) (y : MethodName) (b : ByteArray) (n : Nat) (fr lo mc ms : Nat) (av : List Value) (w0 : va_W) (P : va_W → Prop) : Prop :=
  ∀ (l : Launch) (sz : Nat), Met l y (wy y b n none) { frames := fr, cells := mc, slots := ms, locals := lo } (va_Pc av (PreB G sz w0)) (va_Qv P (fun w1 t => PosB G sz w0 w1 t) (va_A w0 sz)) mc ms (va_A w0 sz)
abbrev QN (G : cG) (A : Nat → Prop) (P : va_W → Prop) (mc ms : Nat) (below : List Frame) (args : Array Value) (s : State) : State → Prop := MQ below (va_Qv P (fun w1 t => va_P G.1 vwCl w1 t.heap ∧ va_D A w1) A) args s mc ms A
theorem CN.of {G : cG} (g : GOK G) {y : MethodName} {b : ByteArray} {n : Nat} {fr lo mc ms : Nat} {av : List Value} {w0 : va_W} {P : va_W → Prop} {own : String} (hp : plainName y.cls = true) (hown : y.cls = own) (hn : (lg_sl av).length ≤ n)
    (body : ∀ (p : Program) (l : Launch) (e : Env) (s : State) (m : MethodId) (below : List Frame) (meth : Method) (c : Code) (A : Nat → Prop) (ls : Array Slot), meth.name = y.name → Fx G p s m c b n own A → meth.sig.returnType = none → meth.locks = false → Wd G A s.heap w0 s.heap [] → lv_has ls n (lv_args 0 av) →
      W p l e { frames := fr, cells := mc, slots := ms, locals := lo } s m av.toArray below meth c s.heap [] 0 0 (QN G A P mc ms below av.toArray s) (F0 m 0 ls [])) : CN G y b n fr lo mc ms av w0 P := by
  intro l sz
  refine Met.ofW (cc := b) (maxL := n) (ret := none) hp rfl ?_
  intro p e s m args below meth c s₁ B hml hv
  obtain ⟨rfl, hK, hz, hsz, hP, hD0⟩ := hv
  have hnm : s.vm.findClass y.cls = some m.cls := findClass_of_methodNamed B.named
  have hin : meth.name = y.name := (name_of_methodNamed B.named B.method).1
  subst hsz
  have hD := hD0.self (sz := s.heap.size)
  have hzz : ∀ q, va_A w0 s.heap.size q → G.2.2.1 ≤ q := fun q h => h.elim (fun ⟨k, e, h1⟩ => hD0.2 k _ h1) (fun h1 => Nat.le_trans hz h1)
  have hAA : ∀ q, s.heap.size ≤ q → va_A w0 s.heap.size q := fun q h => Or.inr h
  have hl := lv_entry av (n := n) hn
  rw [lg_entry_eq]
  exact body p l e s m below meth c _ _ hin ⟨g, B.exec, B.bytes, hml, by rw [← hown]; exact hnm, hK, hz, hAA, hzz⟩ B.returns B.notSynchronized ⟨hP, hD, va_S.rf⟩ hl
theorem va_RA.one {U : State} {c1 c2 : ClassId} {ty : FieldType} (h1 : va_RA U c1 ty) (h2 : va_RA U c2 ty) : c1 = c2 := by
  cases ty with
  | object C =>
    obtain ⟨-, -, -, -, -, e1⟩ := h1
    obtain ⟨-, -, -, -, -, e2⟩ := h2
    exact Option.some.inj (e1.symm.trans e2)
  | _ => exact Option.some.inj (Eq.trans (Eq.symm h1) h2)
section CONS
variable {G : cG} {p : Program} {l : Launch} {e : Env} {R : Room} {s : State} {m : MethodId} {args : Array Value} {below : List Frame} {meth : Method} {c : Code} {H : Heap} {locs : List Loc} {cells slots : Nat} {Q : State → Prop} {cc : ByteArray} {nL : Nat} {own : String} {A : Nat → Prop} {L LC LR L1 L' : List va_W} {ws ws' w1 : va_W} {pc : Nat} {ls : Array Slot} {rest : List Value} {a : Nat}
theorem evN (F : Fx G p s m c cc nL own A) (w : Wd G A s.heap ws H locs) {P : va_W → Prop} (hr : meth.sig.returnType = none) (hlocks : meth.locks = false) {mc ms : Nat} (h : P ws) (hc : cells ≤ mc) (hs : slots ≤ ms) (hdg : decode cc pc = .ok (.return_, 1)) : W p l e R s m args below meth c H locs cells slots (QN G A P mc ms below args s) (F0 m pc ls []) :=
  W.widen hc hs (W.vret F.x F.b hr (fun t ht hW => ⟨⟨ws, rfl, h, by rw [ht]; exact w.1, w.2.1⟩, w.2.2.F ht⟩) w.2.2.2.2 hdg hlocks)
/-- newarray -/
theorem rnA (F : Fx G p s m c cc nL own A) (w : Wd G A s.heap (fl L) H locs) {atype : ArrayType} {ty : FieldType} {cA0 : ClassId} (t0 : Nat) (ht : (tyL G.2.1)[t0]? = some (cA0, ty)) (harr : Cond.arrayClass (Jvm.Op.newarray.typeOf atype) ∈ lw_tbl) (hk : kw (Cond.arrayClass (Jvm.Op.newarray.typeOf atype)) = true) (hty : Jvm.Op.newarray.typeOf atype = ty)
    {n : Int32} {N' : Nat} (a0 : vp_A) (ha : ∀ cA : ClassId, vp_cell cA a0 = arrV cA N' (fun _ => defaultValue ty)) (hn : ¬ n < 0) (hN : n.toNatClampNeg = N') (hbytes : N' * componentBytes ty ≤ 536870912) (hcells : cells + 1 ≤ R.cells) (hslots : slots + N' ≤ R.slots) (hdg : decode cc pc = .ok (.newarray atype, 2))
    (kk : ∀ (q : Nat) (H1 : Heap), Wd G A s.heap (fl (L ++ [[(q, .inl (cA0, a0))]])) H1 locs → W p l e R s m args below meth c H1 locs (cells + 1) (slots + N') Q (F0 m (pc + 2) ls (.ref q :: rest))) : W p l e R s m args below meth c H locs cells slots Q (F0 m pc ls (.int n :: rest)) := by
  refine va_newa F.x F.b (F.t _ harr hk _) hty F.K w.1 w.2.1 w.2.2 F.fA ha hn hN hbytes hcells hslots hdg (fun q cA H1 hK hP hD hS => ?_)
  have h1 := (hK.2 7 (cA, ty) rfl).2
  have h2 := (F.K.2 t0 _ ht).2
  have h3 := va_RA.one h1 h2
  simp only at h3
  subst h3
  exact kk q H1 (by rw [fl_app]; exact ⟨hP, hD, hS⟩)
/-- anewarray of the class' states -/
theorem rnQ (F : Fx G p s m c cc nL own A) (w : Wd G A s.heap (fl L) H locs) {index : Nat} {C : String} {cA0 : ClassId} (t0 : Nat) (ht : (tyL G.2.1)[t0]? = some (cA0, .object C)) (hcl : Cond.classLink own index C ∈ lw_tbl) (hov : va_AO C s)
    {n : Int32} {N' : Nat} (hn : ¬ n < 0) (hN : n.toNatClampNeg = N') (hbytes : N' * 4 ≤ 536870912) (hcells : cells + 1 ≤ R.cells) (hslots : slots + N' ≤ R.slots) (hdg : decode cc pc = .ok (.anewarray index, 3))
    (kk : ∀ (q : Nat) (H1 : Heap), Wd G A s.heap (fl (L ++ [[(q, .inl (cA0, N', .inr (.inr (.inr (.inr (fun _ => none))))))]])) H1 locs → W p l e R s m args below meth c H1 locs (cells + 1) (slots + N') Q (F0 m (pc + 3) ls (.ref q :: rest))) : W p l e R s m args below meth c H locs cells slots Q (F0 m pc ls (.int n :: rest)) := by
  refine va_newq F.x F.b F.o (F.t _ hcl rfl _) hov F.K w.1 w.2.1 w.2.2 F.fA hn hN hbytes hcells hslots hdg (fun q cA H1 hK hP hD hS => ?_)
  have h1 := (hK.2 7 (cA, .object C) rfl).2
  have h2 := (F.K.2 t0 _ ht).2
  have h3 := va_RA.one h1 h2
  simp only at h3
  subst h3
  exact kk q H1 (by rw [fl_app]; exact ⟨hP, hD, hS⟩)
/-- new -/
theorem rn (F : Fx G p s m c cc nL own A) (w : Wd G A s.heap (fl L) H locs) {ci N index : Nat} {C : String} {T : u_T} {ty : Nat → FieldType} (hc : CL ci C T N ty) (hcl : Cond.classLink own index C ∈ lw_tbl) (hinst : Cond.instantiable C N ∈ lw_tbl) (hini : Cond.initialized C ∈ lw_tbl) (fs : List Value) (hfs : ∀ j, j < N → defaultValue (ty j) = vp_V fs j) (hcells : cells + 1 ≤ R.cells) (hslots : slots + N ≤ R.slots) (hdg : decode cc pc = .ok (.new index, 3))
    (kk : ∀ (q : Nat) (H1 : Heap), Wd G A s.heap (fl (L ++ [[(q, .inr (ci, fs))]])) H1 locs → W p l e R s m args below meth c H1 locs (cells + 1) (slots + N) Q (F0 m (pc + 3) ls (.ref q :: rest))) : W p l e R s m args below meth c H locs cells slots Q (F0 m pc ls rest) :=
  va_new F.x F.b (hc.2.1.ts F) (fun _ h => h) ty hc.2.2.1 F.o (F.t _ hcl rfl _) (F.t _ hinst rfl _) (F.t _ hini rfl _) F.K w.1 w.2.1 w.2.2 F.fA hc.1 hfs hcells hslots hdg (fun q H1 hP hD hS => kk q H1 (by rw [fl_app]; exact ⟨hP, hD, hS⟩))
/-- putfield of a final field -/
theorem rpF (F : Fx G p s m c cc nL own A) (w : Wd G A s.heap ws H locs) {ci N idx : Nat} {C ref : String} {T : u_T} {ty : Nat → FieldType} (hc : CL ci C T N ty) (q0 : Nat) {fs : List Value} (he : ws[q0]? = some (a, .inr (ci, fs))) (k : Nat) (hk : k < N) (hl : Cond.fieldLink own idx ref (T k).2.1 (T k).2.2.1 ∈ lw_tbl) (hs : (T k).1 = ref) (hfin : (T k).2.2.2 = true) (hin2 : meth.name = "<init>") (hdecl : (T k).1 = own) {v : Value} (hn : narrow (ty k) v = v) (hfit : fits (ty k) v = true) (hlen : k < fs.length) (hws : ws.set q0 (a, .inr (ci, fs.set k v)) = ws') (hdg : decode cc pc = .ok (.putfield idx, 3))
    (kk : ∀ (H1 : Heap) (locs1 : List Loc), Wd G A s.heap ws' H1 locs1 → W p l e R s m args below meth c H1 locs1 cells slots Q (F0 m (pc + 3) ls rest)) : W p l e R s m args below meth c H locs cells slots Q (F0 m pc ls (v :: .ref a :: rest)) :=
  va_putF F.x F.b (hc.2.1.ts F) (fun _ h => h) ty hc.2.2.1 hc.2.2.2 F.o F.K w.1 w.2.1 w.2.2 q0 he hc.1 k hk (F.t _ hl rfl _) (fun _ h => by rw [← hs]; exact h) hfin hin2 hdecl (hc.2.2.1 k hk) hn hfit hlen hdg (fun H1 locs1 h1 h2 h3 => kk H1 locs1 (by rw [← hws]; exact ⟨h1, h2, h3⟩))
/-- Object's constructor -/
theorem roI (F : Fx G p s m c cc nL own A) {idx : Nat} (hl : Cond.methodLink own idx Lib.objectInit ∈ lw_tbl) (hi : Cond.instanceMethod Lib.objectInit ∈ lw_tbl) (hcd : Cond.code Lib.objectInit ⟨#[0xb1]⟩ 1 none ∈ lw_tbl) (hk : kw (Cond.code Lib.objectInit ⟨#[0xb1]⟩ 1 none) = true) (hsize : ls.size = nL) (hrm : 1 ≤ R.frames ∧ (rest.map fun v => v.category).sum + 12 ≤ R.locals) (hdg : decode cc pc = .ok (.invokespecial idx, 3))
    (kk : W p l e R s m args below meth c H locs cells slots Q (F0 m (pc + 3) ls rest)) : W p l e R s m args below meth c H locs cells slots Q (F0 m pc ls (.ref a :: rest)) :=
  W.objInit F.x F.b F.o (F.t _ hl rfl _) (F.t _ hi rfl _) (F.t _ hcd hk _) (g := F0 m pc ls (.ref a :: rest)) rfl (by rw [← F.ml] at hsize; exact hsize) rfl hdg hrm.1 (by have := hrm.2; simp only [JFrame.monitorRoom]; first | omega | (simp; omega)) kk
/-- CALL of a constructor, of a nest mate -/
theorem kCN (F : Fx G p s m c cc nL own A) (w : Wd G A s.heap (fl L) H locs) {y : MethodName} {b : ByteArray} {n k idx fr lo o mc ms : Nat} {host : String} {As : List Value} {P : va_W → Prop}
    (hc : CN G y b n fr lo mc ms (.ref o :: As) (fl LC) P) (Y : YM y b n none k) (hin : Cond.instanceMethod y ∈ lw_tbl) (hy1 : y.name = "<init>") (hl : Cond.methodLinkNest own idx y host ∈ lw_tbl)
    (nB : Nat) (is : List Nat) (hn : L.length = nB) (hp : pmB nB is = true) (hL : is.map (fun i => L[i]?) = (LC ++ LR).map some)
    (hRm : fr + 1 ≤ R.frames ∧ 8 + (n + 11) + lo ≤ R.locals) (hlen : As.length = k) (hls : ls.size = nL) {st0 : List Value} (hst0 : st0 = As.reverse ++ .ref o :: rest) (hrm : (rest.map fun v => v.category).sum ≤ 8) (hdg : decode cc pc = .ok (.invokespecial idx, 3)) (hf : cells + mc ≤ R.cells ∧ slots + ms ≤ R.slots)
    (kk : ∀ (w1 : va_W) (H1 : Heap) (locs1 : List Loc), P w1 → Wd G A s.heap (w1 ++ fl LR) H1 locs1 → W p l e R s m args below meth c H1 locs1 (cells + mc) (slots + ms) Q (F0 m (pc + 3) ls rest)) : W p l e R s m args below meth c H locs cells slots Q (F0 m pc ls st0) := by
  subst hst0
  have w' := w.spl nB is hn hp hL
  have hFc := Wd.freeF F w'
  obtain ⟨⟨h1, h2⟩, h3, h4, h5⟩ := Y
  have cw : va_CN R s args own idx y host b n none (wy y b n none) { frames := fr, cells := mc, slots := ms, locals := lo } mc ms k := by
    refine ⟨⟨rfl, rfl, hRm.1, hRm.2, fun w hw a' U hW => ?_, List.mem_singleton.mpr rfl⟩, F.t _ h1 (by simp [kw, h2]) _, F.t _ h3 rfl _, h4, fun sig h => ?_, F.t _ hl rfl _⟩
    · rw [List.mem_singleton.mp hw]
      exact (F.t.warm hW) _ h1 (by simp [kw, h2]) _
    · rw [h] at h5
      exact (Option.some.inj h5).symm
  refine va_callv (va_runIN (As := As) (rest := rest) (nL := nL) (Ts := []) ⟨F.x, F.b, F.ml, F.o, fun _ h => nomatch h⟩ (hc l H.size) ⟨cw, hy1, F.t _ hin rfl _⟩ ⟨fun a U g mk q => ⟨q.1, PreB.calling F.1 U g mk a q.2⟩, fun U hU hW => ⟨rfl, F.preF w' hU hW⟩⟩ rfl hlen hls rfl (lv_room hrm) hdg hf) w.2.2 (fun q _ h => hFc q h) hFc (fun u t H1 locs1 ht hvm hw hB hz1 hk1 hS => ?_)
  obtain ⟨hP1, hD1⟩ := hB
  rw [ht] at hP1
  exact kk u H1 locs1 hw (Wd.backF F w' hk1 hP1 hD1 hS)
/-- .. of another class -/
theorem kCI (F : Fx G p s m c cc nL own A) (w : Wd G A s.heap (fl L) H locs) {y : MethodName} {b : ByteArray} {n k idx fr lo o mc ms : Nat} {As : List Value} {P : va_W → Prop}
    (hc : CN G y b n fr lo mc ms (.ref o :: As) (fl LC) P) (Y : YM y b n none k) (hin : Cond.instanceMethod y ∈ lw_tbl) (hy1 : y.name = "<init>") (hl : Cond.methodLink own idx y ∈ lw_tbl)
    (nB : Nat) (is : List Nat) (hn : L.length = nB) (hp : pmB nB is = true) (hL : is.map (fun i => L[i]?) = (LC ++ LR).map some)
    (hRm : fr + 1 ≤ R.frames ∧ 8 + (n + 11) + lo ≤ R.locals) (hlen : As.length = k) (hls : ls.size = nL) {st0 : List Value} (hst0 : st0 = As.reverse ++ .ref o :: rest) (hrm : (rest.map fun v => v.category).sum ≤ 8) (hdg : decode cc pc = .ok (.invokespecial idx, 3)) (hf : cells + mc ≤ R.cells ∧ slots + ms ≤ R.slots)
    (kk : ∀ (w1 : va_W) (H1 : Heap) (locs1 : List Loc), P w1 → Wd G A s.heap (w1 ++ fl LR) H1 locs1 → W p l e R s m args below meth c H1 locs1 (cells + mc) (slots + ms) Q (F0 m (pc + 3) ls rest)) : W p l e R s m args below meth c H locs cells slots Q (F0 m pc ls st0) := by
  subst hst0
  have w' := w.spl nB is hn hp hL
  have hFc := Wd.freeF F w'
  refine va_callv (va_runI (As := As) (rest := rest) (nL := nL) (Ts := []) ⟨F.x, F.b, F.ml, F.o, fun _ h => nomatch h⟩ (hc l H.size) ⟨Y.B F.t (F.t _ hl rfl _) hRm, hy1, F.t _ hin rfl _⟩ ⟨fun a U g mk q => ⟨q.1, PreB.calling F.1 U g mk a q.2⟩, fun U hU hW => ⟨rfl, F.preF w' hU hW⟩⟩ rfl hlen hls rfl (lv_room hrm) hdg hf) w.2.2 (fun q _ h => hFc q h) hFc (fun u t H1 locs1 ht hvm hw hB hz1 hk1 hS => ?_)
  obtain ⟨hP1, hD1⟩ := hB
  rw [ht] at hP1
  exact kk u H1 locs1 hw (Wd.backF F w' hk1 hP1 hD1 hS)
end CONS

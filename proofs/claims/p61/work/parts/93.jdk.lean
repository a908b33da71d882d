/-! CALLS inside the JDK's text builder: inherited, of the class above, static over cells; contracts with an address as the answer -/
def CRm (G : cG) (y : MethodName) (b : ByteArray) (n : Nat) (ret : FieldType) (fr lo mc ms : Nat) (av : List Value) (w0 : va_W) (P : Nat → va_W → Prop) : Prop :=
  ∀ (l : Launch) (sz : Nat), Met l y (wy y b n (some ret)) { frames := fr, cells := mc, slots := ms, locals := lo } (va_Pc av (PreB G sz w0)) (va_Qr (fun (_ : va_W) => True) (fun w1 a t => P a w1 ∧ PosB G sz w0 w1 t) (va_A w0 sz)) mc ms (va_A w0 sz)
abbrev QRm (G : cG) (A : Nat → Prop) (P : Nat → va_W → Prop) (mc ms : Nat) (below : List Frame) (args : Array Value) (s : State) : State → Prop := MQ below (va_Qr (fun (_ : va_W) => True) (fun w1 a t => P a w1 ∧ va_P G.1 vwCl w1 t.heap ∧ va_D A w1) A) args s mc ms A
theorem CRm.of {G : cG} (g : GOK G) {y : MethodName} {b : ByteArray} {n : Nat} {ret : FieldType} {fr lo mc ms : Nat} {av : List Value} {w0 : va_W} {P : Nat → va_W → Prop} {own : String} (hp : plainName y.cls = true) (hown : y.cls = own) (hn : (lg_sl av).length ≤ n)
    (body : ∀ (p : Program) (l : Launch) (e : Env) (s : State) (m : MethodId) (below : List Frame) (meth : Method) (c : Code) (A : Nat → Prop) (ls : Array Slot), Fx G p s m c b n own A → meth.sig.returnType = some ret → meth.locks = false → Wd G A s.heap w0 s.heap [] → lv_has ls n (lv_args 0 av) →
      W p l e { frames := fr, cells := mc, slots := ms, locals := lo } s m av.toArray below meth c s.heap [] 0 0 (QRm G A P mc ms below av.toArray s) (F0 m 0 ls [])) : CRm G y b n ret fr lo mc ms av w0 P := by
  intro l sz
  refine Met.ofW (cc := b) (maxL := n) (ret := some ret) hp rfl ?_
  intro p e s m args below meth c s₁ B hml hv
  obtain ⟨rfl, hK, hz, hsz, hP, hD0⟩ := hv
  have hnm : s.vm.findClass y.cls = some m.cls := findClass_of_methodNamed B.named
  subst hsz
  have hD := hD0.self (sz := s.heap.size)
  have hzz : ∀ q, va_A w0 s.heap.size q → G.2.2.1 ≤ q := fun q h => h.elim (fun ⟨k, e, h1⟩ => hD0.2 k _ h1) (fun h1 => Nat.le_trans hz h1)
  have hAA : ∀ q, s.heap.size ≤ q → va_A w0 s.heap.size q := fun q h => Or.inr h
  have hl := lv_entry av (n := n) hn
  rw [lg_entry_eq]
  exact body p l e s m below meth c _ _ ⟨g, B.exec, B.bytes, hml, by rw [← hown]; exact hnm, hK, hz, hAA, hzz⟩ B.returns B.notSynchronized ⟨hP, hD, va_S.rf⟩ hl
section JDKC
variable {G : cG} {p : Program} {l : Launch} {e : Env} {R : Room} {s : State} {m : MethodId} {args : Array Value} {below : List Frame} {meth : Method} {c : Code} {H : Heap} {locs : List Loc} {cells slots : Nat} {Q : State → Prop} {cc : ByteArray} {nL : Nat} {own : String} {A : Nat → Prop} {L LC LR L1 L' : List va_W} {ws w1 : va_W} {pc : Nat} {ls : Array Slot} {rest st0 : List Value} {mc ms : Nat} {aa : Array Value}
theorem Wd.drop (w : Wd G A s.heap (fl (L ++ L')) H locs) : Wd G A s.heap (fl L) H locs := by
  rw [fl_app] at w
  refine ⟨fun k q hk => w.1 k q ?_, ⟨fun i j p q hi hj => w.2.1.1 i j p q ?_ ?_, fun k q hk => w.2.1.2 k q ?_⟩, w.2.2⟩ <;> (rw [List.getElem?_append_left (List.getElem?_eq_some_iff.mp (by assumption)).1]; assumption)
theorem eRm (F : Fx G p s m c cc nL own A) (w : Wd G A s.heap ws H locs) {P : Nat → va_W → Prop} {n : String} (hr : meth.sig.returnType = some (.object n) ∨ meth.sig.returnType = some (.array .byte)) (hlocks : meth.locks = false) {a : Nat} (h : P a ws) (hc : cells ≤ mc) (hs : slots ≤ ms) (hdg : decode cc pc = .ok (.areturn, 1)) : W p l e R s m args below meth c H locs cells slots (QRm G A P mc ms below args s) (F0 m pc ls [.ref a]) := by
  rcases hr with hr | hr
  · exact W.widen hc hs (W.aret F.x F.b hr (Or.inl ⟨n, rfl⟩) (Or.inr ⟨a, rfl⟩) (fun t ht hW => ⟨⟨ws, a, rfl, trivial, h, by rw [ht]; exact w.1, w.2.1⟩, w.2.2.F ht⟩) w.2.2.2.2 hdg hlocks)
  · exact W.widen hc hs (W.aret F.x F.b hr (Or.inr ⟨_, rfl⟩) (Or.inr ⟨a, rfl⟩) (fun t ht hW => ⟨⟨ws, a, rfl, trivial, h, by rw [ht]; exact w.1, w.2.1⟩, w.2.2.F ht⟩) w.2.2.2.2 hdg hlocks)
/-- out of a run of the callee -/
theorem runI (F : Fx G p s m c cc nL own A) (w : Wd G A s.heap (fl LC ++ fl LR) H locs) {r : Int32} (hr : va_Run p l e R s m args below meth c H locs cells slots mc ms (F0 m pc ls st0) rest (va_Qi (fun (r' : Int32) (_ : Unit) => r' = r) (fun _ t => PosB G H.size (fl LC) w1 t) (va_A (fl LC) H.size) aa) (va_A (fl LC) H.size))
    (kk : ∀ (H1 : Heap) (locs1 : List Loc), Wd G A s.heap (w1 ++ fl LR) H1 locs1 → W p l e R s m args below meth c H1 locs1 (cells + mc) (slots + ms) Q (F0 m (pc + 3) ls (.int r :: rest))) : W p l e R s m args below meth c H locs cells slots Q (F0 m pc ls st0) := by
  have hFc := Wd.freeF F w
  refine va_calli hr w.2.2 (fun q _ h => hFc q h) hFc (fun r' u t H1 locs1 ht hvm hw hB hz1 hk1 hS => ?_)
  subst hw
  obtain ⟨hP1, hD1⟩ := hB
  rw [ht] at hP1
  exact kk H1 locs1 (Wd.backF F w hk1 hP1 hD1 hS)
theorem runV (F : Fx G p s m c cc nL own A) (w : Wd G A s.heap (fl LC ++ fl LR) H locs) {P : va_W → Prop} (hr : va_Run p l e R s m args below meth c H locs cells slots mc ms (F0 m pc ls st0) rest (va_Qv P (fun w1 t => PosB G H.size (fl LC) w1 t) (va_A (fl LC) H.size) aa) (va_A (fl LC) H.size))
    (kk : ∀ (w1 : va_W) (H1 : Heap) (locs1 : List Loc), P w1 → Wd G A s.heap (w1 ++ fl LR) H1 locs1 → W p l e R s m args below meth c H1 locs1 (cells + mc) (slots + ms) Q (F0 m (pc + 3) ls rest)) : W p l e R s m args below meth c H locs cells slots Q (F0 m pc ls st0) := by
  have hFc := Wd.freeF F w
  refine va_callv hr w.2.2 (fun q _ h => hFc q h) hFc (fun u t H1 locs1 ht hvm hw hB hz1 hk1 hS => ?_)
  obtain ⟨hP1, hD1⟩ := hB
  rw [ht] at hP1
  exact kk u H1 locs1 hw (Wd.backF F w hk1 hP1 hD1 hS)
theorem runR (F : Fx G p s m c cc nL own A) (w : Wd G A s.heap (fl LC ++ fl LR) H locs) {P : Nat → va_W → Prop} (hr : va_Run p l e R s m args below meth c H locs cells slots mc ms (F0 m pc ls st0) rest (va_Qr (fun (_ : va_W) => True) (fun w1 a t => P a w1 ∧ PosB G H.size (fl LC) w1 t) (va_A (fl LC) H.size) aa) (va_A (fl LC) H.size))
    (kk : ∀ (a : Nat) (w1 : va_W) (H1 : Heap) (locs1 : List Loc), P a w1 → Wd G A s.heap (w1 ++ fl LR) H1 locs1 → W p l e R s m args below meth c H1 locs1 (cells + mc) (slots + ms) Q (F0 m (pc + 3) ls (.ref a :: rest))) : W p l e R s m args below meth c H locs cells slots Q (F0 m pc ls st0) := by
  have hFc := Wd.freeF F w
  refine va_callr hr w.2.2 (fun q _ h => hFc q h) hFc (fun u a t H1 locs1 ht hvm hw hB hz1 hk1 hS => ?_)
  obtain ⟨hp, hP1, hD1⟩ := hB
  rw [ht] at hP1
  exact kk a u H1 locs1 hp (Wd.backF F w hk1 hP1 hD1 hS)
/-- what an inherited call asks -/
theorem cwUx (F : Fx G p s m c cc nL own A) {y : MethodName} {b : ByteArray} {n k idx fr lo : Nat} {ret : Option FieldType} {C : String} (Y : YM y b n ret k) (hin : Cond.instanceMethod y ∈ lw_tbl) (hl : Cond.methodLink own idx y ∈ lw_tbl) (hs : Cond.sameMethod y.cls y.cls y.name y.desc ∈ lw_tbl) (hsel : (Cond.selects C y y).before args s = true) (hRm : fr + 1 ≤ R.frames ∧ 8 + (n + 11) + lo ≤ R.locals) :
    va_CU R s args own C y.cls idx y y b n ret (wy y b n ret) { frames := fr, cells := mc, slots := ms, locals := lo } mc ms k := by
  obtain ⟨⟨h1, h2⟩, h3, h4, h5⟩ := Y
  refine ⟨⟨rfl, rfl, hRm.1, hRm.2, fun w hw a' U hW => ?_, List.mem_singleton.mpr rfl⟩, F.t _ h1 (by simp [kw, h2]) _, F.t _ h3 rfl _, h4, fun sig h => ?_, F.t _ hl rfl _, F.t _ hs rfl _, va_Decl.of (F.t _ hin rfl args) (F.t _ h1 (by simp [kw, h2]) args), hsel, F.t _ hin rfl _⟩
  · rw [List.mem_singleton.mp hw]
    exact (F.t.warm hW) _ h1 (by simp [kw, h2]) _
  · rw [h] at h5
    exact (Option.some.inj h5).symm
/-- what a call of the class above asks -/
theorem cwSx (F : Fx G p s m c cc nL own A) {y : MethodName} {b : ByteArray} {n k idx fr lo : Nat} {ret : Option FieldType} (Y : YM y b n ret k) (hin : Cond.instanceMethod y ∈ lw_tbl) (hl : Cond.methodLink own idx y ∈ lw_tbl) (hs : Cond.sameMethod y.cls y.cls y.name y.desc ∈ lw_tbl) (hsup : Cond.superclass own y.cls ∈ lw_tbl) (hno : y.name ≠ "<init>") (hRm : fr + 1 ≤ R.frames ∧ 8 + (n + 11) + lo ≤ R.locals) :
    va_CS R s args own idx y b n ret (wy y b n ret) { frames := fr, cells := mc, slots := ms, locals := lo } mc ms k := by
  obtain ⟨⟨h1, h2⟩, h3, h4, h5⟩ := Y
  refine ⟨⟨rfl, rfl, hRm.1, hRm.2, fun w hw a' U hW => ?_, List.mem_singleton.mpr rfl⟩, F.t _ hl rfl _, F.t _ hs rfl _, F.t _ hsup rfl _, F.t _ hin rfl _, F.t _ h3 rfl _, F.t _ h1 (by simp [kw, h2]) _, hno, fun sig h => ?_⟩
  · rw [List.mem_singleton.mp hw]
    exact (F.t.warm hW) _ h1 (by simp [kw, h2]) _
  · rw [h] at h5
    exact (Option.some.inj h5).symm
/-- INHERITED, an int -/
theorem kUi (F : Fx G p s m c cc nL own A) (w : Wd G A s.heap (fl L) H locs) {y : MethodName} {b : ByteArray} {n k idx fr lo o ci q0 : Nat} {ret : FieldType} {As : List Value} {r : Int32} {fs : List Value} {qc : vw_C}
    (hc : CI G y b n ret fr lo (.ref o :: As) (fl LC) w1 r) (Y : YM y b n (some ret) k) (hin : Cond.instanceMethod y ∈ lw_tbl) (hl : Cond.methodLink own idx y ∈ lw_tbl) (hs : Cond.sameMethod y.cls y.cls y.name y.desc ∈ lw_tbl)
    (he : (fl L)[q0]? = some (o, .inr (ci, fs))) (hq : vwCl[ci]? = some qc) (hsel : (Cond.selects qc.1 y y).before args s = true)
    (nB : Nat) (is : List Nat) (hn : L.length = nB) (hp : pmB nB is = true) (hL : is.map (fun i => L[i]?) = (LC ++ LR).map some)
    (hRm : fr + 1 ≤ R.frames ∧ 8 + (n + 11) + lo ≤ R.locals) (hlen : As.length = k) (hls : ls.size = nL) {st0 : List Value} (hst0 : st0 = As.reverse ++ .ref o :: rest) (hrm : (rest.map fun v => v.category).sum ≤ 8) (hdg : decode cc pc = .ok (.invokevirtual idx, 3)) (hf : cells ≤ R.cells ∧ slots ≤ R.slots)
    (kk : ∀ (H1 : Heap) (locs1 : List Loc), Wd G A s.heap (w1 ++ fl LR) H1 locs1 → W p l e R s m args below meth c H1 locs1 cells slots Q (F0 m (pc + 3) ls (.int r :: rest))) : W p l e R s m args below meth c H locs cells slots Q (F0 m pc ls st0) := by
  subst hst0
  have w' := w.spl nB is hn hp hL
  exact runI F w' (va_runU (As := As) (rest := rest) (nL := nL) (Ts := []) ⟨F.x, F.b, F.ml, F.o, fun _ h => nomatch h⟩ (hc l H.size) (cwUx F Y hin hl hs hsel hRm) ⟨fun a U g mk q => ⟨q.1, PreB.calling F.1 U g mk a q.2⟩, va_recv F.K w.1 hq he, fun U hU hW => ⟨rfl, F.preF w' hU hW⟩⟩ rfl hlen hls rfl (lv_room hrm) hdg ⟨hf.1, hf.2⟩) kk
/-- INHERITED, no answer -/
theorem kUn (F : Fx G p s m c cc nL own A) (w : Wd G A s.heap (fl L) H locs) {y : MethodName} {b : ByteArray} {n k idx fr lo o ci q0 : Nat} {As : List Value} {P : va_W → Prop} {fs : List Value} {qc : vw_C}
    (hc : CN G y b n fr lo mc ms (.ref o :: As) (fl LC) P) (Y : YM y b n none k) (hin : Cond.instanceMethod y ∈ lw_tbl) (hl : Cond.methodLink own idx y ∈ lw_tbl) (hs : Cond.sameMethod y.cls y.cls y.name y.desc ∈ lw_tbl)
    (he : (fl L)[q0]? = some (o, .inr (ci, fs))) (hq : vwCl[ci]? = some qc) (hsel : (Cond.selects qc.1 y y).before args s = true)
    (nB : Nat) (is : List Nat) (hn : L.length = nB) (hp : pmB nB is = true) (hL : is.map (fun i => L[i]?) = (LC ++ LR).map some)
    (hRm : fr + 1 ≤ R.frames ∧ 8 + (n + 11) + lo ≤ R.locals) (hlen : As.length = k) (hls : ls.size = nL) {st0 : List Value} (hst0 : st0 = As.reverse ++ .ref o :: rest) (hrm : (rest.map fun v => v.category).sum ≤ 8) (hdg : decode cc pc = .ok (.invokevirtual idx, 3)) (hf : cells + mc ≤ R.cells ∧ slots + ms ≤ R.slots)
    (kk : ∀ (w1 : va_W) (H1 : Heap) (locs1 : List Loc), P w1 → Wd G A s.heap (w1 ++ fl LR) H1 locs1 → W p l e R s m args below meth c H1 locs1 (cells + mc) (slots + ms) Q (F0 m (pc + 3) ls rest)) : W p l e R s m args below meth c H locs cells slots Q (F0 m pc ls st0) := by
  subst hst0
  have w' := w.spl nB is hn hp hL
  exact runV F w' (va_runU (As := As) (rest := rest) (nL := nL) (Ts := []) ⟨F.x, F.b, F.ml, F.o, fun _ h => nomatch h⟩ (hc l H.size) (cwUx F Y hin hl hs hsel hRm) ⟨fun a U g mk q => ⟨q.1, PreB.calling F.1 U g mk a q.2⟩, va_recv F.K w.1 hq he, fun U hU hW => ⟨rfl, F.preF w' hU hW⟩⟩ rfl hlen hls rfl (lv_room hrm) hdg hf) kk
/-- OF THE CLASS ABOVE, an int -/
theorem kSUi (F : Fx G p s m c cc nL own A) (w : Wd G A s.heap (fl L) H locs) {y : MethodName} {b : ByteArray} {n k idx fr lo o ci q0 : Nat} {ret : FieldType} {As : List Value} {r : Int32} {fs : List Value} {qc : vw_C}
    (hc : CI G y b n ret fr lo (.ref o :: As) (fl LC) w1 r) (Y : YM y b n (some ret) k) (hin : Cond.instanceMethod y ∈ lw_tbl) (hl : Cond.methodLink own idx y ∈ lw_tbl) (hs : Cond.sameMethod y.cls y.cls y.name y.desc ∈ lw_tbl) (hsup : Cond.superclass own y.cls ∈ lw_tbl) (hno : y.name ≠ "<init>")
    (he : (fl L)[q0]? = some (o, .inr (ci, fs))) (hq : vwCl[ci]? = some qc)
    (nB : Nat) (is : List Nat) (hn : L.length = nB) (hp : pmB nB is = true) (hL : is.map (fun i => L[i]?) = (LC ++ LR).map some)
    (hRm : fr + 1 ≤ R.frames ∧ 8 + (n + 11) + lo ≤ R.locals) (hlen : As.length = k) (hls : ls.size = nL) {st0 : List Value} (hst0 : st0 = As.reverse ++ .ref o :: rest) (hrm : (rest.map fun v => v.category).sum ≤ 8) (hdg : decode cc pc = .ok (.invokespecial idx, 3)) (hf : cells ≤ R.cells ∧ slots ≤ R.slots)
    (kk : ∀ (H1 : Heap) (locs1 : List Loc), Wd G A s.heap (w1 ++ fl LR) H1 locs1 → W p l e R s m args below meth c H1 locs1 cells slots Q (F0 m (pc + 3) ls (.int r :: rest))) : W p l e R s m args below meth c H locs cells slots Q (F0 m pc ls st0) := by
  subst hst0
  have w' := w.spl nB is hn hp hL
  exact runI F w' (va_runSU (As := As) (rest := rest) (nL := nL) (Ts := []) (F.K.1 ci qc hq).2 ⟨F.x, F.b, F.ml, F.o, fun _ h => nomatch h⟩ (hc l H.size) (cwSx F Y hin hl hs hsup hno hRm) ⟨fun a U g mk q => ⟨q.1, PreB.calling F.1 U g mk a q.2⟩, va_recv F.K w.1 hq he, fun U hU hW => ⟨rfl, F.preF w' hU hW⟩⟩ rfl hlen hls rfl (lv_room hrm) hdg ⟨hf.1, hf.2⟩) kk
/-- .. no answer -/
theorem kSUn (F : Fx G p s m c cc nL own A) (w : Wd G A s.heap (fl L) H locs) {y : MethodName} {b : ByteArray} {n k idx fr lo o ci q0 : Nat} {As : List Value} {P : va_W → Prop} {fs : List Value} {qc : vw_C}
    (hc : CN G y b n fr lo mc ms (.ref o :: As) (fl LC) P) (Y : YM y b n none k) (hin : Cond.instanceMethod y ∈ lw_tbl) (hl : Cond.methodLink own idx y ∈ lw_tbl) (hs : Cond.sameMethod y.cls y.cls y.name y.desc ∈ lw_tbl) (hsup : Cond.superclass own y.cls ∈ lw_tbl) (hno : y.name ≠ "<init>")
    (he : (fl L)[q0]? = some (o, .inr (ci, fs))) (hq : vwCl[ci]? = some qc)
    (nB : Nat) (is : List Nat) (hn : L.length = nB) (hp : pmB nB is = true) (hL : is.map (fun i => L[i]?) = (LC ++ LR).map some)
    (hRm : fr + 1 ≤ R.frames ∧ 8 + (n + 11) + lo ≤ R.locals) (hlen : As.length = k) (hls : ls.size = nL) {st0 : List Value} (hst0 : st0 = As.reverse ++ .ref o :: rest) (hrm : (rest.map fun v => v.category).sum ≤ 8) (hdg : decode cc pc = .ok (.invokespecial idx, 3)) (hf : cells + mc ≤ R.cells ∧ slots + ms ≤ R.slots)
    (kk : ∀ (w1 : va_W) (H1 : Heap) (locs1 : List Loc), P w1 → Wd G A s.heap (w1 ++ fl LR) H1 locs1 → W p l e R s m args below meth c H1 locs1 (cells + mc) (slots + ms) Q (F0 m (pc + 3) ls rest)) : W p l e R s m args below meth c H locs cells slots Q (F0 m pc ls st0) := by
  subst hst0
  have w' := w.spl nB is hn hp hL
  exact runV F w' (va_runSU (As := As) (rest := rest) (nL := nL) (Ts := []) (F.K.1 ci qc hq).2 ⟨F.x, F.b, F.ml, F.o, fun _ h => nomatch h⟩ (hc l H.size) (cwSx F Y hin hl hs hsup hno hRm) ⟨fun a U g mk q => ⟨q.1, PreB.calling F.1 U g mk a q.2⟩, va_recv F.K w.1 hq he, fun U hU hW => ⟨rfl, F.preF w' hU hW⟩⟩ rfl hlen hls rfl (lv_room hrm) hdg hf) kk
/-- .. an address -/
theorem kSUr (F : Fx G p s m c cc nL own A) (w : Wd G A s.heap (fl L) H locs) {y : MethodName} {b : ByteArray} {n k idx fr lo o ci q0 : Nat} {ret : FieldType} {As : List Value} {P : Nat → va_W → Prop} {fs : List Value} {qc : vw_C}
    (hc : CRm G y b n ret fr lo mc ms (.ref o :: As) (fl LC) P) (Y : YM y b n (some ret) k) (hin : Cond.instanceMethod y ∈ lw_tbl) (hl : Cond.methodLink own idx y ∈ lw_tbl) (hs : Cond.sameMethod y.cls y.cls y.name y.desc ∈ lw_tbl) (hsup : Cond.superclass own y.cls ∈ lw_tbl) (hno : y.name ≠ "<init>")
    (he : (fl L)[q0]? = some (o, .inr (ci, fs))) (hq : vwCl[ci]? = some qc)
    (nB : Nat) (is : List Nat) (hn : L.length = nB) (hp : pmB nB is = true) (hL : is.map (fun i => L[i]?) = (LC ++ LR).map some)
    (hRm : fr + 1 ≤ R.frames ∧ 8 + (n + 11) + lo ≤ R.locals) (hlen : As.length = k) (hls : ls.size = nL) {st0 : List Value} (hst0 : st0 = As.reverse ++ .ref o :: rest) (hrm : (rest.map fun v => v.category).sum ≤ 8) (hdg : decode cc pc = .ok (.invokespecial idx, 3)) (hf : cells + mc ≤ R.cells ∧ slots + ms ≤ R.slots)
    (kk : ∀ (a : Nat) (w1 : va_W) (H1 : Heap) (locs1 : List Loc), P a w1 → Wd G A s.heap (w1 ++ fl LR) H1 locs1 → W p l e R s m args below meth c H1 locs1 (cells + mc) (slots + ms) Q (F0 m (pc + 3) ls (.ref a :: rest))) : W p l e R s m args below meth c H locs cells slots Q (F0 m pc ls st0) := by
  subst hst0
  have w' := w.spl nB is hn hp hL
  exact runR F w' (va_runSU (As := As) (rest := rest) (nL := nL) (Ts := []) (F.K.1 ci qc hq).2 ⟨F.x, F.b, F.ml, F.o, fun _ h => nomatch h⟩ (hc l H.size) (cwSx F Y hin hl hs hsup hno hRm) ⟨fun a U g mk q => ⟨q.1, PreB.calling F.1 U g mk a q.2⟩, va_recv F.K w.1 hq he, fun U hU hW => ⟨rfl, F.preF w' hU hW⟩⟩ rfl hlen hls rfl (lv_room hrm) hdg hf) kk
/-- invokevirtual, an address -/
theorem kVr (F : Fx G p s m c cc nL own A) (w : Wd G A s.heap (fl L) H locs) {y : MethodName} {b : ByteArray} {n k idx fr lo o ci q0 : Nat} {ret : FieldType} {As : List Value} {P : Nat → va_W → Prop} {fs : List Value} {qc : vw_C}
    (hc : CRm G y b n ret fr lo mc ms (.ref o :: As) (fl LC) P) (Y : YM y b n (some ret) k) (V : YV y) (hl : Cond.methodLink own idx y ∈ lw_tbl)
    (he : (fl L)[q0]? = some (o, .inr (ci, fs))) (hq : vwCl[ci]? = some qc) (hqc : qc.1 = y.cls)
    (nB : Nat) (is : List Nat) (hn : L.length = nB) (hp : pmB nB is = true) (hL : is.map (fun i => L[i]?) = (LC ++ LR).map some)
    (hRm : fr + 1 ≤ R.frames ∧ 8 + (n + 11) + lo ≤ R.locals) (hlen : As.length = k) (hls : ls.size = nL) {st0 : List Value} (hst0 : st0 = As.reverse ++ .ref o :: rest) (hrm : (rest.map fun v => v.category).sum ≤ 8) (hdg : decode cc pc = .ok (.invokevirtual idx, 3)) (hf : cells + mc ≤ R.cells ∧ slots + ms ≤ R.slots)
    (kk : ∀ (a : Nat) (w1 : va_W) (H1 : Heap) (locs1 : List Loc), P a w1 → Wd G A s.heap (w1 ++ fl LR) H1 locs1 → W p l e R s m args below meth c H1 locs1 (cells + mc) (slots + ms) Q (F0 m (pc + 3) ls (.ref a :: rest))) : W p l e R s m args below meth c H locs cells slots Q (F0 m pc ls st0) := by
  subst hst0
  have w' := w.spl nB is hn hp hL
  refine runR F w' (va_runV (As := As) (rest := rest) (nL := nL) (Ts := []) ⟨F.x, F.b, F.ml, F.o, fun _ h => nomatch h⟩ (hc l H.size) ⟨Y.B F.t (F.t _ hl rfl _) hRm, F.t _ V.1 rfl _, F.t _ V.2 rfl _⟩ ⟨fun a U g mk q => ⟨q.1, PreB.calling F.1 U g mk a q.2⟩, ?_, fun U hU hW => ⟨rfl, F.preF w' hU hW⟩⟩ rfl hlen hls rfl (lv_room hrm) hdg hf) kk
  have h := va_recv F.K w.1 hq he
  rw [hqc] at h
  exact h
/-- invokestatic over cells, an int -/
theorem kSBi (F : Fx G p s m c cc nL own A) (w : Wd G A s.heap (fl L) H locs) {y : MethodName} {b : ByteArray} {n k idx fr lo : Nat} {ret : FieldType} {As : List Value} {r : Int32}
    (hc : CI G y b n ret fr lo As (fl LC) w1 r) (Y : YM y b n (some ret) k) (V : YS y) (hl : Cond.methodLink own idx y ∈ lw_tbl)
    (nB : Nat) (is : List Nat) (hn : L.length = nB) (hp : pmB nB is = true) (hL : is.map (fun i => L[i]?) = (LC ++ LR).map some)
    (hRm : fr + 1 ≤ R.frames ∧ 8 + (n + 11) + lo ≤ R.locals) (hlen : As.length = k) (hls : ls.size = nL) {st0 : List Value} (hst0 : st0 = As.reverse ++ rest) (hrm : (rest.map fun v => v.category).sum ≤ 8) (hdg : decode cc pc = .ok (.invokestatic idx, 3)) (hf : cells ≤ R.cells ∧ slots ≤ R.slots)
    (kk : ∀ (H1 : Heap) (locs1 : List Loc), Wd G A s.heap (w1 ++ fl LR) H1 locs1 → W p l e R s m args below meth c H1 locs1 cells slots Q (F0 m (pc + 3) ls (.int r :: rest))) : W p l e R s m args below meth c H locs cells slots Q (F0 m pc ls st0) := by
  subst hst0
  have w' := w.spl nB is hn hp hL
  exact runI F w' (va_runS (As := As) (rest := rest) (nL := nL) (Ts := []) ⟨F.x, F.b, F.ml, F.o, fun _ h => nomatch h⟩ (hc l H.size) ⟨Y.B F.t (F.t _ hl rfl _) hRm, F.t _ V rfl _⟩ ⟨fun a U g mk q => ⟨q.1, PreB.calling F.1 U g mk a q.2⟩, fun U hU hW => ⟨rfl, F.preF w' hU hW⟩⟩ rfl hlen hls rfl (lv_room hrm) hdg ⟨hf.1, hf.2⟩) kk
/-- .. an address -/
theorem kSBr (F : Fx G p s m c cc nL own A) (w : Wd G A s.heap (fl L) H locs) {y : MethodName} {b : ByteArray} {n k idx fr lo : Nat} {ret : FieldType} {As : List Value} {P : Nat → va_W → Prop}
    (hc : CRm G y b n ret fr lo mc ms As (fl LC) P) (Y : YM y b n (some ret) k) (V : YS y) (hl : Cond.methodLink own idx y ∈ lw_tbl)
    (nB : Nat) (is : List Nat) (hn : L.length = nB) (hp : pmB nB is = true) (hL : is.map (fun i => L[i]?) = (LC ++ LR).map some)
    (hRm : fr + 1 ≤ R.frames ∧ 8 + (n + 11) + lo ≤ R.locals) (hlen : As.length = k) (hls : ls.size = nL) {st0 : List Value} (hst0 : st0 = As.reverse ++ rest) (hrm : (rest.map fun v => v.category).sum ≤ 8) (hdg : decode cc pc = .ok (.invokestatic idx, 3)) (hf : cells + mc ≤ R.cells ∧ slots + ms ≤ R.slots)
    (kk : ∀ (a : Nat) (w1 : va_W) (H1 : Heap) (locs1 : List Loc), P a w1 → Wd G A s.heap (w1 ++ fl LR) H1 locs1 → W p l e R s m args below meth c H1 locs1 (cells + mc) (slots + ms) Q (F0 m (pc + 3) ls (.ref a :: rest))) : W p l e R s m args below meth c H locs cells slots Q (F0 m pc ls st0) := by
  subst hst0
  have w' := w.spl nB is hn hp hL
  exact runR F w' (va_runS (As := As) (rest := rest) (nL := nL) (Ts := []) ⟨F.x, F.b, F.ml, F.o, fun _ h => nomatch h⟩ (hc l H.size) ⟨Y.B F.t (F.t _ hl rfl _) hRm, F.t _ V rfl _⟩ ⟨fun a U g mk q => ⟨q.1, PreB.calling F.1 U g mk a q.2⟩, fun U hU hW => ⟨rfl, F.preF w' hU hW⟩⟩ rfl hlen hls rfl (lv_room hrm) hdg hf) kk
/-- a byte read, its value known -/
theorem rbV (F : Fx G p s m c cc nL own A) (w : Wd G A s.heap ws H locs) {a : Nat} (q0 : Nat) {n : Nat} {f : Nat → Int32} (ha : ws[q0]? = some (a, .inl (G.2.1 3, n, .inl f))) {i : Int32} (hi : ib i n = true) {v : Int32} (hv : f i.toNatClampNeg = v) (hdg : decode cc pc = .ok (.baload, 1))
    (kk : W p l e R s m args below meth c H locs cells slots Q (F0 m (pc + 1) ls (.int v :: rest))) : W p l e R s m args below meth c H locs cells slots Q (F0 m pc ls (.int i :: .ref a :: rest)) := by
  subst hv
  exact rb F w q0 ha hi hdg kk
end JDKC
/-- a constructor's form out of a plain one -/
theorem CV.toN {G : cG} {y : MethodName} {b : ByteArray} {n : Nat} {fr lo : Nat} {av : List Value} {w0 w1 : va_W} (h : CV G y b n fr lo av w0 w1) : CN G y b n fr lo 0 0 av w0 (fun w' => w' = w1) := by
  intro l sz
  refine MetFree.mono (h l sz) (fun _ _ h => h) (fun _ _ _ _ _ h => h) (fun a st o t _ hq => ⟨?_, hq.2⟩)
  obtain ⟨⟨⟨u, h1, h2, h3⟩, h4⟩, -⟩ := hq
  exact ⟨⟨w1, h1, rfl, h3⟩, h4⟩
theorem CN.toX {G : cG} {y : MethodName} {b : ByteArray} {n : Nat} {fr lo mc ms : Nat} {av : List Value} {w0 : va_W} {P : va_W → Prop} (h : CN G y b n fr lo mc ms av w0 P) : CXv G y b n fr lo mc ms av w0 P (fun _ _ => False) := by
  intro l sz hst
  exact MetFree.mono (h l sz) (fun _ _ h => h) (fun _ _ _ _ _ h => h) (fun a st o t _ hq => Or.inl hq)
/-- the private methods of the builder that its objects inherit; the tables of digits -/
def PV (G : cG) : Prop := ∀ (U : State) (H : Heap), G.2.2.2 U H → ∀ A : Array Value, (Cond.selects RJ4 yJ5_ensureCapacityInternal_d00df yJ5_ensureCapacityInternal_d00df).before A U = true ∧ (Cond.selects RJ4 yJ5_newCapacity_0f7a4 yJ5_newCapacity_0f7a4).before A U = true
def DGs (G : cG) (d1 d2 : Nat) : Prop := ∀ (U : State) (H : Heap), G.2.2.2 U H → (va_Z "java/lang/Integer" "DigitOnes" "[B" (.ref d1) (fun q => G.2.2.1 ≤ q) U H ∧ va_T .byte d1 100 (fun j => .int (nI (48 + j % 10))) (fun q => G.2.2.1 ≤ q) U H) ∧ va_Z "java/lang/Integer" "DigitTens" "[B" (.ref d2) (fun q => G.2.2.1 ≤ q) U H ∧ va_T .byte d2 100 (fun j => .int (nI (48 + j / 10))) (fun q => G.2.2.1 ≤ q) U H
section DIG
variable {G : cG} {p : Program} {s : State} {m : MethodId} {c : Code} {cc : ByteArray} {nL : Nat} {own : String} {A : Nat → Prop}
theorem Fx.pv (F : Fx G p s m c cc nL own A) (h : PV G) (args : Array Value) : (Cond.selects RJ4 yJ5_ensureCapacityInternal_d00df yJ5_ensureCapacityInternal_d00df).before args s = true ∧ (Cond.selects RJ4 yJ5_newCapacity_0f7a4 yJ5_newCapacity_0f7a4).before args s = true := h s s.heap F.2.2.2.2.2.1.2.2 args
theorem Fx.d1 (F : Fx G p s m c cc nL own A) {d1 d2 : Nat} (h : DGs G d1 d2) : va_Z "java/lang/Integer" "DigitOnes" "[B" (.ref d1) A s s.heap ∧ va_T .byte d1 100 (fun j => .int (nI (48 + j % 10))) A s s.heap := ⟨((h s s.heap F.2.2.2.2.2.1.2.2).1.1).narrow F.z, ((h s s.heap F.2.2.2.2.2.1.2.2).1.2).narrow F.z⟩
theorem Fx.d2 (F : Fx G p s m c cc nL own A) {d1 d2 : Nat} (h : DGs G d1 d2) : va_Z "java/lang/Integer" "DigitTens" "[B" (.ref d2) A s s.heap ∧ va_T .byte d2 100 (fun j => .int (nI (48 + j / 10))) A s s.heap := ⟨((h s s.heap F.2.2.2.2.2.1.2.2).2.1).narrow F.z, ((h s s.heap F.2.2.2.2.2.1.2.2).2.2).narrow F.z⟩
end DIG

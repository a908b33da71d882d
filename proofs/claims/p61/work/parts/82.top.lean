/-! THE GROUND OF THE TOP: contracts of methods that may throw and make cells, over a world of any length -/
theorem vD_iff {A : Nat → Prop} {ws : va_W} : va_D A ws ↔ ws.Pairwise (fun p q => p.1 ≠ q.1) ∧ ∀ q ∈ ws, A q.1 := by
  constructor
  · intro h
    refine ⟨List.pairwise_iff_getElem.mpr (fun i j hi hj hlt he => absurd (h.1 i j _ _ (List.getElem?_eq_getElem hi) (List.getElem?_eq_getElem hj) he) (by omega)), fun q hq => ?_⟩
    obtain ⟨i, hi⟩ := List.getElem?_of_mem hq
    exact h.2 i q hi
  · intro h
    refine ⟨fun i j p q hi hj he => ?_, fun k q hk => h.2 q (List.mem_of_getElem? hk)⟩
    obtain ⟨h1, h2⟩ := List.getElem?_eq_some_iff.mp hi
    obtain ⟨h3, h4⟩ := List.getElem?_eq_some_iff.mp hj
    rcases Nat.lt_trichotomy i j with hlt | heq | hgt
    · have := List.pairwise_iff_getElem.mp h.1 i j h1 h3 hlt
      rw [h2, h4] at this
      exact absurd he this
    · exact heq
    · have := List.pairwise_iff_getElem.mp h.1 j i h3 h1 hgt
      rw [h2, h4] at this
      exact absurd he.symm this
theorem vP_iff {D : va_G} {cl : List vw_C} {ws : va_W} {H : Heap} : va_P D cl ws H ↔ ∀ q ∈ ws, va_at D cl q H := by
  constructor
  · intro h q hq
    obtain ⟨i, hi⟩ := List.getElem?_of_mem hq
    exact h i q hi
  · exact fun h k q hk => h q (List.mem_of_getElem? hk)
theorem vP_perm {D : va_G} {cl : List vw_C} {ws ws' : va_W} {H : Heap} (hp : ws.Perm ws') (h : va_P D cl ws H) : va_P D cl ws' H := vP_iff.mpr (fun q hq => vP_iff.mp h q (hp.mem_iff.mpr hq))
theorem vD_perm {A : Nat → Prop} {ws ws' : va_W} (hp : ws.Perm ws') (h : va_D A ws) : va_D A ws' := by
  obtain ⟨h1, h2⟩ := vD_iff.mp h
  exact vD_iff.mpr ⟨(hp.pairwise_iff (fun {x y} (e : x.1 ≠ y.1) => e.symm)).mp h1, fun q hq => h2 q (hp.mem_iff.mpr hq)⟩
theorem range_pre (wc wr : va_W) : (List.range wc.length).map (fun i => (wc ++ wr)[i]?) = wc.map some := by
  apply List.ext_getElem
  · simp
  · intro i h1 h2
    have h3 : i < wc.length := by simpa using h1
    simp [List.getElem?_append_left h3, List.getElem?_eq_getElem h3]
theorem range_post (wc wr : va_W) : ((List.range wr.length).map (fun i => i + wc.length)).map (fun i => (wc ++ wr)[i]?) = wr.map some := by
  apply List.ext_getElem
  · simp
  · intro i h1 h2
    have h3 : i < wr.length := by simpa using h1
    simp [List.getElem?_append_right, List.getElem?_eq_getElem h3]
theorem nd_of {l : List Nat} (h : l.Nodup) : va_nd l = true := by
  induction l with
  | nil => rfl
  | cons a t ih =>
    obtain ⟨h1, h2⟩ := List.nodup_cons.mp h
    simp [va_nd, ih h2, h1]
theorem va_A.of_perm {ws ws' : va_W} {sz q : Nat} (hp : ws.Perm ws') (h : va_A ws sz q) : va_A ws' sz q := by
  rcases h with ⟨k, e, h1⟩ | h1
  · obtain ⟨i, hi⟩ := List.getElem?_of_mem (hp.mem_iff.mp (List.mem_of_getElem? h1))
    exact Or.inl ⟨i, e, hi⟩
  · exact Or.inr h1
section TOPG
variable {G : cG} {p : Program} {l : Launch} {e : Env} {R : Room} {s : State} {m : MethodId} {args : Array Value} {below : List Frame} {meth : Method} {c : Code} {H : Heap} {locs : List Loc} {cells slots : Nat} {Q : State → Prop} {cc : ByteArray} {nL : Nat} {own : String} {A : Nat → Prop} {ws ws' wc wr : va_W} {pc : Nat} {ls : Array Slot} {rest : List Value}
theorem Wd.perm (w : Wd G A s.heap ws H locs) (hp : ws.Perm ws') : Wd G A s.heap ws' H locs := ⟨vP_perm hp w.1, vD_perm hp w.2.1, w.2.2⟩
theorem Fx.preF (F : Fx G p s m c cc nL own A) (w : Wd G A s.heap (wc ++ wr) H locs) {U : State} (hU : U.heap = H) (hW : s.WarmedH U.vm) : PreB G H.size wc U := F.pre w (List.range wc.length) (range_nd _) (range_pre wc wr) hU hW
theorem Wd.freeF (F : Fx G p s m c cc nL own A) (w : Wd G A s.heap (wc ++ wr) H locs) : ∀ q, va_A wc H.size q → A q := va_free w.2.1 w.2.2 F.fA (List.range wc.length) (range_pre wc wr)
theorem Wd.backF (F : Fx G p s m c cc nL own A) (w : Wd G A s.heap (wc ++ wr) H locs) {w1 : va_W} {H1 : Heap} {locs1 : List Loc}
    (hk : ∀ q : Nat, q < H.size → ¬ va_A wc H.size q → H1[q]? = H[q]?) (hP1 : va_P G.1 vwCl w1 H1) (hD1 : va_D (va_A wc H.size) w1) (hS : va_S A s.heap H1 locs1) : Wd G A s.heap (w1 ++ wr) H1 locs1 := by
  have h := Wd.back F w (wr := wr) (w1 := w1) (ws' := wr ++ w1) (List.range wc.length) ((List.range wr.length).map (fun i => i + wc.length)) (List.range (wr ++ w1).length) (range_pre wc wr) (range_post wc wr)
    (nd_of (by rw [List.Nodup, List.pairwise_map]; exact List.Pairwise.imp (fun h e => h (by omega)) List.nodup_range)) (fun i hi hc => by
      obtain ⟨j, -, hj⟩ := List.mem_map.mp hi
      have := List.mem_range.mp hc
      omega) (range_map _) (range_nd _) hk hP1 hD1 hS
  exact h.perm List.perm_append_comm
end TOPG
/-- CONTRACT: an int answer r with the new world w1 (P r w1), or an exception of class E with the new world (X E w1) -/
def CX (G : cG) (y : MethodName) (b : ByteArray) (n : Nat) (ret : FieldType) (fr lo mc ms : Nat) (av : List Value) (w0 : va_W) (P : Int32 → va_W → Prop) (X : String → va_W → Prop) : Prop :=
  ∀ (l : Launch) (sz : Nat), l.stackTraces = false → vx_Met l y (wy y b n (some ret)) { frames := fr, cells := mc, slots := ms, locals := lo } (va_Pc av (PreB G sz w0)) (va_Qi P (fun w1 t => PosB G sz w0 w1 t) (va_A w0 sz)) (vx_X (fun _ : va_W => True) (fun E w1 t => X E w1 ∧ PosB G sz w0 w1 t) (va_A w0 sz)) mc ms (va_A w0 sz)
/-- .. no answer -/
def CXv (G : cG) (y : MethodName) (b : ByteArray) (n : Nat) (fr lo mc ms : Nat) (av : List Value) (w0 : va_W) (P : va_W → Prop) (X : String → va_W → Prop) : Prop :=
  ∀ (l : Launch) (sz : Nat), l.stackTraces = false → vx_Met l y (wy y b n none) { frames := fr, cells := mc, slots := ms, locals := lo } (va_Pc av (PreB G sz w0)) (va_Qv P (fun w1 t => PosB G sz w0 w1 t) (va_A w0 sz)) (vx_X (fun _ : va_W => True) (fun E w1 t => X E w1 ∧ PosB G sz w0 w1 t) (va_A w0 sz)) mc ms (va_A w0 sz)
/-- what such a body owes at its end -/
abbrev XQ (G : cG) (A : Nat → Prop) (X : String → va_W → Prop) : String → State → State → Prop := vx_X (fun _ : va_W => True) (fun E w1 t => X E w1 ∧ va_P G.1 vwCl w1 t.heap ∧ va_D A w1) A
abbrev XI (G : cG) (A : Nat → Prop) (P : Int32 → va_W → Prop) (X : String → va_W → Prop) (mc ms : Nat) (below : List Frame) (args : Array Value) (s : State) : State → Prop := vx_MQ below (va_Qi P (fun w1 t => va_P G.1 vwCl w1 t.heap ∧ va_D A w1) A) (XQ G A X) args s mc ms A
abbrev XV (G : cG) (A : Nat → Prop) (P : va_W → Prop) (X : String → va_W → Prop) (mc ms : Nat) (below : List Frame) (args : Array Value) (s : State) : State → Prop := vx_MQ below (va_Qv P (fun w1 t => va_P G.1 vwCl w1 t.heap ∧ va_D A w1) A) (XQ G A X) args s mc ms A
theorem CX.of {G : cG} (g : GOK G) {y : MethodName} {b : ByteArray} {n : Nat} {ret : FieldType} {fr lo mc ms : Nat} {av : List Value} {w0 : va_W} {P : Int32 → va_W → Prop} {X : String → va_W → Prop} {own : String} (hp : plainName y.cls = true) (hown : y.cls = own) (hn : (lg_sl av).length ≤ n)
    (body : ∀ (p : Program) (l : Launch) (e : Env) (s : State) (m : MethodId) (below : List Frame) (meth : Method) (c : Code) (A : Nat → Prop) (ls : Array Slot), l.stackTraces = false → (∀ x ∈ c.exceptionTable.toList, False) → Fx G p s m c b n own A → meth.sig.returnType = some ret → meth.locks = false → Wd G A s.heap w0 s.heap [] → lv_has ls n (lv_args 0 av) →
      W p l e { frames := fr, cells := mc, slots := ms, locals := lo } s m av.toArray below meth c s.heap [] 0 0 (XI G A P X mc ms below av.toArray s) (F0 m 0 ls [])) : CX G y b n ret fr lo mc ms av w0 P X := by
  intro l sz hst
  refine vx_ofW (cc := b) (maxL := n) (ret := some ret) hp rfl ?_
  intro p e s m args below meth c s₁ B hml htab hv
  obtain ⟨rfl, hK, hz, hsz, hP, hD0⟩ := hv
  have hnm : s.vm.findClass y.cls = some m.cls := findClass_of_methodNamed B.named
  subst hsz
  have hD := hD0.self (sz := s.heap.size)
  have hzz : ∀ q, va_A w0 s.heap.size q → G.2.2.1 ≤ q := fun q h => h.elim (fun ⟨k, e, h1⟩ => hD0.2 k _ h1) (fun h1 => Nat.le_trans hz h1)
  have hAA : ∀ q, s.heap.size ≤ q → va_A w0 s.heap.size q := fun q h => Or.inr h
  have hl := lv_entry av (n := n) hn
  rw [lg_entry_eq]
  exact body p l e s m below meth c _ _ hst htab ⟨g, B.exec, B.bytes, hml, by rw [← hown]; exact hnm, hK, hz, hAA, hzz⟩ B.returns B.notSynchronized ⟨hP, hD, va_S.rf⟩ hl
theorem CXv.of {G : cG} (g : GOK G) {y : MethodName} {b : ByteArray} {n : Nat} {fr lo mc ms : Nat} {av : List Value} {w0 : va_W} {P : va_W → Prop} {X : String → va_W → Prop} {own : String} (hp : plainName y.cls = true) (hown : y.cls = own) (hn : (lg_sl av).length ≤ n)
    (body : ∀ (p : Program) (l : Launch) (e : Env) (s : State) (m : MethodId) (below : List Frame) (meth : Method) (c : Code) (A : Nat → Prop) (ls : Array Slot), l.stackTraces = false → (∀ x ∈ c.exceptionTable.toList, False) → Fx G p s m c b n own A → meth.sig.returnType = none → meth.locks = false → Wd G A s.heap w0 s.heap [] → lv_has ls n (lv_args 0 av) →
      W p l e { frames := fr, cells := mc, slots := ms, locals := lo } s m av.toArray below meth c s.heap [] 0 0 (XV G A P X mc ms below av.toArray s) (F0 m 0 ls [])) : CXv G y b n fr lo mc ms av w0 P X := by
  intro l sz hst
  refine vx_ofW (cc := b) (maxL := n) (ret := none) hp rfl ?_
  intro p e s m args below meth c s₁ B hml htab hv
  obtain ⟨rfl, hK, hz, hsz, hP, hD0⟩ := hv
  have hnm : s.vm.findClass y.cls = some m.cls := findClass_of_methodNamed B.named
  subst hsz
  have hD := hD0.self (sz := s.heap.size)
  have hzz : ∀ q, va_A w0 s.heap.size q → G.2.2.1 ≤ q := fun q h => h.elim (fun ⟨k, e, h1⟩ => hD0.2 k _ h1) (fun h1 => Nat.le_trans hz h1)
  have hAA : ∀ q, s.heap.size ≤ q → va_A w0 s.heap.size q := fun q h => Or.inr h
  have hl := lv_entry av (n := n) hn
  rw [lg_entry_eq]
  exact body p l e s m below meth c _ _ hst htab ⟨g, B.exec, B.bytes, hml, by rw [← hown]; exact hnm, hK, hz, hAA, hzz⟩ B.returns B.notSynchronized ⟨hP, hD, va_S.rf⟩ hl
section TOPE
variable {G : cG} {p : Program} {l : Launch} {e : Env} {R : Room} {s : State} {m : MethodId} {args : Array Value} {below : List Frame} {meth : Method} {c : Code} {H : Heap} {locs : List Loc} {cells slots : Nat} {Q : State → Prop} {cc : ByteArray} {nL : Nat} {own : String} {A : Nat → Prop} {ws ws' wc wr : va_W} {pc : Nat} {ls : Array Slot} {rest : List Value} {mc ms : Nat}
theorem eiX (F : Fx G p s m c cc nL own A) (w : Wd G A s.heap ws H locs) {P : Int32 → va_W → Prop} {X : String → va_W → Prop} {ty : FieldType} (hr : meth.sig.returnType = some ty) (hlocks : meth.locks = false) {r : Int32} (hn : narrow ty (.int r) = .int r) (h : P r ws) (hc : cells ≤ mc) (hs : slots ≤ ms) (hdg : decode cc pc = .ok (.ireturn, 1)) : W p l e R s m args below meth c H locs cells slots (XI G A P X mc ms below args s) (F0 m pc ls [.int r]) :=
  vx_ret (W.widen hc hs (W.zret F.x F.b hr hn (fun t ht hW => ⟨⟨r, ws, rfl, h, by rw [ht]; exact w.1, w.2.1⟩, w.2.2.F ht⟩) w.2.2.2.2 hdg hlocks))
theorem evX (F : Fx G p s m c cc nL own A) (w : Wd G A s.heap ws H locs) {P : va_W → Prop} {X : String → va_W → Prop} (hr : meth.sig.returnType = none) (hlocks : meth.locks = false) (h : P ws) (hc : cells ≤ mc) (hs : slots ≤ ms) (hdg : decode cc pc = .ok (.return_, 1)) : W p l e R s m args below meth c H locs cells slots (XV G A P X mc ms below args s) (F0 m pc ls []) :=
  vx_ret (W.widen hc hs (W.vret F.x F.b hr (fun t ht hW => ⟨⟨ws, rfl, h, by rw [ht]; exact w.1, w.2.1⟩, w.2.2.F ht⟩) w.2.2.2.2 hdg hlocks))
/-- an exception goes on to the caller -/
theorem exX (w : Wd G A s.heap ws H locs) {Qc : Array Value → State → Outcome → State → Prop} {X : String → va_W → Prop} {E : String} {ce : Cell} {q : Addr} (htab : ∀ x ∈ c.exceptionTable.toList, False) (hlocks : meth.locks = false) (hcell : H[q]? = some ce) (hv : ce.vm = .none) (hcl : s.vm.findClass E = some ce.cls) (h : X E ws) (hc : cells ≤ mc) (hs : slots ≤ ms) :
    vx_W p l e R s m args below meth c H locs cells slots (vx_MQ below Qc (XQ G A X) args s mc ms A) (F0 m pc ls rest) q :=
  vx_out (fun x hx => absurd hx (htab x)) hlocks hcell hv hcl (fun t ht ha => ⟨ws, trivial, ⟨h, by rw [ht]; exact w.1, w.2.1⟩, w.2.2.F ht⟩) w.2.2.2.2 hc hs
end TOPE
section NXK3
variable {p : Program} {l : Launch} {e : Env} {R : Room} {s : State} {m : MethodId} {args : Array Value} {below : List Frame} {meth : Method} {c : Code} {H : Heap} {locs : List Loc} {cells slots : Nat} {Q : State → Prop}
variable {ls : Array Slot} {rest : List Value} {D : va_G} {cl : List vw_C} {tys : List (ClassId × FieldType)} {ws : va_W}
set_option maxHeartbeats 1000000 in
theorem nx_throwW {cc : ByteArray} {pc : Nat} (hexec : p.tables.exec = Jvm.exec) (hb : c.code = cc) (hl : l.stackTraces = false) {own cls text : String} {r : List String} {ik is ic ix sa : Nat} {rx : ByteArray} {Y9 : String} {A : Nat → Prop}
    (hown : s.vm.findClass own = some m.cls) (hcls : Bundle.fit cls = true) (hY9 : Bundle.fit Y9 = true) (hnames : ∀ n ∈ r, Bundle.fit n = true) (x0 : decode rx 0 = .ok (.aload_n 0, 1)) (x1 : decode rx 1 = .ok (.aload_n 1, 1)) (x2 : decode rx 2 = .ok (.invokespecial ix, 3)) (x5 : decode rx 5 = .ok (.return_, 1))
    (hk : (Cond.classLink own ik cls).before args s = true) (hini : (Cond.initialized cls).before args s = true) (hstr : vk_R own is text sa s) (hat : ∀ w ∈ (nx_at own ic cls ix rx Y9 r).filter vx_no, w.before args s = true)
    (hgood : ∀ w ∈ Cond.classLink own ik cls :: Cond.initialized cls   :: (nx_at own ic cls ix rx Y9 r).filter vx_no, vx_ot w = true)
    (hU : vx_Zq Bundle.tN "UNASSIGNED_STACK" Bundle.steD A s s.heap) (hN : vx_Zq Bundle.tN "SUPPRESSED_SENTINEL" Bundle.listD A s s.heap) (hS : va_S A s.heap H locs) (hsize : ls.size = c.maxLocals)
    (d0 : decode cc pc = .ok (.new ik, 3)) (d3 : decode cc (pc + 3) = .ok (.dup, 1)) (d4 : decode cc (pc + 4) = .ok (.ldc_w is, 3)) (d6 : decode cc (pc + 7) = .ok (.invokespecial ic, 3))
    (d9 : decode cc (pc + 10) = .ok (.athrow, 1))
    (hRframes : (r.length + 1) + 3 < R.frames) (hRlocals : (rest.map fun v => v.category).sum + (13 * ((r.length + 1) + 1) + 43) ≤ R.locals) (hRcells : cells + 1 ≤ R.cells) (hRslots : slots + 6 ≤ R.slots)
    (kk : ∀ (q : Nat) (H1 : Heap) (ce : Cell), H.size ≤ H1.size → (∀ q : Nat, q < H.size → H1[q]? = H[q]?) → H1[q]? = some ce → ce.vm = .none → s.vm.findClass cls = some ce.cls → vx_W p l e R s m args below meth c H1 locs (cells + 1) (slots + 6) Q (F0 m (pc + 10) ls rest) q) :
    W p l e R s m args below meth c H locs cells slots Q (F0 m pc ls rest) := by
  intro T hT X
  subst hT
  have htr : e.platform.stackTraces = false := (show e.platform.stackTraces = l.stackTraces by rw [X.admits.platform]).trans hl
  have Y := vx_rebase X (R' := { frames := R.frames, locals := R.locals, cells := 1, slots := 6 }) (Nat.le_refl _) (Nat.le_refl _) hRcells hRslots
  obtain ⟨s', hA'⟩ : ∃ z, z = (T.setVm s.vm).setFrames (.invoking m args :: below) := ⟨_, rfl⟩
  rw [← hA'] at Y
  have hvm : s'.vm = s.vm := by rw [hA']; rfl
  have hhp : s'.heap = T.heap := by rw [hA']; rfl
  have hW0 : s.WarmedH s'.vm := by rw [hvm]; exact State.WarmedH.refl s
  have hat' : ∀ w ∈ (nx_at own ic cls ix rx Y9 r).filter vx_no, w.before args s' = true := fun w hw => vx_ot_at hW0 hvm.symm (hgood w (List.mem_cons_of_mem _ (List.mem_cons_of_mem _ hw))) (hat w hw)
  have hk' : (Cond.classLink own ik cls).before args s' = true := vx_ot_at hW0 hvm.symm (hgood _ List.mem_cons_self) hk
  have hini' : (Cond.initialized cls).before args s' = true := vx_ot_at hW0 hvm.symm (hgood _ (List.mem_cons_of_mem _ List.mem_cons_self)) hini
  have hU' : vx_Zq Bundle.tN "UNASSIGNED_STACK" Bundle.steD A s' s'.heap := by rw [hhp]; exact vx_Zq.moved hW0.alike (hU.kept hS.2.1)
  have hN' : vx_Zq Bundle.tN "SUPPRESSED_SENTINEL" Bundle.listD A s' s'.heap := by rw [hhp]; exact vx_Zq.moved hW0.alike (hN.kept hS.2.1)
  have h : ∀ w ∈ nx_at own ic cls ix rx Y9 r, w.before args s' = true := vx_own hat' (vx_isRefq hU'.1) (vx_isRefq hN'.1) hU'.2.word hN'.2.word
  have hown' : s'.vm.findClass own = some m.cls := by rw [hvm]; exact hown
  have hins : (Cond.instantiable cls 6).before args s' = true := h _ (by simp [nx_at])
  obtain ⟨vm₁, cX, kX, hfX, hkX, -, -, X₁, st1⟩ := Y.newCold hexec (own := own) (C := cls) (index := ik) (n := 6) hown' hk' hins hini'
    (g := F0 m pc ls rest) rfl (by rw [hb]; exact d0) (Nat.le_refl _) (Nat.le_refl _)
  generalize hT1 : (T.setVm vm₁).pushCell { cls := cX, slots := kX.instanceTypes.map defaultValue, vm := .none } = T1 at X₁ st1
  have hcat : (Value.ref T.heap.size).category = 1 := rfl
  have hcellA : T1.heap[T.heap.size]? = some (freshCell cX kX) := by rw [← hT1]; exact State.heap_pushCell_size _ _
  have d3' : decode c.code (pc + 3) = .ok (.dup, 1) := by rw [hb]; exact d3
  have d4' : decode c.code (pc + 4) = .ok (.ldc_w is, 3) := by rw [hb]; exact d4
  have hstr' : vk_R own is text sa s' := vk_R.warm hW0 hstr
  obtain ⟨V, ce, L, Z, hL, hlt, hcl9, hvm9, st⟩ := nx_ctor X₁ hexec htr (own := own) (cls := cls) (r := r) (ic := ic) hown' hcls hY9 hnames x0 x1 x2 x5 h (fun x hx => nomatch hx) hfX hkX hcellA (by rw [hhp]; exact Nat.le_refl _) (msg := .ref sa) rfl
    (g := { method := m, pc := pc + 7, locals := ls, stack := .ref sa :: .ref T.heap.size :: .ref T.heap.size :: rest, locked := none }) rfl hsize (rest := rest) rfl
    (by rw [hb]; exact d6) hRframes (by simp only [List.map_cons, List.sum_cons, hcat]; omega)
  have Z0 := Stand.forget (locs := []) Z (fun y hy => by rw [hL y hy, hhp]; exact Nat.le_refl _)
  obtain ⟨f1, f2⟩ := vx_frame Z0.same
  rw [hhp] at f1 f2
  have hcid : s.vm.findClass cls = some ce.cls := by
    rw [hcl9]
    rw [hvm] at hfX
    exact hfX
  have hh : (V.setCell T.heap.size ce).heap[T.heap.size]? = some ce := heapAt_setCell_self (s := V) ce hlt
  subst hA'
  have X5 := vx_back9 X Y Z0
  have X6 : Stand p l e R s m args below meth c (V.setCell T.heap.size ce) locs (cells + 1) (slots + 6) := { X5 with same := X5.same.mono (by omega) (by omega) }
  have ka := nx_athrow (p := p) (l := l) (e := e) (R := R) (s := s) (m := m) (args := args) (below := below) (meth := meth) (c := c) (ls := ls) (rest := rest) (Q := Q) hexec hb d9 (kk T.heap.size (V.setCell T.heap.size ce).heap ce f1 (fun q hq => f2 q hq (fun z hz => nomatch hz)) hh hvm9 hcid)
  obtain ⟨t, a1, b1⟩ := ka _ rfl X6
  refine ⟨t, st1 _ ?_, b1⟩
  show Steps p.tables e below (T1.setTop { method := m, pc := pc + 3, locals := ls, stack := .ref T.heap.size :: rest, locked := none }) _
  jvm_step X₁.here [X₁.here.top, hexec, d3', Value.category]
  exact X₁.ldcStringW hexec (own := own) (text := text) (index := is) (a := sa) hown' hstr'.1 hstr'.2
    (g := { method := m, pc := pc + 4, locals := ls, stack := .ref T.heap.size :: .ref T.heap.size :: rest, locked := none }) rfl d4' _ (st _ a1)
end NXK3

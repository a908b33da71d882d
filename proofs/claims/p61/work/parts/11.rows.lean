/-! ROWS OVER THE WORLD: fields, arrays, a method's start and ends -/
/-- a state: its scalars, its rows -/
abbrev Mem : Type := (Nat → Int32) × (Nat → Nat → Int32)
def wrI (S : Mem) (k : Nat) (v : Int32) : Mem := (fun j => if j = k then v else S.1 j, S.2)
def wrA (S : Mem) (k : Nat) (i v : Int32) : Mem := (S.1, fun j => if j = k then upd (S.2 k) i.toNatClampNeg v else S.2 j)
def rdA (S : Mem) (k : Nat) (i : Int32) : Int32 := S.2 k i.toNatClampNeg
/-- an index within a row of n -/
def ib (i : Int32) (n : Nat) : Bool := !(decide (i < 0) || decide (n ≤ i.toNatClampNeg))
theorem ib_in {i : Int32} {n : Nat} (h : ib i n = true) : vp_in i n := by
  simpa [ib, vp_in] using h
theorem gd {α : Type} {b : Bool} {x : Option α} {y : α} (h : (if b = true then x else none) = some y) : b = true ∧ x = some y := by
  cases b
  · cases h
  · exact ⟨rfl, h⟩
theorem gp {α : Type} {c : Prop} [Decidable c] {x : Option α} {y : α} (h : (if c then x else none) = some y) : c ∧ x = some y := by
  by_cases hc : c
  · rw [if_pos hc] at h
    exact ⟨hc, h⟩
  · rw [if_neg hc] at h
    cases h
theorem it {α : Type} {c : Prop} [Decidable c] {x z : Option α} {y : α} (hc : c) (h : (if c then x else z) = some y) : x = some y := by
  rw [if_pos hc] at h
  exact h
theorem ie {α : Type} {c : Prop} [Decidable c] {x z : Option α} {y : α} (hc : ¬ c) (h : (if c then x else z) = some y) : z = some y := by
  rw [if_neg hc] at h
  exact h
theorem bd {α β : Type} {x : Option α} {f : α → Option β} {y : β} (h : x.bind f = some y) : ∃ a, x = some a ∧ f a = some y := by
  cases x with
  | none => cases h
  | some a => exact ⟨a, rfl, h⟩
theorem sm {α : Type} {x y : α} (h : some x = some y) : x = y := Option.some.inj h
/-- what a method owes at its end: the answer r (or none) and the cells w1 -/
abbrev QI (G : cG) (A : Nat → Prop) (w1 : va_W) (r : Int32) (below : List Frame) (args : Array Value) (s : State) : State → Prop := MQ below (va_Qi (fun (r' : Int32) (_ : Unit) => r' = r) (fun _ t => va_P G.1 vwCl w1 t.heap ∧ va_D A w1) A) args s 0 0 A
abbrev QV (G : cG) (A : Nat → Prop) (w1 : va_W) (below : List Frame) (args : Array Value) (s : State) : State → Prop := MQ below (va_Qv (fun (_ : Unit) => True) (fun _ t => va_P G.1 vwCl w1 t.heap ∧ va_D A w1) A) args s 0 0 A
/-- a class's field words are in the tables -/
def FC (C : String) (T : u_T) (N : Nat) : Prop := ∀ x ∈ u_ws C T N, x ∈ lw_tbl ∧ goodWord x = true
/-- a class: its place, its fields' types -/
def CL (ci : Nat) (C : String) (T : u_T) (N : Nat) (ty : Nat → FieldType) : Prop := vwCl[ci]? = some (C, T, N) ∧ FC C T N ∧ (∀ k, k < N → parseFieldDescriptor (T k).2.2.1 = some (ty k)) ∧ ∀ a, a < N → ∀ b, b < N → a ≠ b → (T a).2.1 ≠ (T b).2.1
section ROWS
variable {G : cG} {p : Program} {l : Launch} {e : Env} {R : Room} {s : State} {m : MethodId} {args : Array Value} {below : List Frame} {meth : Method} {c : Code} {H : Heap} {locs : List Loc} {cells slots : Nat} {Q : State → Prop} {cc : ByteArray} {nL : Nat} {own : String} {A : Nat → Prop} {ws ws' : va_W} {pc : Nat} {ls : Array Slot} {rest : List Value} {a : Nat}
theorem FC.ts {C : String} {T : u_T} {N : Nat} (h : FC C T N) (F : Fx G p s m c cc nL own A) : ∀ x ∈ u_ws C T N, x.before args s = true := fun x hx => F.t x (h x hx).1 (by simp [kw, (h x hx).2]) _
theorem rg (F : Fx G p s m c cc nL own A) (w : Wd G A s.heap ws H locs) {ci N idx : Nat} {C ref : String} {T : u_T} {ty : Nat → FieldType} (hc : CL ci C T N ty) (q0 : Nat) {fs : List Value} (he : ws[q0]? = some (a, .inr (ci, fs))) (k : Nat) (hk : k < N) (hl : Cond.fieldLink own idx ref (T k).2.1 (T k).2.2.1 ∈ lw_tbl) (hs : (T k).1 = ref) {v : Value} (hv : fs[k]? = some v) (hdg : decode cc pc = .ok (.getfield idx, 3))
    (kk : W p l e R s m args below meth c H locs cells slots Q (F0 m (pc + 3) ls (v :: rest))) : W p l e R s m args below meth c H locs cells slots Q (F0 m pc ls (.ref a :: rest)) :=
  va_get F.x F.b (hc.2.1.ts F) (fun _ h => h) F.o F.K w.1 q0 he hc.1 k hk (F.t _ hl rfl _) (fun _ h => by rw [← hs]; exact h) hv hdg kk
theorem rgN (F : Fx G p s m c cc nL own A) (w : Wd G A s.heap ws H locs) {ci N idx : Nat} {C ref host : String} {T : u_T} {ty : Nat → FieldType} (hc : CL ci C T N ty) (q0 : Nat) {fs : List Value} (he : ws[q0]? = some (a, .inr (ci, fs))) (k : Nat) (hk : k < N) (hl : Cond.fieldLinkNest own idx ref (T k).2.1 (T k).2.2.1 host ∈ lw_tbl) (hs : (T k).1 = ref) {v : Value} (hv : fs[k]? = some v) (hdg : decode cc pc = .ok (.getfield idx, 3))
    (kk : W p l e R s m args below meth c H locs cells slots Q (F0 m (pc + 3) ls (v :: rest))) : W p l e R s m args below meth c H locs cells slots Q (F0 m pc ls (.ref a :: rest)) :=
  va_getN F.x F.b (hc.2.1.ts F) (fun _ h => h) F.o F.K w.1 q0 he hc.1 k hk (F.t _ hl rfl _) (fun _ h => by rw [← hs]; exact h) hv hdg kk
theorem rp (F : Fx G p s m c cc nL own A) (w : Wd G A s.heap ws H locs) {ci N idx : Nat} {C ref : String} {T : u_T} {ty : Nat → FieldType} (hc : CL ci C T N ty) (q0 : Nat) {fs : List Value} (he : ws[q0]? = some (a, .inr (ci, fs))) (k : Nat) (hk : k < N) (hl : Cond.fieldLink own idx ref (T k).2.1 (T k).2.2.1 ∈ lw_tbl) (hs : (T k).1 = ref) (hfin : (T k).2.2.2 = false) {v : Value} (hn : narrow (ty k) v = v) (hfit : fits (ty k) v = true) (hlen : k < fs.length) (hws : ws.set q0 (a, .inr (ci, fs.set k v)) = ws') (hdg : decode cc pc = .ok (.putfield idx, 3))
    (kk : ∀ (H1 : Heap) (locs1 : List Loc), Wd G A s.heap ws' H1 locs1 → W p l e R s m args below meth c H1 locs1 cells slots Q (F0 m (pc + 3) ls rest)) : W p l e R s m args below meth c H locs cells slots Q (F0 m pc ls (v :: .ref a :: rest)) :=
  va_put F.x F.b (hc.2.1.ts F) (fun _ h => h) ty hc.2.2.1 hc.2.2.2 F.o F.K w.1 w.2.1 w.2.2 q0 he hc.1 k hk (F.t _ hl rfl _) (fun _ h => by rw [← hs]; exact h) hfin (hc.2.2.1 k hk) hn hfit hlen hdg (fun H1 locs1 h1 h2 h3 => kk H1 locs1 (by rw [← hws]; exact ⟨h1, h2, h3⟩))
theorem ri (F : Fx G p s m c cc nL own A) (w : Wd G A s.heap ws H locs) (q0 : Nat) {n : Nat} {f : Nat → Int32} (ha : ws[q0]? = some (a, .inl (G.2.1 0, n, .inl f))) {i : Int32} (hi : ib i n = true) (hdg : decode cc pc = .ok (.iaload, 1))
    (kk : W p l e R s m args below meth c H locs cells slots Q (F0 m (pc + 1) ls (.int (f i.toNatClampNeg) :: rest))) : W p l e R s m args below meth c H locs cells slots Q (F0 m pc ls (.int i :: .ref a :: rest)) :=
  va_iald F.x F.b F.K w.1 q0 0 ha rfl (ib_in hi) hdg kk
theorem rc (F : Fx G p s m c cc nL own A) (w : Wd G A s.heap ws H locs) (q0 : Nat) {n : Nat} {f : Nat → Int32} (ha : ws[q0]? = some (a, .inl (G.2.1 1, n, .inl f))) {i : Int32} (hi : ib i n = true) (hdg : decode cc pc = .ok (.caload, 1))
    (kk : W p l e R s m args below meth c H locs cells slots Q (F0 m (pc + 1) ls (.int (f i.toNatClampNeg) :: rest))) : W p l e R s m args below meth c H locs cells slots Q (F0 m pc ls (.int i :: .ref a :: rest)) :=
  va_cald F.x F.b F.K w.1 q0 1 ha rfl (ib_in hi) hdg kk
theorem rz (F : Fx G p s m c cc nL own A) (w : Wd G A s.heap ws H locs) (q0 : Nat) {n : Nat} {f : Nat → Int32} (ha : ws[q0]? = some (a, .inl (G.2.1 2, n, .inl f))) {i : Int32} (hi : ib i n = true) (hdg : decode cc pc = .ok (.baload, 1))
    (kk : W p l e R s m args below meth c H locs cells slots Q (F0 m (pc + 1) ls (.int (f i.toNatClampNeg) :: rest))) : W p l e R s m args below meth c H locs cells slots Q (F0 m pc ls (.int i :: .ref a :: rest)) :=
  va_zald F.x F.b F.K w.1 q0 2 ha rfl (ib_in hi) hdg kk
theorem rb (F : Fx G p s m c cc nL own A) (w : Wd G A s.heap ws H locs) (q0 : Nat) {n : Nat} {f : Nat → Int32} (ha : ws[q0]? = some (a, .inl (G.2.1 3, n, .inl f))) {i : Int32} (hi : ib i n = true) (hdg : decode cc pc = .ok (.baload, 1))
    (kk : W p l e R s m args below meth c H locs cells slots Q (F0 m (pc + 1) ls (.int (f i.toNatClampNeg) :: rest))) : W p l e R s m args below meth c H locs cells slots Q (F0 m pc ls (.int i :: .ref a :: rest)) :=
  va_bald F.x F.b F.K w.1 q0 3 ha rfl (ib_in hi) hdg kk
theorem ris (F : Fx G p s m c cc nL own A) (w : Wd G A s.heap ws H locs) (q0 : Nat) {n : Nat} {f : Nat → Int32} (ha : ws[q0]? = some (a, .inl (G.2.1 0, n, .inl f))) {i x : Int32} (hi : ib i n = true) (hws : ws.set q0 (a, .inl (G.2.1 0, n, .inl (upd f i.toNatClampNeg x))) = ws') (hdg : decode cc pc = .ok (.iastore, 1))
    (kk : ∀ (H1 : Heap) (locs1 : List Loc), Wd G A s.heap ws' H1 locs1 → W p l e R s m args below meth c H1 locs1 cells slots Q (F0 m (pc + 1) ls rest)) : W p l e R s m args below meth c H locs cells slots Q (F0 m pc ls (.int x :: .int i :: .ref a :: rest)) :=
  va_iast F.x F.b F.K w.1 w.2.1 w.2.2 q0 0 ha rfl (ib_in hi) hdg (fun H1 locs1 h1 h2 h3 => kk H1 locs1 (by rw [← hws]; exact ⟨h1, h2, h3⟩))
theorem rcs (F : Fx G p s m c cc nL own A) (w : Wd G A s.heap ws H locs) (q0 : Nat) {n : Nat} {f : Nat → Int32} (ha : ws[q0]? = some (a, .inl (G.2.1 1, n, .inl f))) {i x : Int32} (hi : ib i n = true) (hws : ws.set q0 (a, .inl (G.2.1 1, n, .inl (upd f i.toNatClampNeg (vp_nar .char x)))) = ws') (hdg : decode cc pc = .ok (.castore, 1))
    (kk : ∀ (H1 : Heap) (locs1 : List Loc), Wd G A s.heap ws' H1 locs1 → W p l e R s m args below meth c H1 locs1 cells slots Q (F0 m (pc + 1) ls rest)) : W p l e R s m args below meth c H locs cells slots Q (F0 m pc ls (.int x :: .int i :: .ref a :: rest)) :=
  va_cast F.x F.b F.K w.1 w.2.1 w.2.2 q0 1 ha rfl (ib_in hi) hdg (fun H1 locs1 h1 h2 h3 => kk H1 locs1 (by rw [← hws]; exact ⟨h1, h2, h3⟩))
theorem rzs (F : Fx G p s m c cc nL own A) (w : Wd G A s.heap ws H locs) (q0 : Nat) {n : Nat} {f : Nat → Int32} (ha : ws[q0]? = some (a, .inl (G.2.1 2, n, .inl f))) {i x : Int32} (hi : ib i n = true) (hws : ws.set q0 (a, .inl (G.2.1 2, n, .inl (upd f i.toNatClampNeg (vp_nar .boolean x)))) = ws') (hdg : decode cc pc = .ok (.bastore, 1))
    (kk : ∀ (H1 : Heap) (locs1 : List Loc), Wd G A s.heap ws' H1 locs1 → W p l e R s m args below meth c H1 locs1 cells slots Q (F0 m (pc + 1) ls rest)) : W p l e R s m args below meth c H locs cells slots Q (F0 m pc ls (.int x :: .int i :: .ref a :: rest)) :=
  va_zast F.x F.b F.K w.1 w.2.1 w.2.2 q0 2 ha rfl (ib_in hi) hdg (fun H1 locs1 h1 h2 h3 => kk H1 locs1 (by rw [← hws]; exact ⟨h1, h2, h3⟩))
theorem rbs (F : Fx G p s m c cc nL own A) (w : Wd G A s.heap ws H locs) (q0 : Nat) {n : Nat} {f : Nat → Int32} (ha : ws[q0]? = some (a, .inl (G.2.1 3, n, .inl f))) {i x : Int32} (hi : ib i n = true) (hws : ws.set q0 (a, .inl (G.2.1 3, n, .inl (upd f i.toNatClampNeg (vp_nar .byte x)))) = ws') (hdg : decode cc pc = .ok (.bastore, 1))
    (kk : ∀ (H1 : Heap) (locs1 : List Loc), Wd G A s.heap ws' H1 locs1 → W p l e R s m args below meth c H1 locs1 cells slots Q (F0 m (pc + 1) ls rest)) : W p l e R s m args below meth c H locs cells slots Q (F0 m pc ls (.int x :: .int i :: .ref a :: rest)) :=
  va_bast F.x F.b F.K w.1 w.2.1 w.2.2 q0 3 ha rfl (ib_in hi) hdg (fun H1 locs1 h1 h2 h3 => kk H1 locs1 (by rw [← hws]; exact ⟨h1, h2, h3⟩))
theorem rl (F : Fx G p s m c cc nL own A) (w : Wd G A s.heap ws H locs) (q0 t0 : Nat) {cA : ClassId} {x : vp_A} (ha : ws[q0]? = some (a, .inl (cA, x))) {t : FieldType} (ht : (tyL G.2.1)[t0]? = some (cA, t)) {v : Int32} (hv : Int32.ofNat x.1 = v) (hdg : decode cc pc = .ok (.arraylength, 1))
    (kk : W p l e R s m args below meth c H locs cells slots Q (F0 m (pc + 1) ls (.int v :: rest))) : W p l e R s m args below meth c H locs cells slots Q (F0 m pc ls (.ref a :: rest)) :=
  va_alen F.x F.b F.K w.1 q0 t0 ha ht hv hdg kk
/-- the ends -/
theorem ei (F : Fx G p s m c cc nL own A) (w : Wd G A s.heap ws H locs) {ty : FieldType} (hr : meth.sig.returnType = some ty) (hlocks : meth.locks = false) {r r' : Int32} {w1 : va_W} (hn : narrow ty (.int r') = .int r') (h : r' = r) (hw : ws = w1) (hdg : decode cc pc = .ok (.ireturn, 1)) : W p l e R s m args below meth c H locs 0 0 (QI G A w1 r below args s) (F0 m pc ls [.int r']) := by
  subst hw
  exact W.zret F.x F.b hr hn (fun t ht hW => ⟨⟨r', (), rfl, h, by rw [ht]; exact w.1, w.2.1⟩, w.2.2.F ht⟩) w.2.2.2.2 hdg hlocks
theorem ev (F : Fx G p s m c cc nL own A) (w : Wd G A s.heap ws H locs) (hr : meth.sig.returnType = none) (hlocks : meth.locks = false) {w1 : va_W} (hw : ws = w1) (hdg : decode cc pc = .ok (.return_, 1)) : W p l e R s m args below meth c H locs 0 0 (QV G A w1 below args s) (F0 m pc ls []) := by
  subst hw
  exact W.vret F.x F.b hr (fun t ht hW => ⟨⟨(), rfl, trivial, by rw [ht]; exact w.1, w.2.1⟩, w.2.2.F ht⟩) w.2.2.2.2 hdg hlocks
end ROWS
/-- the start -/
theorem CI.of {G : cG} (g : GOK G) {y : MethodName} {b : ByteArray} {n : Nat} {ret : FieldType} {fr lo : Nat} {av : List Value} {w0 w1 : va_W} {r : Int32} {own : String} (hp : plainName y.cls = true) (hown : y.cls = own) (hn : (lg_sl av).length ≤ n)
    (body : ∀ (p : Program) (l : Launch) (e : Env) (s : State) (m : MethodId) (below : List Frame) (meth : Method) (c : Code) (A : Nat → Prop) (ls : Array Slot), Fx G p s m c b n own A → meth.sig.returnType = some ret → meth.locks = false → Wd G A s.heap w0 s.heap [] → lv_has ls n (lv_args 0 av) →
      W p l e { frames := fr, cells := 0, slots := 0, locals := lo } s m av.toArray below meth c s.heap [] 0 0 (QI G A w1 r below av.toArray s) (F0 m 0 ls [])) : CI G y b n ret fr lo av w0 w1 r := by
  intro l sz
  refine Met.ofW (cc := b) (maxL := n) (ret := some ret) hp rfl ?_
  intro p e s m args below meth c s₁ B hml hv
  obtain ⟨rfl, hK, hz, hsz, hP, hD0⟩ := hv
  have hnm : s.vm.findClass y.cls = some m.cls := findClass_of_methodNamed B.named
  subst hsz
  have hD := hD0.self (sz := s.heap.size)
  have hzz : ∀ q, va_A w0 s.heap.size q → G.2.2.1 ≤ q := fun q h => h.elim (fun ⟨k, e, h1⟩ => hD0.2 k _ h1) (fun h1 => Nat.le_trans hz h1)
  have hAA : ∀ q, s.heap.size ≤ q → va_A w0 s.heap.size q := fun q h => Or.inr h
  have hl := lv_entry av (n := n) hn
  rw [lg_entry_eq]
  exact body p l e s m below meth c _ _ ⟨g, B.exec, B.bytes, hml, by rw [← hown]; exact hnm, hK, hz, hAA, hzz⟩ B.returns B.notSynchronized ⟨hP, hD, va_S.rf⟩ hl
theorem CV.of {G : cG} (g : GOK G) {y : MethodName} {b : ByteArray} {n : Nat} {fr lo : Nat} {av : List Value} {w0 w1 : va_W} {own : String} (hp : plainName y.cls = true) (hown : y.cls = own) (hn : (lg_sl av).length ≤ n)
    (body : ∀ (p : Program) (l : Launch) (e : Env) (s : State) (m : MethodId) (below : List Frame) (meth : Method) (c : Code) (A : Nat → Prop) (ls : Array Slot), Fx G p s m c b n own A → meth.sig.returnType = none → meth.locks = false → Wd G A s.heap w0 s.heap [] → lv_has ls n (lv_args 0 av) →
      W p l e { frames := fr, cells := 0, slots := 0, locals := lo } s m av.toArray below meth c s.heap [] 0 0 (QV G A w1 below av.toArray s) (F0 m 0 ls [])) : CV G y b n fr lo av w0 w1 := by
  intro l sz
  refine Met.ofW (cc := b) (maxL := n) (ret := none) hp rfl ?_
  intro p e s m args below meth c s₁ B hml hv
  obtain ⟨rfl, hK, hz, hsz, hP, hD0⟩ := hv
  have hnm : s.vm.findClass y.cls = some m.cls := findClass_of_methodNamed B.named
  subst hsz
  have hD := hD0.self (sz := s.heap.size)
  have hzz : ∀ q, va_A w0 s.heap.size q → G.2.2.1 ≤ q := fun q h => h.elim (fun ⟨k, e, h1⟩ => hD0.2 k _ h1) (fun h1 => Nat.le_trans hz h1)
  have hAA : ∀ q, s.heap.size ≤ q → va_A w0 s.heap.size q := fun q h => Or.inr h
  have hl := lv_entry av (n := n) hn
  rw [lg_entry_eq]
  exact body p l e s m below meth c _ _ ⟨g, B.exec, B.bytes, hml, by rw [← hown]; exact hnm, hK, hz, hAA, hzz⟩ B.returns B.notSynchronized ⟨hP, hD, va_S.rf⟩ hl

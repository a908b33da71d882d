/-! CONTRACT with a text constant (an address) as the answer -/
def CR (G : cG) (y : MethodName) (b : ByteArray) (n : Nat) (ret : FieldType) (fr lo : Nat) (av : List Value) (w0 w1 : va_W) (a : Nat) : Prop :=
  ∀ (l : Launch) (sz : Nat), Met l y (wy y b n (some ret)) { frames := fr, cells := 0, slots := 0, locals := lo } (va_Pc av (PreB G sz w0)) (va_Qr (fun (_ : Unit) => True) (fun _ a' t => a' = a ∧ PosB G sz w0 w1 t) (va_A w0 sz)) 0 0 (va_A w0 sz)
abbrev QR (G : cG) (A : Nat → Prop) (w1 : va_W) (a : Nat) (below : List Frame) (args : Array Value) (s : State) : State → Prop := MQ below (va_Qr (fun (_ : Unit) => True) (fun _ a' t => a' = a ∧ (va_P G.1 vwCl w1 t.heap ∧ va_D A w1)) A) args s 0 0 A
theorem CR.of {G : cG} (g : GOK G) {y : MethodName} {b : ByteArray} {n : Nat} {ret : FieldType} {fr lo : Nat} {av : List Value} {w0 w1 : va_W} {a : Nat} {own : String} (hp : plainName y.cls = true) (hown : y.cls = own) (hn : (lg_sl av).length ≤ n)
    (body : ∀ (p : Program) (l : Launch) (e : Env) (s : State) (m : MethodId) (below : List Frame) (meth : Method) (c : Code) (A : Nat → Prop) (ls : Array Slot), Fx G p s m c b n own A → meth.sig.returnType = some ret → meth.locks = false → Wd G A s.heap w0 s.heap [] → lv_has ls n (lv_args 0 av) →
      W p l e { frames := fr, cells := 0, slots := 0, locals := lo } s m av.toArray below meth c s.heap [] 0 0 (QR G A w1 a below av.toArray s) (F0 m 0 ls [])) : CR G y b n ret fr lo av w0 w1 a := by
  intro l sz
  refine Met.ofW (cc := b) (maxL := n) (ret := some ret) hp rfl ?_
  intro p e s m args below meth c s₁ B hml hv
  obtain ⟨rfl, hK, hz, hsz, hP, hD0⟩ := hv
  have hnm : s.vm.findClass y.cls = some m.cls := findClass_of_methodNamed B.named
  subst hsz
  have hD := hD0.self (sz := s.heap.size)
  have hzz : ∀ q, va_A w0 s.heap.size q → G.2.2.1 ≤ q := fun q h => h.elim (fun ⟨k, e, h1⟩ => hD0.2 k _ h1) (fun h1 => Nat.le_trans hz h1)
  have hAA : ∀ q, s.heap.size ≤ q → va_A w0 s.heap.size q := fun q h => Or.inr h
  have hl := lv_entry av (n := n) hn
  rw [lg_entry_eq]
  exact body p l e s m below meth c _ _ ⟨g, B.exec, B.bytes, hml, by rw [← hown]; exact hnm, hK, hz, hAA, hzz⟩ B.returns B.notSynchronized ⟨hP, hD, va_S.rf⟩ hl
section STRC
variable {G : cG} {p : Program} {l : Launch} {e : Env} {R : Room} {s : State} {m : MethodId} {args : Array Value} {below : List Frame} {meth : Method} {c : Code} {H : Heap} {locs : List Loc} {cells slots : Nat} {Q : State → Prop} {cc : ByteArray} {nL : Nat} {own : String} {A : Nat → Prop} {ws : va_W} {pc : Nat} {ls : Array Slot} {rest : List Value}
theorem er (F : Fx G p s m c cc nL own A) (w : Wd G A s.heap ws H locs) {n : String} (hr : meth.sig.returnType = some (.object n)) (hlocks : meth.locks = false) {a a' : Nat} {w1 : va_W} (h : a' = a) (hw : ws = w1) (hdg : decode cc pc = .ok (.areturn, 1)) : W p l e R s m args below meth c H locs 0 0 (QR G A w1 a below args s) (F0 m pc ls [.ref a']) := by
  subst hw
  exact W.aret F.x F.b hr (Or.inl ⟨n, rfl⟩) (Or.inr ⟨a', rfl⟩) (fun t ht hW => ⟨⟨(), a', rfl, trivial, h, by rw [ht]; exact w.1, w.2.1⟩, w.2.2.F ht⟩) w.2.2.2.2 hdg hlocks
/-- CALL, invokestatic, an address as the answer, no cell used -/
theorem kSr (F : Fx G p s m c cc nL own A) (w : Wd G A s.heap ws H locs) {y : MethodName} {b : ByteArray} {n k idx fr lo : Nat} {ret : FieldType} {As : List Value} {a : Nat}
    (hc : CR G y b n ret fr lo As [] [] a) (Y : YM y b n (some ret) k) (V : YS y) (hl : Cond.methodLink own idx y ∈ lw_tbl)
    (hRm : fr + 1 ≤ R.frames ∧ 8 + (n + 11) + lo ≤ R.locals) (hlen : As.length = k) (hls : ls.size = nL) {st0 : List Value} (hst : st0 = As.reverse ++ rest) (hrm : (rest.map fun v => v.category).sum ≤ 8) (hdg : decode cc pc = .ok (.invokestatic idx, 3)) (hf : cells ≤ R.cells ∧ slots ≤ R.slots)
    (kk : ∀ (H1 : Heap) (locs1 : List Loc), Wd G A s.heap ws H1 locs1 → W p l e R s m args below meth c H1 locs1 cells slots Q (F0 m (pc + 3) ls (.ref a :: rest))) : W p l e R s m args below meth c H locs cells slots Q (F0 m pc ls st0) := by
  subst hst
  have hFc : ∀ q, va_A [] H.size q → A q := fun q h => h.elim (fun ⟨k, e, h1⟩ => by simp at h1) (fun h1 => F.fA q (Nat.le_trans w.2.2.1 h1))
  refine va_callr (va_runS (As := As) (rest := rest) (nL := nL) (Ts := []) ⟨F.x, F.b, F.ml, F.o, fun _ h => nomatch h⟩ (hc l H.size) ⟨Y.B F.t (F.t _ hl rfl _) hRm, F.t _ V rfl _⟩ ⟨fun a U g mk q => ⟨q.1, PreB.calling F.1 U g mk a q.2⟩, fun U hU hW => ⟨rfl, F.pre w [] rfl rfl hU hW⟩⟩ rfl hlen hls rfl (lv_room hrm) hdg ⟨hf.1, hf.2⟩) w.2.2 (fun q _ h => hFc q h) hFc (fun u ra t H1 locs1 ht hvm hw hB hz1 hk1 hS => ?_)
  obtain ⟨rfl, -⟩ := hB
  refine kk H1 locs1 ⟨?_, w.2.1, hS⟩
  exact w.1.kept (fun k x hx => hk1 x.1 ((w.1 k x hx).lt) (fun h => h.elim (fun ⟨k, e, h1⟩ => by simp at h1) (fun h1 => absurd ((w.1 k x hx).lt) (by omega))))
end STRC

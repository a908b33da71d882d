/-! CALLS of static methods: by their own class, by a nest mate -/
def YS (y : MethodName) : Prop := Cond.static y ∈ lw_tbl
section STAT
variable {G : cG} {p : Program} {l : Launch} {e : Env} {R : Room} {s : State} {m : MethodId} {args : Array Value} {below : List Frame} {meth : Method} {c : Code} {H : Heap} {locs : List Loc} {cells slots : Nat} {Q : State → Prop} {cc : ByteArray} {nL : Nat} {own : String} {A : Nat → Prop} {ws : va_W} {pc : Nat} {ls : Array Slot} {rest : List Value}
/-- CALL, invokestatic, int answer, no cell used -/
theorem kSi (F : Fx G p s m c cc nL own A) (w : Wd G A s.heap ws H locs) {y : MethodName} {b : ByteArray} {n k idx fr lo : Nat} {ret : FieldType} {As : List Value} {r : Int32}
    (hc : CI G y b n ret fr lo As [] [] r) (Y : YM y b n (some ret) k) (V : YS y) (hl : Cond.methodLink own idx y ∈ lw_tbl)
    (hRm : fr + 1 ≤ R.frames ∧ 8 + (n + 11) + lo ≤ R.locals) (hlen : As.length = k) (hls : ls.size = nL) {st0 : List Value} (hst : st0 = As.reverse ++ rest) (hrm : (rest.map fun v => v.category).sum ≤ 8) (hdg : decode cc pc = .ok (.invokestatic idx, 3)) (hf : cells ≤ R.cells ∧ slots ≤ R.slots)
    (kk : ∀ (H1 : Heap) (locs1 : List Loc), Wd G A s.heap ws H1 locs1 → W p l e R s m args below meth c H1 locs1 cells slots Q (F0 m (pc + 3) ls (.int r :: rest))) : W p l e R s m args below meth c H locs cells slots Q (F0 m pc ls st0) := by
  subst hst
  have hFc : ∀ q, va_A [] H.size q → A q := fun q h => h.elim (fun ⟨k, e, h1⟩ => by simp at h1) (fun h1 => F.fA q (Nat.le_trans w.2.2.1 h1))
  refine va_calli (va_runS (As := As) (rest := rest) (nL := nL) (Ts := []) ⟨F.x, F.b, F.ml, F.o, fun _ h => nomatch h⟩ (hc l H.size) ⟨Y.B F.t (F.t _ hl rfl _) hRm, F.t _ V rfl _⟩ ⟨fun a U g mk q => ⟨q.1, PreB.calling F.1 U g mk a q.2⟩, fun U hU hW => ⟨rfl, F.pre w [] rfl rfl hU hW⟩⟩ rfl hlen hls rfl (lv_room hrm) hdg ⟨hf.1, hf.2⟩) w.2.2 (fun q _ h => hFc q h) hFc (fun r' u t H1 locs1 ht hvm hw hB hz1 hk1 hS => ?_)
  subst hw
  refine kk H1 locs1 ⟨?_, w.2.1, hS⟩
  exact w.1.kept (fun k x hx => hk1 x.1 ((w.1 k x hx).lt) (fun h => h.elim (fun ⟨k, e, h1⟩ => by simp at h1) (fun h1 => absurd ((w.1 k x hx).lt) (by omega))))
/-- .. of a nest mate -/
theorem kSNi (F : Fx G p s m c cc nL own A) (w : Wd G A s.heap ws H locs) {y : MethodName} {b : ByteArray} {n k idx fr lo : Nat} {host : String} {ret : FieldType} {As : List Value} {r : Int32}
    (hc : CI G y b n ret fr lo As [] [] r) (Y : YM y b n (some ret) k) (V : YS y) (hl : Cond.methodLinkNest own idx y host ∈ lw_tbl)
    (hRm : fr + 1 ≤ R.frames ∧ 8 + (n + 11) + lo ≤ R.locals) (hlen : As.length = k) (hls : ls.size = nL) {st0 : List Value} (hst : st0 = As.reverse ++ rest) (hrm : (rest.map fun v => v.category).sum ≤ 8) (hdg : decode cc pc = .ok (.invokestatic idx, 3)) (hf : cells ≤ R.cells ∧ slots ≤ R.slots)
    (kk : ∀ (H1 : Heap) (locs1 : List Loc), Wd G A s.heap ws H1 locs1 → W p l e R s m args below meth c H1 locs1 cells slots Q (F0 m (pc + 3) ls (.int r :: rest))) : W p l e R s m args below meth c H locs cells slots Q (F0 m pc ls st0) := by
  subst hst
  have hFc : ∀ q, va_A [] H.size q → A q := fun q h => h.elim (fun ⟨k, e, h1⟩ => by simp at h1) (fun h1 => F.fA q (Nat.le_trans w.2.2.1 h1))
  obtain ⟨⟨h1, h2⟩, h3, h4, h5⟩ := Y
  have cw : va_CN R s args own idx y host b n (some ret) (wy y b n (some ret)) { frames := fr, cells := 0, slots := 0, locals := lo } 0 0 k := by
    refine ⟨⟨rfl, rfl, hRm.1, hRm.2, fun w hw a' U hW => ?_, List.mem_singleton.mpr rfl⟩, F.t _ h1 (by simp [kw, h2]) _, F.t _ h3 rfl _, h4, fun sig h => ?_, F.t _ hl rfl _⟩
    · rw [List.mem_singleton.mp hw]
      exact (F.t.warm hW) _ h1 (by simp [kw, h2]) _
    · rw [h] at h5
      exact (Option.some.inj h5).symm
  refine va_calli (va_runSN (As := As) (rest := rest) (nL := nL) (Ts := []) ⟨F.x, F.b, F.ml, F.o, fun _ h => nomatch h⟩ (hc l H.size) ⟨cw, F.t _ V rfl _, trivial⟩ ⟨fun a U g mk q => ⟨q.1, PreB.calling F.1 U g mk a q.2⟩, fun U hU hW => ⟨rfl, F.pre w [] rfl rfl hU hW⟩⟩ rfl hlen hls rfl (lv_room hrm) hdg ⟨hf.1, hf.2⟩) w.2.2 (fun q _ h => hFc q h) hFc (fun r' u t H1 locs1 ht hvm hw hB hz1 hk1 hS => ?_)
  subst hw
  refine kk H1 locs1 ⟨?_, w.2.1, hS⟩
  exact w.1.kept (fun k x hx => hk1 x.1 ((w.1 k x hx).lt) (fun h => h.elim (fun ⟨k, e, h1⟩ => by simp at h1) (fun h1 => absurd ((w.1 k x hx).lt) (by omega))))
end STAT

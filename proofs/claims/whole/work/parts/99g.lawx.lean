/-! THE LAW'S BODY: the whole world, the script, what a case owes -/
def wAll (T : Nat → ClassId) (ad : Nat → Nat → Nat) (K S Fc C D B : Mem) (cu ct : Nat) (hs : hS) (sv : sV) (ou : oB) (fo : Nat) (f : Nat → Int64) (fd : Nat) (fD : Nat → UInt64) (mo : Nat → Nat) (M : Mem) : List va_W := [wXo T (ad 0) (xF ad) (svV sv) K, wSh T (ad 1) S, wSh T (ad 2) Fc, wTe T (ad 4) C, wSb T (ad 5) ou, wAd T (ad 6) D, wAb T (ad 7) B, wHo T (ad 3) cu ct hs, [(fo, .inl (T 4, 1, .inr (.inl f)))], [(fd, .inl (T 5, 1, .inr (.inr (.inr (.inl fD)))))], wMo T mo M, hsL T hs, blk T sv]
section LAWX
variable {G : cG} {p : Program} {l : Launch} {e : Env} {R : Room} {s : State} {m : MethodId} {args : Array Value} {below : List Frame} {meth : Method} {c : Code} {H : Heap} {locs : List Loc} {cells slots : Nat} {Q : State → Prop} {cc : ByteArray} {nL : Nat} {own : String} {A : Nat → Prop} {ws : va_W} {pc : Nat} {ls : Array Slot} {rest : List Value}
/-- an int of the script -/
theorem rX (F : Fx G p s m c cc nL own A) (w : Wd G A s.heap ws H locs) {b L : Nat} {xs : Nat → Int32} (hX : va_X b L xs s s.heap) (hbA : ¬ A b) (hbl : b < s.heap.size) {j : Int32} {k : Nat} (hj : j = nI k) (hk : k < L) (hL : L ≤ 2560) (hdg : decode cc pc = .ok (.iaload, 1))
    (kk : W p l e R s m args below meth c H locs cells slots Q (F0 m (pc + 1) ls (.int (xs k) :: rest))) : W p l e R s m args below meth c H locs cells slots Q (F0 m pc ls (.int j :: .ref b :: rest)) := by
  subst hj
  refine va_sld F.x F.b hX hbl hbA w.2.2 (nI_in hk (by omega)) hdg ?_
  rw [nI_clamp (by omega)]
  exact kk
/-- two longs alike -/
theorem rLc (hexec : p.tables.exec = Jvm.exec) (hb : c.code = cc) {x y : Int64} (hxy : x = y) (hdg : decode cc pc = .ok (.lcmp, 1))
    (k : W p l e R s m args below meth c H locs cells slots Q (F0 m (pc + 1) ls (.int 0 :: rest))) : W p l e R s m args below meth c H locs cells slots Q (F0 m pc ls (.long y :: .long x :: rest)) := by
  subst hxy
  intro T hT X
  obtain ⟨t, a, b⟩ := k T hT X
  refine ⟨t, ?_, b⟩
  jvm_step X.here [X.here.top, hexec, hb, hdg]
  exact a
/-- .. two doubles that are numbers -/
theorem rDc (hexec : p.tables.exec = Jvm.exec) (hb : c.code = cc) {x y : UInt64} (hxy : x = y) (hn : FP.Core.dIsNaN x = false) {op : CmpOp} (hdg : decode cc pc = .ok (.dcmp op, 1))
    (k : W p l e R s m args below meth c H locs cells slots Q (F0 m (pc + 1) ls (.int 0 :: rest))) : W p l e R s m args below meth c H locs cells slots Q (F0 m pc ls (.double y :: .double x :: rest)) := by
  subst hxy
  refine lv_dcmp hexec hb hdg ?_
  rw [show FP.dcmp x x = some .eq from FP.Core.dcmp_self ((FP.Core.notNaN_iff x).mp hn)]
  exact k
end LAWX
/-- what a case of the law goes on to -/
def KKc (G : cG) (p : Program) (l : Launch) (e : Env) (R : Room) (s : State) (m : MethodId) (args : Array Value) (below : List Frame) (meth : Method) (c : Code) (A : Nat → Prop) (Q : State → Prop) (ad : Nat → Nat → Nat) (fo fd : Nat) (mo : Nat → Nat) (b i N cells slots : Nat) : Prop := ∀ (K S Fc C D B : Mem) (cu ct : Nat) (hs : hS) (sv : sV) (ou : oB) (M : Mem) (f : Nat → Int64) (fD : Nat → UInt64) (H : Heap) (locs : List Loc) (ls : Array Slot), Wd G A s.heap (fl (wAll G.2.1 ad K S Fc C D B cu ct hs sv ou fo f fd fD mo M)) H locs → Top (N + 64) K S C cu ct hs sv ou M → lv_has ls 9 [(5, .int (nI i)), (4, .ref fd), (3, .ref fo), (2, .ref (mo 0)), (1, .ref ((ad 0) 0)), (0, .ref b)] → W p l e R s m args below meth c H locs (cells + 20) (slots + 200) Q (F0 m 2836 ls [])

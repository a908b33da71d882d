/-! THE GROUND: one list of table words for every method (TW), one context (G), one form of contract (CI, CV), the calls -/
/-- the words of the tables that stay true as the tables warm -/
def kw (w : Cond) : Bool := goodWord w || (match w with
  | .fieldLinkNest .. => true
  | .methodLinkNest .. => true
  | .castable .. => true
  | .declares .. => true
  | _ => false)
def TW (U : State) : Prop := ∀ w ∈ lw_tbl, kw w = true → ∀ A : Array Value, w.before A U = true
theorem TW.warm {s U : State} (hW : s.WarmedH U.vm) (h : TW s) : TW U := by
  intro w hw hk A
  have h1 := h w hw hk
  by_cases hg : goodWord w = true
  · exact word_at hW (good_of_word hg) (h1 #[])
  · cases w with
    | fieldLinkNest a i b n d hh => exact va_Nw.use rfl (va_Nw.warmF hW (va_Nw.of rfl (h1 #[])))
    | methodLinkNest a i x hh => exact va_Nw.use rfl (va_Nw.warmM hW (va_Nw.of rfl (h1 #[])))
    | castable C T => exact va_Nw.use rfl (va_Nw.warmC hW (va_Nw.of rfl (h1 #[])))
    | declares x => exact va_Nw.use rfl (va_Nw.warmD hW (va_Nw.of rfl (h1 #[])))
    | _ => exact absurd (by simpa [kw] using hk) hg
theorem TW.of {s : State} {A0 : Array Value} (h : ∀ w ∈ lw_tbl, w.before A0 s = true) : TW s := by
  intro w hw hk A
  have h1 := h w hw
  by_cases hg : goodWord w = true
  · exact word_at (State.WarmedH.refl s) (good_of_word hg) h1
  · cases w with
    | fieldLinkNest a i b n d hh => exact va_tabs rfl rfl h1
    | methodLinkNest a i x hh => exact va_tabs rfl rfl h1
    | castable C T => exact va_tabs rfl rfl h1
    | declares x => exact va_tabs rfl rfl h1
    | _ => exact absurd (by simpa [kw] using hk) hg
theorem TW.get {s : State} (h : TW s) {w : Cond} (i : Nat) (hi : lw_tbl[i]? = some w) (hk : kw w = true) {A : Array Value} : w.before A s = true := h w (List.mem_of_getElem? hi) hk A
/-- the context: the classes' numbers, the array classes' numbers, where the heap of the start ends, what holds of the cells of the start for ever -/
abbrev cG : Type := va_G × (Nat → ClassId) × Nat × (State → Heap → Prop)
abbrev tyL (T : Nat → ClassId) : List (ClassId × FieldType) := [(T 0, .int), (T 1, .char), (T 2, .boolean), (T 3, .byte), (T 4, .long), (T 5, .long), (T 6, .object "CustomsShed$Shed")]
def GOK (G : cG) : Prop := (∀ (s U : State) (H : Heap), s.WarmedH U.vm → G.2.2.2 s H → G.2.2.2 U H) ∧ ∀ (U : State) (H H1 : Heap), (∀ a : Nat, a < H.size → a < G.2.2.1 → H1[a]? = H[a]?) → G.2.2.2 U H → G.2.2.2 U H1
def KK (G : cG) (U : State) (H : Heap) : Prop := TW U ∧ va_K G.1 vwCl (tyL G.2.1) U ∧ G.2.2.2 U H
theorem KK.warm {G : cG} (g : GOK G) {s U : State} {H : Heap} (hW : s.WarmedH U.vm) (h : KK G s H) : KK G U H := ⟨h.1.warm hW, va_K.moved hW.alike h.2.1, g.1 s U H hW h.2.2⟩
theorem KK.kept {G : cG} (g : GOK G) {U : State} {H H1 : Heap} (h : KK G U H) (hq : ∀ a : Nat, a < H.size → a < G.2.2.1 → H1[a]? = H[a]?) : KK G U H1 := ⟨h.1, h.2.1, g.2 U H H1 hq h.2.2⟩
theorem KK.calling {G : cG} (g : GOK G) {U : State} (gf : JFrame) (mk : MethodId) (a : Array Value) (h : KK G U U.heap) : KK G (U.calling gf mk a) (U.calling gf mk a).heap := KK.warm g (s := U) (U := U.calling gf mk a) (State.WarmedH.refl U) h
/-- a method's start over the cells w0: its tables, its cells, the heap's size -/
def PreB (G : cG) (sz : Nat) (w0 : va_W) (U : State) : Prop := KK G U U.heap ∧ G.2.2.1 ≤ sz ∧ U.heap.size = sz ∧ va_P G.1 vwCl w0 U.heap ∧ va_D (fun q => G.2.2.1 ≤ q) w0
theorem PreB.calling {G : cG} (g : GOK G) {sz : Nat} {w0 : va_W} (U : State) (gf : JFrame) (mk : MethodId) (a : Array Value) (h : PreB G sz w0 U) : PreB G sz w0 (U.calling gf mk a) := ⟨KK.calling g gf mk a h.1, h.2.1, h.2.2.1, h.2.2.2.1, h.2.2.2.2⟩
def PosB (G : cG) (sz : Nat) (w0 w1 : va_W) (t : State) : Prop := va_P G.1 vwCl w1 t.heap ∧ va_D (va_A w0 sz) w1
abbrev wy (y : MethodName) (b : ByteArray) (n : Nat) (ret : Option FieldType) : List Cond := [.code y b n ret]
/-- CONTRACT, int (char, boolean) answer r, no cell made: from the cells w0 to the cells w1 -/
def CI (G : cG) (y : MethodName) (b : ByteArray) (n : Nat) (ret : FieldType) (fr lo : Nat) (av : List Value) (w0 w1 : va_W) (r : Int32) : Prop :=
  ∀ (l : Launch) (sz : Nat), Met l y (wy y b n (some ret)) { frames := fr, cells := 0, slots := 0, locals := lo } (va_Pc av (PreB G sz w0)) (va_Qi (fun (r' : Int32) (_ : Unit) => r' = r) (fun _ t => PosB G sz w0 w1 t) (va_A w0 sz)) 0 0 (va_A w0 sz)
/-- CONTRACT, no answer -/
def CV (G : cG) (y : MethodName) (b : ByteArray) (n : Nat) (fr lo : Nat) (av : List Value) (w0 w1 : va_W) : Prop :=
  ∀ (l : Launch) (sz : Nat), Met l y (wy y b n none) { frames := fr, cells := 0, slots := 0, locals := lo } (va_Pc av (PreB G sz w0)) (va_Qv (fun (_ : Unit) => True) (fun _ t => PosB G sz w0 w1 t) (va_A w0 sz)) 0 0 (va_A w0 sz)
/-- what the tables say of a method -/
def YM (y : MethodName) (b : ByteArray) (n : Nat) (ret : Option FieldType) (k : Nat) : Prop := (Cond.code y b n ret ∈ lw_tbl ∧ goodWord (Cond.code y b n ret) = true) ∧ (Cond.initialized y.cls ∈ lw_tbl) ∧ (y.cls ≠ "java/lang/invoke/MethodHandle" ∧ y.cls ≠ "java/lang/invoke/VarHandle") ∧ (parseMethodDescriptor y.desc).map (fun d => d.parameters.length) = some k
def YV (y : MethodName) : Prop := Cond.instanceMethod y ∈ lw_tbl ∧ Cond.selects y.cls y y ∈ lw_tbl
/-- what stays fixed in a method's walk -/
def Fx (G : cG) (p : Program) (s : State) (m : MethodId) (c : Code) (cc : ByteArray) (nL : Nat) (own : String) (A : Nat → Prop) : Prop :=
  GOK G ∧ p.tables.exec = Jvm.exec ∧ c.code = cc ∧ c.maxLocals = nL ∧ s.vm.findClass own = some m.cls ∧ KK G s s.heap ∧ G.2.2.1 ≤ s.heap.size ∧ (∀ q, s.heap.size ≤ q → A q) ∧ (∀ q, A q → G.2.2.1 ≤ q)
/-- the world: the cells ws, apart, of A's; nothing outside A changed since H0 -/
def Wd (G : cG) (A : Nat → Prop) (H0 : Heap) (ws : va_W) (H : Heap) (locs : List Loc) : Prop := va_P G.1 vwCl ws H ∧ va_D A ws ∧ va_S A H0 H locs
section BASE
variable {G : cG} {p : Program} {l : Launch} {e : Env} {R : Room} {s : State} {m : MethodId} {args : Array Value} {below : List Frame} {meth : Method} {c : Code} {H : Heap} {locs : List Loc} {cells slots : Nat} {Q : State → Prop} {cc : ByteArray} {nL : Nat} {own : String} {A : Nat → Prop} {ws : va_W} {pc : Nat} {ls : Array Slot} {rest : List Value}
theorem Fx.x (F : Fx G p s m c cc nL own A) : p.tables.exec = Jvm.exec := F.2.1
theorem Fx.b (F : Fx G p s m c cc nL own A) : c.code = cc := F.2.2.1
theorem Fx.ml (F : Fx G p s m c cc nL own A) : c.maxLocals = nL := F.2.2.2.1
theorem Fx.o (F : Fx G p s m c cc nL own A) : s.vm.findClass own = some m.cls := F.2.2.2.2.1
theorem Fx.K (F : Fx G p s m c cc nL own A) : va_K G.1 vwCl (tyL G.2.1) s := F.2.2.2.2.2.1.2.1
theorem Fx.t (F : Fx G p s m c cc nL own A) : TW s := F.2.2.2.2.2.1.1
theorem Fx.fA (F : Fx G p s m c cc nL own A) : ∀ q, s.heap.size ≤ q → A q := F.2.2.2.2.2.2.2.1
theorem Fx.z (F : Fx G p s m c cc nL own A) : ∀ q, A q → G.2.2.1 ≤ q := F.2.2.2.2.2.2.2.2
theorem Wd.P (w : Wd G A s.heap ws H locs) : va_P G.1 vwCl ws H := w.1
theorem Wd.D (w : Wd G A s.heap ws H locs) : va_D A ws := w.2.1
theorem Wd.S (w : Wd G A s.heap ws H locs) : va_S A s.heap H locs := w.2.2
/-- the tables and the cells of the start, as a callee meets them -/
theorem Fx.kk (F : Fx G p s m c cc nL own A) (w : Wd G A s.heap ws H locs) {U : State} (hU : U.heap = H) (hW : s.WarmedH U.vm) : KK G U U.heap := by
  rw [hU]
  exact KK.warm F.1 hW (KK.kept F.1 F.2.2.2.2.2.1 (fun a h1 h2 => w.2.2.2.1 a h1 (fun h => absurd (F.z a h) (by omega))))
theorem Fx.zH (F : Fx G p s m c cc nL own A) (w : Wd G A s.heap ws H locs) : G.2.2.1 ≤ H.size := Nat.le_trans F.2.2.2.2.2.2.1 w.2.2.1
/-- the callee's start out of the caller's world -/
theorem Fx.pre (F : Fx G p s m c cc nL own A) (w : Wd G A s.heap ws H locs) {wc : va_W} (isC : List Nat) (hn : va_nd isC = true) (hC : isC.map (fun i => ws[i]?) = wc.map some) {U : State} (hU : U.heap = H) (hW : s.WarmedH U.vm) : PreB G H.size wc U := by
  refine ⟨F.kk w hU hW, F.zH w, by rw [hU], ?_, ((w.2.1.sub isC hn hC).weaken (fun _ _ _ h => F.z _ h))⟩
  rw [hU]
  refine w.1.sub isC ?_
  have h := congrArg (List.filterMap id) hC
  rw [List.filterMap_map, List.filterMap_map] at h
  simpa [Function.comp_def] using h
/-- .. and the caller's world behind it -/
theorem Wd.back (F : Fx G p s m c cc nL own A) (w : Wd G A s.heap ws H locs) {wc wr w1 ws' : va_W} {H1 : Heap} {locs1 : List Loc} (isC isR ps : List Nat) (hC : isC.map (fun i => ws[i]?) = wc.map some) (hR : isR.map (fun i => ws[i]?) = wr.map some) (hn : va_nd isR = true) (hd : ∀ i ∈ isR, i ∉ isC) (hps : ps.map (fun i => (wr ++ w1)[i]?) = ws'.map some) (hpn : va_nd ps = true)
    (hk : ∀ q : Nat, q < H.size → ¬ va_A wc H.size q → H1[q]? = H[q]?) (hP1 : va_P G.1 vwCl w1 H1) (hD1 : va_D (va_A wc H.size) w1) (hS : va_S A s.heap H1 locs1) : Wd G A s.heap ws' H1 locs1 := by
  obtain ⟨hP, hD⟩ := va_join w.1 w.2.1 isC isR hC hR hn hd hk (va_free w.2.1 w.2.2 F.fA isC hC) hP1 hD1
  refine ⟨?_, hD.sub ps hpn hps, hS⟩
  refine hP.sub ps ?_
  have h := congrArg (List.filterMap id) hps
  rw [List.filterMap_map, List.filterMap_map] at h
  simpa [Function.comp_def] using h
theorem YM.B {y : MethodName} {b : ByteArray} {n k : Nat} {ret : Option FieldType} (Y : YM y b n ret k) (ht : TW s) {idx fr lo cl sl : Nat} (hl : (Cond.methodLink own idx y).before args s = true) (hR : fr + 1 ≤ R.frames ∧ 8 + (n + 11) + lo ≤ R.locals) : CallB R s args own idx y b n ret (wy y b n ret) { frames := fr, cells := cl, slots := sl, locals := lo } cl sl k := by
  obtain ⟨⟨h1, h2⟩, h3, h4, h5⟩ := Y
  refine ⟨rfl, rfl, hR.1, hR.2, fun w hw a' U hW => ?_, List.mem_singleton.mpr rfl, ht _ h1 (by simp [kw, h2]) _, ht _ h3 rfl _, h4, fun sig h => ?_, hl⟩
  · rw [List.mem_singleton.mp hw]
    exact (ht.warm hW) _ h1 (by simp [kw, h2]) _
  · rw [h] at h5
    exact (Option.some.inj h5).symm
/-- CALL, invokevirtual, int answer -/
theorem kVi (F : Fx G p s m c cc nL own A) (w : Wd G A s.heap ws H locs) {y : MethodName} {b : ByteArray} {n k idx fr lo o ci q0 : Nat} {ret : FieldType} {As : List Value} {wc w1 wr ws' : va_W} {r : Int32} {fs : List Value} {qc : vw_C}
    (hc : CI G y b n ret fr lo (.ref o :: As) wc w1 r) (Y : YM y b n (some ret) k) (V : YV y) (hl : Cond.methodLink own idx y ∈ lw_tbl)
    (he : ws[q0]? = some (o, .inr (ci, fs))) (hq : vwCl[ci]? = some qc) (hqc : qc.1 = y.cls)
    (isC isR ps : List Nat) (hnC : va_nd isC = true) (hC : isC.map (fun i => ws[i]?) = wc.map some) (hR : isR.map (fun i => ws[i]?) = wr.map some) (hn : va_nd isR = true) (hd : ∀ i ∈ isR, i ∉ isC) (hps : ps.map (fun i => (wr ++ w1)[i]?) = ws'.map some) (hpn : va_nd ps = true)
    (hRm : fr + 1 ≤ R.frames ∧ 8 + (n + 11) + lo ≤ R.locals) (hlen : As.length = k) (hls : ls.size = nL) {st0 : List Value} (hst : st0 = As.reverse ++ .ref o :: rest) (hrm : (rest.map fun v => v.category).sum ≤ 8) (hdg : decode cc pc = .ok (.invokevirtual idx, 3)) (hf : cells ≤ R.cells ∧ slots ≤ R.slots)
    (kk : ∀ (H1 : Heap) (locs1 : List Loc), Wd G A s.heap ws' H1 locs1 → W p l e R s m args below meth c H1 locs1 cells slots Q (F0 m (pc + 3) ls (.int r :: rest))) : W p l e R s m args below meth c H locs cells slots Q (F0 m pc ls st0) := by
  subst hst
  have hFc := va_free w.2.1 w.2.2 F.fA isC hC
  refine va_calli (va_runV (As := As) (rest := rest) (nL := nL) (Ts := []) ⟨F.x, F.b, F.ml, F.o, fun _ h => nomatch h⟩ (hc l H.size) ⟨Y.B F.t (F.t _ hl rfl _) hRm, F.t _ V.1 rfl _, F.t _ V.2 rfl _⟩ ⟨fun a U g mk q => ⟨q.1, PreB.calling F.1 U g mk a q.2⟩, ?_, fun U hU hW => ⟨rfl, F.pre w isC hnC hC hU hW⟩⟩ rfl hlen hls rfl (lv_room hrm) hdg ⟨hf.1, hf.2⟩) w.2.2 (fun q _ h => hFc q h) hFc (fun r' u t H1 locs1 ht hvm hw hB hz1 hk1 hS => ?_)
  · have h := va_recv F.K w.1 hq he
    rw [hqc] at h
    exact h
  · subst hw
    obtain ⟨hP1, hD1⟩ := hB
    rw [ht] at hP1
    exact kk H1 locs1 (Wd.back F w isC isR ps hC hR hn hd hps hpn hk1 hP1 hD1 hS)
/-- CALL, invokevirtual, no answer -/
theorem kVv (F : Fx G p s m c cc nL own A) (w : Wd G A s.heap ws H locs) {y : MethodName} {b : ByteArray} {n k idx fr lo o ci q0 : Nat} {As : List Value} {wc w1 wr ws' : va_W} {fs : List Value} {qc : vw_C}
    (hc : CV G y b n fr lo (.ref o :: As) wc w1) (Y : YM y b n none k) (V : YV y) (hl : Cond.methodLink own idx y ∈ lw_tbl)
    (he : ws[q0]? = some (o, .inr (ci, fs))) (hq : vwCl[ci]? = some qc) (hqc : qc.1 = y.cls)
    (isC isR ps : List Nat) (hnC : va_nd isC = true) (hC : isC.map (fun i => ws[i]?) = wc.map some) (hR : isR.map (fun i => ws[i]?) = wr.map some) (hn : va_nd isR = true) (hd : ∀ i ∈ isR, i ∉ isC) (hps : ps.map (fun i => (wr ++ w1)[i]?) = ws'.map some) (hpn : va_nd ps = true)
    (hRm : fr + 1 ≤ R.frames ∧ 8 + (n + 11) + lo ≤ R.locals) (hlen : As.length = k) (hls : ls.size = nL) {st0 : List Value} (hst : st0 = As.reverse ++ .ref o :: rest) (hrm : (rest.map fun v => v.category).sum ≤ 8) (hdg : decode cc pc = .ok (.invokevirtual idx, 3)) (hf : cells ≤ R.cells ∧ slots ≤ R.slots)
    (kk : ∀ (H1 : Heap) (locs1 : List Loc), Wd G A s.heap ws' H1 locs1 → W p l e R s m args below meth c H1 locs1 cells slots Q (F0 m (pc + 3) ls rest)) : W p l e R s m args below meth c H locs cells slots Q (F0 m pc ls st0) := by
  subst hst
  have hFc := va_free w.2.1 w.2.2 F.fA isC hC
  refine va_callv (va_runV (As := As) (rest := rest) (nL := nL) (Ts := []) ⟨F.x, F.b, F.ml, F.o, fun _ h => nomatch h⟩ (hc l H.size) ⟨Y.B F.t (F.t _ hl rfl _) hRm, F.t _ V.1 rfl _, F.t _ V.2 rfl _⟩ ⟨fun a U g mk q => ⟨q.1, PreB.calling F.1 U g mk a q.2⟩, ?_, fun U hU hW => ⟨rfl, F.pre w isC hnC hC hU hW⟩⟩ rfl hlen hls rfl (lv_room hrm) hdg ⟨hf.1, hf.2⟩) w.2.2 (fun q _ h => hFc q h) hFc (fun u t H1 locs1 ht hvm hw hB hz1 hk1 hS => ?_)
  · have h := va_recv F.K w.1 hq he
    rw [hqc] at h
    exact h
  · obtain ⟨hP1, hD1⟩ := hB
    rw [ht] at hP1
    exact kk H1 locs1 (Wd.back F w isC isR ps hC hR hn hd hps hpn hk1 hP1 hD1 hS)
end BASE

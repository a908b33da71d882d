/-! printed by wip/p61/tools/gen99q.py: the texts of the JDK -/
theorem q941 : Cond.classLink RJ4 18 RJ0 ∈ lw_tbl := List.mem_of_getElem? (i := 941) (by decide +kernel)
theorem q942 : Cond.methodLink RJ4 137 yJ0_init_81219 ∈ lw_tbl := List.mem_of_getElem? (i := 942) (by decide +kernel)
theorem q945 : Cond.methodLink RJ0 489 yJ0_init_db425 ∈ lw_tbl := List.mem_of_getElem? (i := 945) (by decide +kernel)
theorem q948 : Cond.methodLink RJ0 1 Lib.objectInit ∈ lw_tbl := List.mem_of_getElem? (i := 948) (by decide +kernel)
theorem q993 : Cond.fieldLink RJ0 9 "java/lang/String" "value" "[B" ∈ lw_tbl := List.mem_of_getElem? (i := 993) (by decide +kernel)
theorem q994 : Cond.fieldLink RJ0 15 "java/lang/String" "coder" "B" ∈ lw_tbl := List.mem_of_getElem? (i := 994) (by decide +kernel)
theorem m_J5_inflateIfNeededFor_a7421 : YM yJ5_inflateIfNeededFor_a7421 cJ5_inflateIfNeededFor_a7421 2 (none) 1 := ⟨⟨List.mem_of_getElem? (i := 884) (by decide +kernel), by decide +kernel⟩, List.mem_of_getElem? (i := 22) (by decide +kernel), ⟨by decide, by decide⟩, by decide +kernel⟩
theorem m_J0_getBytes_840e7 : YM yJ0_getBytes_840e7 cJ0_getBytes_840e7 4 (none) 3 := ⟨⟨List.mem_of_getElem? (i := 908) (by decide +kernel), by decide +kernel⟩, List.mem_of_getElem? (i := 24) (by decide +kernel), ⟨by decide, by decide⟩, by decide +kernel⟩
theorem v_J0_getBytes_840e7 : YV yJ0_getBytes_840e7 := ⟨(List.mem_of_getElem? (i := 906) (by decide +kernel)), List.mem_of_getElem? (i := 907) (by decide +kernel)⟩
theorem m_J5_putStringAt_47b60 : YM yJ5_putStringAt_47b60 cJ5_putStringAt_47b60 3 (none) 2 := ⟨⟨List.mem_of_getElem? (i := 880) (by decide +kernel), by decide +kernel⟩, List.mem_of_getElem? (i := 22) (by decide +kernel), ⟨by decide, by decide⟩, by decide +kernel⟩
theorem m_J5_append_cf1ce : YM yJ5_append_cf1ce cJ5_append_cf1ce 3 (some (.object "java/lang/AbstractStringBuilder")) 1 := ⟨⟨List.mem_of_getElem? (i := 801) (by decide +kernel), by decide +kernel⟩, List.mem_of_getElem? (i := 22) (by decide +kernel), ⟨by decide, by decide⟩, by decide +kernel⟩
theorem m_J7_checkLength_df160 : YM yJ7_checkLength_df160 cJ7_checkLength_df160 2 (none) 2 := ⟨⟨List.mem_of_getElem? (i := 971) (by decide +kernel), by decide +kernel⟩, List.mem_of_getElem? (i := 35) (by decide +kernel), ⟨by decide, by decide⟩, by decide +kernel⟩
theorem v_J7_checkLength_df160 : YS yJ7_checkLength_df160 := (List.mem_of_getElem? (i := 970) (by decide +kernel))
theorem m_J7_copyOfRangeByte_39247 : YM yJ7_copyOfRangeByte_39247 cJ7_copyOfRangeByte_39247 5 (some (.array .byte)) 3 := ⟨⟨List.mem_of_getElem? (i := 968) (by decide +kernel), by decide +kernel⟩, List.mem_of_getElem? (i := 35) (by decide +kernel), ⟨by decide, by decide⟩, by decide +kernel⟩
theorem v_J7_copyOfRangeByte_39247 : YS yJ7_copyOfRangeByte_39247 := (List.mem_of_getElem? (i := 967) (by decide +kernel))
theorem m_J5_getValue_6d5f1 : YM yJ5_getValue_6d5f1 cJ5_getValue_6d5f1 1 (some (.array .byte)) 0 := ⟨⟨List.mem_of_getElem? (i := 953) (by decide +kernel), by decide +kernel⟩, List.mem_of_getElem? (i := 22) (by decide +kernel), ⟨by decide, by decide⟩, by decide +kernel⟩
theorem m_J7_copyOfRange_39247 : YM yJ7_copyOfRange_39247 cJ7_copyOfRange_39247 3 (some (.array .byte)) 3 := ⟨⟨List.mem_of_getElem? (i := 965) (by decide +kernel), by decide +kernel⟩, List.mem_of_getElem? (i := 35) (by decide +kernel), ⟨by decide, by decide⟩, by decide +kernel⟩
theorem v_J7_copyOfRange_39247 : YS yJ7_copyOfRange_39247 := (List.mem_of_getElem? (i := 964) (by decide +kernel))
theorem m_J0_init_db425 : YM yJ0_init_db425 cJ0_init_db425 5 (none) 2 := ⟨⟨List.mem_of_getElem? (i := 947) (by decide +kernel), by decide +kernel⟩, List.mem_of_getElem? (i := 24) (by decide +kernel), ⟨by decide, by decide⟩, by decide +kernel⟩
theorem v_J0_init_db425 : Cond.instanceMethod yJ0_init_db425 ∈ lw_tbl := (List.mem_of_getElem? (i := 946) (by decide +kernel))
theorem m_J0_init_81219 : YM yJ0_init_81219 cJ0_init_81219 2 (none) 1 := ⟨⟨List.mem_of_getElem? (i := 944) (by decide +kernel), by decide +kernel⟩, List.mem_of_getElem? (i := 24) (by decide +kernel), ⟨by decide, by decide⟩, by decide +kernel⟩
theorem v_J0_init_81219 : Cond.instanceMethod yJ0_init_81219 ∈ lw_tbl := (List.mem_of_getElem? (i := 943) (by decide +kernel))
theorem clS : CL 0 RJ0 TJ0 4 tyJ0 := ⟨rfl, by unfold FC; decide +kernel, tyJ0_ok, nmJ0⟩
/-- a made text: its object, its bytes -/
def wSt (T : Nat → ClassId) (a v n : Nat) (f : Nat → Int32) : va_W := [(a, .inr (0, [.ref v, .int 0, .int 0, .int 0])), (v, .inl (T 3, n, .inl f))]
/-- the law's texts -/
def chU : List (List Nat) := [[111, 112, 101, 110, 32], [59, 119, 101, 116, 32], [59, 113, 117, 101, 117, 101, 32], [59]]
def bytU : List (List Int32) := [[111, 112, 101, 110, 32], [59, 119, 101, 116, 32], [59, 113, 117, 101, 117, 101, 32], [59]]
def lenU : List Nat := [5, 5, 7, 1]
def refU : List (String × Nat × String × Nat) := [("CustomsShedLaw", 262, "open ", 0), ("CustomsShedLaw", 271, ";wet ", 1), ("CustomsShedLaw", 277, ";queue ", 2), ("CustomsShedLaw", 279, ";", 3)]
def SG2 (G : cG) (k2 v2 : Nat → Nat) : Prop := ∀ (U : State) (H : Heap), G.2.2.2 U H → vk_S 4 lenU bytU k2 v2 (fun q => G.2.2.1 ≤ q) U H ∧ ∀ r ∈ refU, vk_R r.1 r.2.1 r.2.2.1 (k2 r.2.2.2) U
/-- private methods of the builder are those that are run -/
def PV2 (G : cG) : Prop := ∀ (U : State) (H : Heap), G.2.2.2 U H → ∀ A : Array Value, (Cond.selects RJ4 yJ5_putStringAt_47b60 yJ5_putStringAt_47b60).before A U = true ∧ (Cond.selects RJ4 yJ5_inflateIfNeededFor_a7421 yJ5_inflateIfNeededFor_a7421).before A U = true
/-- bytes can be copied whole -/
def CBC (G : cG) : Prop := ∀ (U : State) (H : Heap), G.2.2.2 U H → va_Nw (.castable "[B" "java/lang/Cloneable") U
/-- the bytes f hold the text M of m letters -/
def Bx (M : List Nat) (m : Nat) (f : Nat → Int32) : Prop := m = M.length ∧ ∀ j, j < m → ∃ ch, ch < 128 ∧ M[j]? = some ch ∧ f j = nI ch
theorem Bx.fz {M : List Nat} {m : Nat} {f : Nat → Int32} (h : Bx M m f) : ∀ j, j < m → ∃ ch, ch < 128 ∧ f j = nI ch := fun j hj => by
  obtain ⟨ch, h1, -, h3⟩ := h.2 j hj
  exact ⟨ch, h1, h3⟩
theorem U_bx : ∀ i, i < 4 → Bx (chU.getD i []) (lenU.getD i 0) (fun j => (bytU.getD i []).getD j 0) := by
  intro i hi
  have h : ∀ i < 4, lenU.getD i 0 = (chU.getD i []).length ∧ ∀ j < lenU.getD i 0, (chU.getD i []).getD j 0 < 128 ∧ (chU.getD i [])[j]? = some ((chU.getD i []).getD j 0) ∧ (bytU.getD i []).getD j 0 = nI ((chU.getD i []).getD j 0) := by decide +kernel
  exact ⟨(h i hi).1, fun j hj => ⟨_, (h i hi).2 j hj⟩⟩
theorem cp_fit {m : Nat} {f : Nat → Int32} (hm : m < 35) (hf : ∀ j, j < m → ∃ ch, ch < 128 ∧ f j = nI ch) : ∀ i : Nat, i < Int32.toNatClampNeg (nI m) → fits .byte (.int (f (Int32.toNatClampNeg 0 + i))) = true := by
  intro i hi
  rw [sb_cl0, Nat.zero_add]
  rw [nI_clamp (by omega)] at hi
  obtain ⟨ch, h1, h2⟩ := hf i hi
  rw [h2]
  exact ch_fits ch h1
theorem cl_fit {cA : ClassId} {cp : Nat} {f : Nat → Int32} (hf : ∀ j, j < cp → ∃ ch, ch < 128 ∧ f j = nI ch) : ∀ (i : Nat) (v : Value), (vp_cell cA (cp, .inl f)).slots[i]? = some v → fits .byte v = true := by
  intro i v h
  have h : (arrV cA cp (fun j => .int (f j))).slots[i]? = some v := h
  have hi : i < cp := by
    have h2 := (Array.getElem?_eq_some_iff.mp h).1
    rw [arrV_size] at h2
    exact h2
  rw [arrV_read cA _ hi] at h
  obtain ⟨ch, h1, h2⟩ := hf i hi
  rw [← Option.some.inj h, h2]
  exact ch_fits ch h1
/-- a text put behind -/
theorem Tx_cat {va va' cp n m : Nat} {mb mb' : Int32} {f f' fs : Nat → Int32} {L M : List Nat} (h : Tx (va, cp, n, mb, f) L) (hk : ∀ i, i < n → f' i = f i) (hM : Bx M m fs) (hn : n + m ≤ cp) : Tx (va', cp, n + m, mb', va_cpy fs f' (Int32.toNatClampNeg 0) (Int32.toNatClampNeg (nI n)) (Int32.toNatClampNeg (nI m))) (L ++ M) := by
  have hc := h.c35
  have hl : n = L.length := h.2.1
  have hm : m = M.length := hM.1
  refine ⟨h.1, ?_, ?_, fun i hi => ?_⟩
  · show n + m = _
    rw [List.length_append, ← hl, ← hm]
  · show _ ≤ cp
    rw [List.length_append, ← hl, ← hm]
    exact hn
  · rw [List.length_append, ← hl, ← hm] at hi
    rw [sb_cl0, nI_clamp (by omega), nI_clamp (by omega)]
    show ∃ ch, ch < 128 ∧ (L ++ M)[i]? = some ch ∧ (if n ≤ i ∧ i < n + m then fs (0 + (i - n)) else f' i) = nI ch
    rcases Nat.lt_or_ge i n with h4 | h4
    · obtain ⟨c1, c2, c3, c4⟩ := h.2.2.2 i (by rw [← hl]; exact h4)
      exact ⟨c1, c2, by rw [List.getElem?_append_left (by omega)]; exact c3, by rw [if_neg (by omega), hk i h4]; exact c4⟩
    · obtain ⟨c1, c2, c3, c4⟩ := hM.2 (i - n) (by omega)
      exact ⟨c1, c2, by rw [List.getElem?_append_right (by omega), ← hl]; exact c3, by rw [if_pos ⟨h4, hi⟩, Nat.zero_add]; exact c4⟩
theorem Tx.bx {va cp n : Nat} {mb : Int32} {f f' : Nat → Int32} {L : List Nat} (h : Tx (va, cp, n, mb, f) L) (hk : ∀ i, i < n → f' i = f i) : Bx L n f' := by
  have hl : n = L.length := h.2.1
  refine ⟨hl, fun j hj => ?_⟩
  obtain ⟨c1, c2, c3, c4⟩ := h.2.2.2 j (by rw [← hl]; exact hj)
  exact ⟨c1, c2, c3, (hk j hj).trans c4⟩
section KRC
variable {G : cG} {p : Program} {l : Launch} {e : Env} {R : Room} {s : State} {m : MethodId} {args : Array Value} {below : List Frame} {meth : Method} {c : Code} {H : Heap} {locs : List Loc} {cells slots : Nat} {Q : State → Prop} {cc : ByteArray} {nL : Nat} {own : String} {A : Nat → Prop} {L LC LR : List va_W} {pc : Nat} {ls : Array Slot} {rest : List Value} {mc ms : Nat} {w1 ws : va_W} {k2 v2 : Nat → Nat}
theorem Fx.uk (F : Fx G p s m c cc nL own A) (h : SG2 G k2 v2) : vk_S 4 lenU bytU k2 v2 A s s.heap := vk_S.narrow (h s s.heap F.2.2.2.2.2.1.2.2).1 (fun q hq => F.z q hq)
theorem Fx.ur (F : Fx G p s m c cc nL own A) (h : SG2 G k2 v2) {o : String} {k : Nat} {t : String} {i : Nat} (j : Nat) (hj : refU[j]? = some (o, k, t, i)) : vk_R o k t (k2 i) s := (h s s.heap F.2.2.2.2.2.1.2.2).2 _ (List.mem_of_getElem? hj)
theorem Fx.pv2 (F : Fx G p s m c cc nL own A) (h : PV2 G) (args : Array Value) : (Cond.selects RJ4 yJ5_putStringAt_47b60 yJ5_putStringAt_47b60).before args s = true ∧ (Cond.selects RJ4 yJ5_inflateIfNeededFor_a7421 yJ5_inflateIfNeededFor_a7421).before args s = true := h s s.heap F.2.2.2.2.2.1.2.2 args
theorem rvU (F : Fx G p s m c cc nL own A) (h : SG2 G k2 v2) {i : Nat} (hi : i < 4) (w : Wd G A s.heap ws H locs) : ∃ cell : Cell, H[k2 i]? = some cell ∧ cell.vm.isStatics = false ∧ s.vm.findClass "java/lang/String" = some cell.cls := vk_recv (F.uk h) hi w.2.2
theorem rvS (F : Fx G p s m c cc nL own A) (w : Wd G A s.heap ws H locs) (q0 : Nat) {o : Nat} {fs : List Value} (he : ws[q0]? = some (o, .inr (0, fs))) : ∃ cell : Cell, H[o]? = some cell ∧ cell.vm.isStatics = false ∧ s.vm.findClass "java/lang/String" = some cell.cls := va_recv F.K w.1 (show vwCl[0]? = some (RJ0, TJ0, 4) from rfl) he
/-- invokevirtual on a text, an int -/
theorem kRi (F : Fx G p s m c cc nL own A) (w : Wd G A s.heap (fl L) H locs) {y : MethodName} {b : ByteArray} {n k idx fr lo o : Nat} {ret : FieldType} {As : List Value} {r : Int32}
    (hc : CI G y b n ret fr lo (.ref o :: As) (fl LC) w1 r) (Y : YM y b n (some ret) k) (V : YV y) (hl : Cond.methodLink own idx y ∈ lw_tbl) (hrv : ∃ cell : Cell, H[o]? = some cell ∧ cell.vm.isStatics = false ∧ s.vm.findClass y.cls = some cell.cls)
    (nB : Nat) (is : List Nat) (hn : L.length = nB) (hp : pmB nB is = true) (hL : is.map (fun i => L[i]?) = (LC ++ LR).map some)
    (hRm : fr + 1 ≤ R.frames ∧ 8 + (n + 11) + lo ≤ R.locals) (hlen : As.length = k) (hls : ls.size = nL) {st0 : List Value} (hst0 : st0 = As.reverse ++ .ref o :: rest) (hrm : (rest.map fun v => v.category).sum ≤ 8) (hdg : decode cc pc = .ok (.invokevirtual idx, 3)) (hf : cells ≤ R.cells ∧ slots ≤ R.slots)
    (kk : ∀ (H1 : Heap) (locs1 : List Loc), Wd G A s.heap (w1 ++ fl LR) H1 locs1 → W p l e R s m args below meth c H1 locs1 cells slots Q (F0 m (pc + 3) ls (.int r :: rest))) : W p l e R s m args below meth c H locs cells slots Q (F0 m pc ls st0) := by
  subst hst0
  have w' := w.spl nB is hn hp hL
  exact runI F w' (va_runV (As := As) (rest := rest) (nL := nL) (Ts := []) ⟨F.x, F.b, F.ml, F.o, fun _ h => nomatch h⟩ (hc l H.size) ⟨Y.B F.t (F.t _ hl rfl _) hRm, F.t _ V.1 rfl _, F.t _ V.2 rfl _⟩ ⟨fun a U g mk q => ⟨q.1, PreB.calling F.1 U g mk a q.2⟩, hrv, fun U hU hW => ⟨rfl, F.preF w' hU hW⟩⟩ rfl hlen hls rfl (lv_room hrm) hdg ⟨hf.1, hf.2⟩) kk
/-- .. no answer -/
theorem kRn (F : Fx G p s m c cc nL own A) (w : Wd G A s.heap (fl L) H locs) {y : MethodName} {b : ByteArray} {n k idx fr lo o : Nat} {As : List Value} {P : va_W → Prop}
    (hc : CN G y b n fr lo mc ms (.ref o :: As) (fl LC) P) (Y : YM y b n none k) (V : YV y) (hl : Cond.methodLink own idx y ∈ lw_tbl) (hrv : ∃ cell : Cell, H[o]? = some cell ∧ cell.vm.isStatics = false ∧ s.vm.findClass y.cls = some cell.cls)
    (nB : Nat) (is : List Nat) (hn : L.length = nB) (hp : pmB nB is = true) (hL : is.map (fun i => L[i]?) = (LC ++ LR).map some)
    (hRm : fr + 1 ≤ R.frames ∧ 8 + (n + 11) + lo ≤ R.locals) (hlen : As.length = k) (hls : ls.size = nL) {st0 : List Value} (hst0 : st0 = As.reverse ++ .ref o :: rest) (hrm : (rest.map fun v => v.category).sum ≤ 8) (hdg : decode cc pc = .ok (.invokevirtual idx, 3)) (hf : cells + mc ≤ R.cells ∧ slots + ms ≤ R.slots)
    (kk : ∀ (w1 : va_W) (H1 : Heap) (locs1 : List Loc), P w1 → Wd G A s.heap (w1 ++ fl LR) H1 locs1 → W p l e R s m args below meth c H1 locs1 (cells + mc) (slots + ms) Q (F0 m (pc + 3) ls rest)) : W p l e R s m args below meth c H locs cells slots Q (F0 m pc ls st0) := by
  subst hst0
  have w' := w.spl nB is hn hp hL
  exact runV F w' (va_runV (As := As) (rest := rest) (nL := nL) (Ts := []) ⟨F.x, F.b, F.ml, F.o, fun _ h => nomatch h⟩ (hc l H.size) ⟨Y.B F.t (F.t _ hl rfl _) hRm, F.t _ V.1 rfl _, F.t _ V.2 rfl _⟩ ⟨fun a U g mk q => ⟨q.1, PreB.calling F.1 U g mk a q.2⟩, hrv, fun U hU hW => ⟨rfl, F.preF w' hU hW⟩⟩ rfl hlen hls rfl (lv_room hrm) hdg hf) kk
/-- a method of the class above that the builder has its own of -/
theorem kUoi (F : Fx G p s m c cc nL own A) (w : Wd G A s.heap (fl L) H locs) {x y : MethodName} {b bx : ByteArray} {n nx k idx fr lo o ci q0 : Nat} {ret : FieldType} {rx : Option FieldType} {As : List Value} {r : Int32} {fs : List Value} {qc : vw_C}
    (hc : CI G y b n ret fr lo (.ref o :: As) (fl LC) w1 r) (Y : YM y b n (some ret) k) (X : YM x bx nx rx k) (hiy : Cond.instanceMethod y ∈ lw_tbl) (hix : Cond.instanceMethod x ∈ lw_tbl) (hl : Cond.methodLink own idx x ∈ lw_tbl) (hs : Cond.sameMethod x.cls x.cls x.name x.desc ∈ lw_tbl)
    (he : (fl L)[q0]? = some (o, .inr (ci, fs))) (hq : vwCl[ci]? = some qc) (hsel : (Cond.selects qc.1 x y).before args s = true)
    (nB : Nat) (is : List Nat) (hn : L.length = nB) (hp : pmB nB is = true) (hL : is.map (fun i => L[i]?) = (LC ++ LR).map some)
    (hRm : fr + 1 ≤ R.frames ∧ 8 + (n + 11) + lo ≤ R.locals) (hlen : As.length = k) (hls : ls.size = nL) {st0 : List Value} (hst0 : st0 = As.reverse ++ .ref o :: rest) (hrm : (rest.map fun v => v.category).sum ≤ 8) (hdg : decode cc pc = .ok (.invokevirtual idx, 3)) (hf : cells ≤ R.cells ∧ slots ≤ R.slots)
    (kk : ∀ (H1 : Heap) (locs1 : List Loc), Wd G A s.heap (w1 ++ fl LR) H1 locs1 → W p l e R s m args below meth c H1 locs1 cells slots Q (F0 m (pc + 3) ls (.int r :: rest))) : W p l e R s m args below meth c H locs cells slots Q (F0 m pc ls st0) := by
  subst hst0
  have w' := w.spl nB is hn hp hL
  have cw : va_CU R s args own qc.1 x.cls idx x y b n (some ret) (wy y b n (some ret)) { frames := fr, cells := 0, slots := 0, locals := lo } 0 0 k := by
    obtain ⟨⟨h1, h2⟩, h3, h4, h5⟩ := Y
    obtain ⟨⟨x1, x2⟩, x3, x4, x5⟩ := X
    refine ⟨⟨rfl, rfl, hRm.1, hRm.2, fun w hw a' U hW => ?_, List.mem_singleton.mpr rfl⟩, F.t _ h1 (by simp [kw, h2]) _, F.t _ h3 rfl _, x4, fun sig h => ?_, F.t _ hl rfl _, F.t _ hs rfl _, va_Decl.of (F.t _ hix rfl args) (F.t _ x1 (by simp [kw, x2]) args), hsel, F.t _ hiy rfl _⟩
    · rw [List.mem_singleton.mp hw]
      exact (F.t.warm hW) _ h1 (by simp [kw, h2]) _
    · rw [h] at x5
      exact (Option.some.inj x5).symm
  exact runI F w' (va_runU (As := As) (rest := rest) (nL := nL) (Ts := []) ⟨F.x, F.b, F.ml, F.o, fun _ h => nomatch h⟩ (hc l H.size) cw ⟨fun a U g mk q => ⟨q.1, PreB.calling F.1 U g mk a q.2⟩, va_recv F.K w.1 hq he, fun U hU hW => ⟨rfl, F.preF w' hU hW⟩⟩ rfl hlen hls rfl (lv_room hrm) hdg ⟨hf.1, hf.2⟩) kk
/-- INHERITED, an address -/
theorem kUr (F : Fx G p s m c cc nL own A) (w : Wd G A s.heap (fl L) H locs) {y : MethodName} {b : ByteArray} {n k idx fr lo o ci q0 : Nat} {ret : FieldType} {As : List Value} {P : Nat → va_W → Prop} {fs : List Value} {qc : vw_C}
    (hc : CRm G y b n ret fr lo mc ms (.ref o :: As) (fl LC) P) (Y : YM y b n (some ret) k) (hin : Cond.instanceMethod y ∈ lw_tbl) (hl : Cond.methodLink own idx y ∈ lw_tbl) (hs : Cond.sameMethod y.cls y.cls y.name y.desc ∈ lw_tbl)
    (he : (fl L)[q0]? = some (o, .inr (ci, fs))) (hq : vwCl[ci]? = some qc) (hsel : (Cond.selects qc.1 y y).before args s = true)
    (nB : Nat) (is : List Nat) (hn : L.length = nB) (hp : pmB nB is = true) (hL : is.map (fun i => L[i]?) = (LC ++ LR).map some)
    (hRm : fr + 1 ≤ R.frames ∧ 8 + (n + 11) + lo ≤ R.locals) (hlen : As.length = k) (hls : ls.size = nL) {st0 : List Value} (hst0 : st0 = As.reverse ++ .ref o :: rest) (hrm : (rest.map fun v => v.category).sum ≤ 8) (hdg : decode cc pc = .ok (.invokevirtual idx, 3)) (hf : cells + mc ≤ R.cells ∧ slots + ms ≤ R.slots)
    (kk : ∀ (a : Nat) (w1 : va_W) (H1 : Heap) (locs1 : List Loc), P a w1 → Wd G A s.heap (w1 ++ fl LR) H1 locs1 → W p l e R s m args below meth c H1 locs1 (cells + mc) (slots + ms) Q (F0 m (pc + 3) ls (.ref a :: rest))) : W p l e R s m args below meth c H locs cells slots Q (F0 m pc ls st0) := by
  subst hst0
  have w' := w.spl nB is hn hp hL
  exact runR F w' (va_runU (As := As) (rest := rest) (nL := nL) (Ts := []) ⟨F.x, F.b, F.ml, F.o, fun _ h => nomatch h⟩ (hc l H.size) (cwUx F Y hin hl hs hsel hRm) ⟨fun a U g mk q => ⟨q.1, PreB.calling F.1 U g mk a q.2⟩, va_recv F.K w.1 hq he, fun U hU hW => ⟨rfl, F.preF w' hU hW⟩⟩ rfl hlen hls rfl (lv_room hrm) hdg hf) kk
end KRC
set_option maxRecDepth 100000 in
set_option maxHeartbeats 4000000 in
theorem t_J0_coder_7d493_U {G : cG} (g : GOK G) {ks kv : Nat → Nat} {k2 v2 : Nat → Nat} {i : Nat} (hSG : SG G ks kv) (hUG : SG2 G k2 v2) (hi : i < 4) : CI G yJ0_coder_7d493 cJ0_coder_7d493 1 .byte 0 0 [.ref (k2 i)] [] [] 0 := by
  refine CI.of g (by decide) rfl (Nat.le_of_ble_eq_true rfl) ?_
  intro p l e s m below meth c A ls F hr hlocks w hl
  generalize ([.ref (k2 i)] : List Value).toArray = args
  have hl : lv_has ls 1 [(0, .ref (k2 i))] := hl
  have w : Wd G A s.heap ([]) _ _ := w
  obtain ⟨-, hco, hva, hby⟩ := (F.uk hUG).1 i hi
  refine va_gets F.x F.b (F.cs hSG) w.2.2 F.o (F.t _ (List.mem_of_getElem? (i := 876) (by decide +kernel)) rfl _) (fun _ h => h) dJ0_coder_7d493_0 ?_
  refine lv_if_eq (tgt := 13) F.x F.b dJ0_coder_7d493_3 (by decide) (fun c9 => absurd c9 (by decide)) (fun _ => ?_)
  refine lv_aload_n F.x F.b dJ0_coder_7d493_6 rfl (lv_at hl 0 rfl) ?_
  refine vk_getf F.x F.b hco w.2.2 F.o (F.t _ (List.mem_of_getElem? (i := 994) (by decide +kernel)) rfl _) (fun _ h => h) dJ0_coder_7d493_7 ?_
  refine lv_goto (tgt := 14) F.x F.b dJ0_coder_7d493_10 (by decide) ?_
  exact ei F w hr hlocks rfl rfl rfl dJ0_coder_7d493_14
set_option maxRecDepth 100000 in
set_option maxHeartbeats 4000000 in
theorem t_J0_coder_7d493_S {G : cG} (g : GOK G) {ks kv : Nat → Nat} {so sv tn : Nat} {fs : Nat → Int32} (hSG : SG G ks kv) : CI G yJ0_coder_7d493 cJ0_coder_7d493 1 .byte 0 0 [.ref so] (fl [wSt G.2.1 so sv tn fs]) (fl [wSt G.2.1 so sv tn fs]) 0 := by
  refine CI.of g (by decide) rfl (Nat.le_of_ble_eq_true rfl) ?_
  intro p l e s m below meth c A ls F hr hlocks w hl
  generalize ([.ref so] : List Value).toArray = args
  have hl : lv_has ls 1 [(0, .ref so)] := hl
  have w : Wd G A s.heap ((fl [wSt G.2.1 so sv tn fs])) _ _ := w
  have w : Wd G A s.heap (fl [[(so, .inr (0, [.ref sv, .int 0, .int 0, .int 0]))], [(sv, .inl (G.2.1 3, tn, .inl fs))]]) _ _ := w
  refine va_gets F.x F.b (F.cs hSG) w.2.2 F.o (F.t _ (List.mem_of_getElem? (i := 876) (by decide +kernel)) rfl _) (fun _ h => h) dJ0_coder_7d493_0 ?_
  refine lv_if_eq (tgt := 13) F.x F.b dJ0_coder_7d493_3 (by decide) (fun c9 => absurd c9 (by decide)) (fun _ => ?_)
  refine lv_aload_n F.x F.b dJ0_coder_7d493_6 rfl (lv_at hl 0 rfl) ?_
  refine rg F w clS 0 rfl 1 (by decide) q994 rfl (v := .int 0) rfl dJ0_coder_7d493_7 ?_
  refine lv_goto (tgt := 14) F.x F.b dJ0_coder_7d493_10 (by decide) ?_
  exact ei F w hr hlocks rfl rfl rfl dJ0_coder_7d493_14
set_option maxRecDepth 100000 in
set_option maxHeartbeats 4000000 in
theorem t_J0_length_8abf5_U {G : cG} (g : GOK G) {ks kv : Nat → Nat} {k2 v2 : Nat → Nat} {i : Nat} (hSG : SG G ks kv) (hUG : SG2 G k2 v2) (hi : i < 4) : CI G yJ0_length_8abf5 cJ0_length_8abf5 1 .int 1 20 [.ref (k2 i)] (fl []) (fl []) (nI (lenU.getD i 0)) := by
  refine CI.of g (by decide) rfl (Nat.le_of_ble_eq_true rfl) ?_
  intro p l e s m below meth c A ls F hr hlocks w hl
  generalize ([.ref (k2 i)] : List Value).toArray = args
  have hl : lv_has ls 1 [(0, .ref (k2 i))] := hl
  have w : Wd G A s.heap ((fl [])) _ _ := w
  obtain ⟨-, hco, hva, hby⟩ := (F.uk hUG).1 i hi
  refine lv_aload_n F.x F.b dJ0_length_8abf5_0 rfl (lv_at hl 0 rfl) ?_
  refine vk_getf F.x F.b hva w.2.2 F.o (F.t _ (List.mem_of_getElem? (i := 993) (by decide +kernel)) rfl _) (fun _ h => h) dJ0_length_8abf5_1 ?_
  refine va_tlen F.x F.b hby w.2.2 (v := nI (lenU.getD i 0)) rfl dJ0_length_8abf5_4 ?_
  refine lv_aload_n F.x F.b dJ0_length_8abf5_5 rfl (lv_at hl 0 rfl) ?_
  refine kRi F w (LC := []) (LR := []) (As := []) (rest := [.int (nI (lenU.getD i 0))]) (t_J0_coder_7d493_U F.1 hSG hUG hi) m_J0_coder_7d493 v_J0_coder_7d493 (List.mem_of_getElem? (i := 872) (by decide +kernel)) (rvU F hUG hi w) 0 [] rfl rfl rfl ⟨Nat.le_of_ble_eq_true rfl, Nat.le_of_ble_eq_true rfl⟩ rfl hl.1 rfl (Nat.le_of_ble_eq_true rfl) dJ0_length_8abf5_6 ⟨Nat.le_of_ble_eq_true rfl, Nat.le_of_ble_eq_true rfl⟩ (fun H locs w => ?_)
  have w := w.jn (L1 := []) (L' := []) rfl 0 [] rfl rfl rfl
  have w : Wd G A s.heap (fl []) _ _ := w
  refine lv_ishr F.x F.b dJ0_length_8abf5_9 ?_
  rw [sb_shr0]
  exact ei F w hr hlocks rfl rfl rfl dJ0_length_8abf5_10
set_option maxRecDepth 100000 in
set_option maxHeartbeats 4000000 in
theorem t_J0_length_8abf5_S {G : cG} (g : GOK G) {ks kv : Nat → Nat} {so sv tn : Nat} {fs : Nat → Int32} (hSG : SG G ks kv) : CI G yJ0_length_8abf5 cJ0_length_8abf5 1 .int 1 20 [.ref so] (fl [wSt G.2.1 so sv tn fs]) (fl [wSt G.2.1 so sv tn fs]) (nI tn) := by
  refine CI.of g (by decide) rfl (Nat.le_of_ble_eq_true rfl) ?_
  intro p l e s m below meth c A ls F hr hlocks w hl
  generalize ([.ref so] : List Value).toArray = args
  have hl : lv_has ls 1 [(0, .ref so)] := hl
  have w : Wd G A s.heap ((fl [wSt G.2.1 so sv tn fs])) _ _ := w
  have w : Wd G A s.heap (fl [[(so, .inr (0, [.ref sv, .int 0, .int 0, .int 0]))], [(sv, .inl (G.2.1 3, tn, .inl fs))]]) _ _ := w
  refine lv_aload_n F.x F.b dJ0_length_8abf5_0 rfl (lv_at hl 0 rfl) ?_
  refine rg F w clS 0 rfl 0 (by decide) q993 rfl (v := .ref sv) rfl dJ0_length_8abf5_1 ?_
  refine rl F w 1 3 rfl rfl (v := (nI tn)) rfl dJ0_length_8abf5_4 ?_
  refine lv_aload_n F.x F.b dJ0_length_8abf5_5 rfl (lv_at hl 0 rfl) ?_
  refine kRi F w (LC := [[(so, .inr (0, [.ref sv, .int 0, .int 0, .int 0]))], [(sv, .inl (G.2.1 3, tn, .inl fs))]]) (LR := []) (As := []) (rest := [.int (nI tn)]) (t_J0_coder_7d493_S F.1 (so := so) (sv := sv) (tn := tn) (fs := fs) hSG) m_J0_coder_7d493 v_J0_coder_7d493 (List.mem_of_getElem? (i := 872) (by decide +kernel)) (rvS F w 0 rfl) 2 [0, 1] rfl rfl rfl ⟨Nat.le_of_ble_eq_true rfl, Nat.le_of_ble_eq_true rfl⟩ rfl hl.1 rfl (Nat.le_of_ble_eq_true rfl) dJ0_length_8abf5_6 ⟨Nat.le_of_ble_eq_true rfl, Nat.le_of_ble_eq_true rfl⟩ (fun H locs w => ?_)
  have w := w.jn (L1 := [[(so, .inr (0, [.ref sv, .int 0, .int 0, .int 0]))], [(sv, .inl (G.2.1 3, tn, .inl fs))]]) (L' := [[(so, .inr (0, [.ref sv, .int 0, .int 0, .int 0]))], [(sv, .inl (G.2.1 3, tn, .inl fs))]]) rfl 2 [0, 1] rfl rfl rfl
  have w : Wd G A s.heap (fl [[(so, .inr (0, [.ref sv, .int 0, .int 0, .int 0]))], [(sv, .inl (G.2.1 3, tn, .inl fs))]]) _ _ := w
  refine lv_ishr F.x F.b dJ0_length_8abf5_9 ?_
  rw [sb_shr0]
  exact ei F w hr hlocks rfl rfl rfl dJ0_length_8abf5_10
set_option maxRecDepth 100000 in
set_option maxHeartbeats 4000000 in
theorem t_J0_isLatin1_aae02_S {G : cG} (g : GOK G) {ks kv : Nat → Nat} {so sv tn : Nat} {fs : Nat → Int32} (hSG : SG G ks kv) : CI G yJ0_isLatin1_aae02 cJ0_isLatin1_aae02 1 .boolean 0 0 [.ref so] (fl [wSt G.2.1 so sv tn fs]) (fl [wSt G.2.1 so sv tn fs]) 1 := by
  refine CI.of g (by decide) rfl (Nat.le_of_ble_eq_true rfl) ?_
  intro p l e s m below meth c A ls F hr hlocks w hl
  generalize ([.ref so] : List Value).toArray = args
  have hl : lv_has ls 1 [(0, .ref so)] := hl
  have w : Wd G A s.heap (fl [wSt G.2.1 so sv tn fs]) _ _ := w
  have w : Wd G A s.heap (fl [[(so, .inr (0, [.ref sv, .int 0, .int 0, .int 0]))], [(sv, .inl (G.2.1 3, tn, .inl fs))]]) _ _ := w
  refine va_gets F.x F.b (F.cs hSG) w.2.2 F.o (F.t _ (List.mem_of_getElem? (i := 876) (by decide +kernel)) rfl _) (fun _ h => h) dJ0_isLatin1_aae02_0 ?_
  refine lv_if_eq (tgt := 17) F.x F.b dJ0_isLatin1_aae02_3 (by decide) (fun c9 => absurd c9 (by decide)) (fun _ => ?_)
  refine lv_aload_n F.x F.b dJ0_isLatin1_aae02_6 rfl (lv_at hl 0 rfl) ?_
  refine rg F w clS 0 rfl 1 (by decide) q994 rfl (v := .int 0) rfl dJ0_isLatin1_aae02_7 ?_
  refine lv_if_ne (tgt := 17) F.x F.b dJ0_isLatin1_aae02_10 (by decide) (fun c9 => absurd (by decide) c9) (fun _ => ?_)
  refine lv_iconst (v := 1) F.x F.b dJ0_isLatin1_aae02_13 (by decide) ?_
  refine lv_goto (tgt := 18) F.x F.b dJ0_isLatin1_aae02_14 (by decide) ?_
  exact ei F w hr hlocks rfl rfl rfl dJ0_isLatin1_aae02_18
set_option maxRecDepth 100000 in
set_option maxHeartbeats 4000000 in
theorem t_J1_charAt_3b067_S {G : cG} (g : GOK G) {ks kv : Nat → Nat} {sv tn j ch : Nat} {fs : Nat → Int32} (hSG : SG G ks kv) (hj : j < tn) (hm : tn < 35) (hch : ch < 128) (hfi : fs j = nI ch) : CI G yJ1_charAt_3b067 cJ1_charAt_3b067 2 .char 2 43 [.ref sv, .int (nI j)] (fl [[(sv, .inl (G.2.1 3, tn, .inl fs))]]) (fl [[(sv, .inl (G.2.1 3, tn, .inl fs))]]) (nI ch) := by
  refine CI.of g (by decide) rfl (Nat.le_of_ble_eq_true rfl) ?_
  intro p l e s m below meth c A ls F hr hlocks w hl
  generalize ([.ref sv, .int (nI j)] : List Value).toArray = args
  have hl : lv_has ls 2 [(0, .ref sv), (1, .int (nI j))] := hl
  have w : Wd G A s.heap (fl [[(sv, .inl (G.2.1 3, tn, .inl fs))]]) _ _ := w
  refine lv_iload_n F.x F.b dJ1_charAt_3b067_0 rfl (lv_at hl 1 rfl) ?_
  refine lv_aload_n F.x F.b dJ1_charAt_3b067_1 rfl (lv_at hl 0 rfl) ?_
  refine rl F w 0 3 rfl rfl (v := (nI tn)) rfl dJ1_charAt_3b067_2 ?_
  refine kSBn F w (LC := []) (LR := [[(sv, .inl (G.2.1 3, tn, .inl fs))]]) (As := [.int (nI j), .int (nI tn)]) (rest := []) (t_J0_checkIndex F.1 hSG (nI_pos (n := j) (by omega)) (nI_lt (a := j) (b := tn) hj (by omega))).toN m_J0_checkIndex_df160 v_J0_checkIndex_df160 (List.mem_of_getElem? (i := 1017) (by decide +kernel)) 1 [0] rfl rfl rfl ⟨Nat.le_of_ble_eq_true rfl, Nat.le_of_ble_eq_true rfl⟩ rfl hl.1 rfl (Nat.le_of_ble_eq_true rfl) dJ1_charAt_3b067_3 ⟨Nat.le_of_ble_eq_true rfl, Nat.le_of_ble_eq_true rfl⟩ (fun w1 H locs h9 w => ?_)
  subst h9
  have w : Wd G A s.heap (fl [[(sv, .inl (G.2.1 3, tn, .inl fs))]]) _ _ := w
  refine lv_aload_n F.x F.b dJ1_charAt_3b067_6 rfl (lv_at hl 0 rfl) ?_
  refine lv_iload_n F.x F.b dJ1_charAt_3b067_7 rfl (lv_at hl 1 rfl) ?_
  refine rbV F w 0 rfl (ib_nI (by omega) (by omega)) (v := nI ch) (by rw [nI_clamp (by omega)]; exact hfi) dJ1_charAt_3b067_8 ?_
  refine lv_sipush (v := 255) F.x F.b dJ1_charAt_3b067_9 (by decide) ?_
  refine lv_iand F.x F.b dJ1_charAt_3b067_12 ?_
  rw [show (((nI ch) &&& 255) : Int32) = (nI ch) from (ch_nar ch hch).2.2.1]
  refine lv_i2c (v := (nI ch)) F.x F.b dJ1_charAt_3b067_13 (ch_nar ch hch).2.2.2.1 ?_
  exact ei F w hr hlocks (ch_nar ch hch).2.2.2.2 rfl rfl dJ1_charAt_3b067_14
set_option maxRecDepth 100000 in
set_option maxHeartbeats 4000000 in
theorem t_J0_charAt_5068e_S {G : cG} (g : GOK G) {ks kv : Nat → Nat} {so sv tn j ch : Nat} {fs : Nat → Int32} (hSG : SG G ks kv) (hj : j < tn) (hm : tn < 35) (hch : ch < 128) (hfi : fs j = nI ch) : CI G yJ0_charAt_5068e cJ0_charAt_5068e 2 .char 3 64 [.ref so, .int (nI j)] (fl [wSt G.2.1 so sv tn fs]) (fl [wSt G.2.1 so sv tn fs]) (nI ch) := by
  refine CI.of g (by decide) rfl (Nat.le_of_ble_eq_true rfl) ?_
  intro p l e s m below meth c A ls F hr hlocks w hl
  generalize ([.ref so, .int (nI j)] : List Value).toArray = args
  have hl : lv_has ls 2 [(0, .ref so), (1, .int (nI j))] := hl
  have w : Wd G A s.heap (fl [wSt G.2.1 so sv tn fs]) _ _ := w
  have w : Wd G A s.heap (fl [[(so, .inr (0, [.ref sv, .int 0, .int 0, .int 0]))], [(sv, .inl (G.2.1 3, tn, .inl fs))]]) _ _ := w
  refine lv_aload_n F.x F.b dJ0_charAt_5068e_0 rfl (lv_at hl 0 rfl) ?_
  refine kRi F w (LC := [[(so, .inr (0, [.ref sv, .int 0, .int 0, .int 0]))], [(sv, .inl (G.2.1 3, tn, .inl fs))]]) (LR := []) (As := []) (rest := []) (t_J0_isLatin1_aae02_S F.1 (so := so) (sv := sv) (tn := tn) (fs := fs) hSG) m_J0_isLatin1_aae02 v_J0_isLatin1_aae02 (List.mem_of_getElem? (i := 1010) (by decide +kernel)) (rvS F w 0 rfl) 2 [0, 1] rfl rfl rfl ⟨Nat.le_of_ble_eq_true rfl, Nat.le_of_ble_eq_true rfl⟩ rfl hl.1 rfl (Nat.le_of_ble_eq_true rfl) dJ0_charAt_5068e_1 ⟨Nat.le_of_ble_eq_true rfl, Nat.le_of_ble_eq_true rfl⟩ (fun H locs w => ?_)
  have w := w.jn (L1 := [[(so, .inr (0, [.ref sv, .int 0, .int 0, .int 0]))], [(sv, .inl (G.2.1 3, tn, .inl fs))]]) (L' := [[(so, .inr (0, [.ref sv, .int 0, .int 0, .int 0]))], [(sv, .inl (G.2.1 3, tn, .inl fs))]]) rfl 2 [0, 1] rfl rfl rfl
  have w : Wd G A s.heap (fl [[(so, .inr (0, [.ref sv, .int 0, .int 0, .int 0]))], [(sv, .inl (G.2.1 3, tn, .inl fs))]]) _ _ := w
  refine lv_if_eq (tgt := 16) F.x F.b dJ0_charAt_5068e_4 (by decide) (fun c9 => absurd c9 (by decide)) (fun _ => ?_)
  refine lv_aload_n F.x F.b dJ0_charAt_5068e_7 rfl (lv_at hl 0 rfl) ?_
  refine rg F w clS 0 rfl 0 (by decide) q993 rfl (v := .ref sv) rfl dJ0_charAt_5068e_8 ?_
  refine lv_iload_n F.x F.b dJ0_charAt_5068e_11 rfl (lv_at hl 1 rfl) ?_
  refine kSBi F w (LC := [[(sv, .inl (G.2.1 3, tn, .inl fs))]]) (LR := [[(so, .inr (0, [.ref sv, .int 0, .int 0, .int 0]))]]) (As := [.ref sv, .int (nI j)]) (rest := []) (t_J1_charAt_3b067_S F.1 hSG hj hm hch hfi) m_J1_charAt_3b067 v_J1_charAt_3b067 (List.mem_of_getElem? (i := 1014) (by decide +kernel)) 2 [1, 0] rfl rfl rfl ⟨Nat.le_of_ble_eq_true rfl, Nat.le_of_ble_eq_true rfl⟩ rfl hl.1 rfl (Nat.le_of_ble_eq_true rfl) dJ0_charAt_5068e_12 ⟨Nat.le_of_ble_eq_true rfl, Nat.le_of_ble_eq_true rfl⟩ (fun H locs w => ?_)
  have w := w.jn (L1 := [[(sv, .inl (G.2.1 3, tn, .inl fs))]]) (L' := [[(so, .inr (0, [.ref sv, .int 0, .int 0, .int 0]))], [(sv, .inl (G.2.1 3, tn, .inl fs))]]) rfl 2 [1, 0] rfl rfl rfl
  exact ei F w hr hlocks (ch_nar ch hch).2.2.2.2 rfl rfl dJ0_charAt_5068e_15
set_option maxRecDepth 100000 in
set_option maxHeartbeats 4000000 in
theorem t_J0_getBytes_840e7_U {G : cG} (g : GOK G) {ks kv : Nat → Nat} {k2 v2 : Nat → Nat} {i : Nat} {va cp q : Nat} {f : Nat → Int32} (hSG : SG G ks kv) (hUG : SG2 G k2 v2) (hi : i < 4) (hq : q + (lenU.getD i 0) ≤ cp) (hc35 : cp < 35) (hfs : ∀ j, j < (lenU.getD i 0) → ∃ ch, ch < 128 ∧ (bytU.getD i []).getD j 0 = nI ch) : CN G yJ0_getBytes_840e7 cJ0_getBytes_840e7 4 1 60 0 0 [.ref (k2 i), .ref va, .int (nI q), .int 0] (fl [[(va, .inl (G.2.1 3, cp, .inl f))]]) (fun w' => w' = fl [[(va, .inl (G.2.1 3, cp, .inl (va_cpy (fun j => (bytU.getD i []).getD j 0) f (Int32.toNatClampNeg 0) (Int32.toNatClampNeg (nI q)) (Int32.toNatClampNeg (nI (lenU.getD i 0))))))]]) := by
  have hms : (lenU.getD i 0) < 35 := by omega
  refine CN.of g (by decide) rfl (Nat.le_of_ble_eq_true rfl) ?_
  intro p l e s m below meth c A ls hnm F hr hlocks w hl
  generalize ([.ref (k2 i), .ref va, .int (nI q), .int 0] : List Value).toArray = args
  have hl : lv_has ls 4 [(0, .ref (k2 i)), (1, .ref va), (2, .int (nI q)), (3, .int 0)] := hl
  have w : Wd G A s.heap (fl [[(va, .inl (G.2.1 3, cp, .inl f))]]) _ _ := w
  obtain ⟨-, hco, hva, hby⟩ := (F.uk hUG).1 i hi
  refine lv_aload_n F.x F.b dJ0_getBytes_840e7_0 rfl (lv_at hl 0 rfl) ?_
  refine kRi F w (LC := []) (LR := [[(va, .inl (G.2.1 3, cp, .inl f))]]) (As := []) (rest := []) (t_J0_coder_7d493_U F.1 hSG hUG hi) m_J0_coder_7d493 v_J0_coder_7d493 (List.mem_of_getElem? (i := 872) (by decide +kernel)) (rvU F hUG hi w) 1 [0] rfl rfl rfl ⟨Nat.le_of_ble_eq_true rfl, Nat.le_of_ble_eq_true rfl⟩ rfl hl.1 rfl (Nat.le_of_ble_eq_true rfl) dJ0_getBytes_840e7_1 ⟨Nat.le_of_ble_eq_true rfl, Nat.le_of_ble_eq_true rfl⟩ (fun H locs w => ?_)
  have w : Wd G A s.heap (fl [[(va, .inl (G.2.1 3, cp, .inl f))]]) _ _ := w
  refine lv_iload_n F.x F.b dJ0_getBytes_840e7_4 rfl (lv_at hl 3 rfl) ?_
  refine lv_icmp_ne (tgt := 28) F.x F.b dJ0_getBytes_840e7_5 (by decide) (fun c9 => absurd rfl c9) (fun _ => ?_)
  refine lv_aload_n F.x F.b dJ0_getBytes_840e7_8 rfl (lv_at hl 0 rfl) ?_
  refine vk_getf F.x F.b hva w.2.2 F.o (F.t _ (List.mem_of_getElem? (i := 993) (by decide +kernel)) rfl _) (fun _ h => h) dJ0_getBytes_840e7_9 ?_
  refine lv_iconst (v := 0) F.x F.b dJ0_getBytes_840e7_12 (by decide) ?_
  refine lv_aload_n F.x F.b dJ0_getBytes_840e7_13 rfl (lv_at hl 1 rfl) ?_
  refine lv_iload_n F.x F.b dJ0_getBytes_840e7_14 rfl (lv_at hl 2 rfl) ?_
  refine lv_iload_n F.x F.b dJ0_getBytes_840e7_15 rfl (lv_at hl 3 rfl) ?_
  refine lv_ishl F.x F.b dJ0_getBytes_840e7_16 ?_
  rw [sb_shl0]
  refine lv_aload_n F.x F.b dJ0_getBytes_840e7_17 rfl (lv_at hl 0 rfl) ?_
  refine vk_getf F.x F.b hva w.2.2 F.o (F.t _ (List.mem_of_getElem? (i := 993) (by decide +kernel)) rfl _) (fun _ h => h) dJ0_getBytes_840e7_18 ?_
  refine va_tlen F.x F.b hby w.2.2 (v := nI (lenU.getD i 0)) rfl dJ0_getBytes_840e7_21 ?_
  refine vk_copyt F.x F.b (F.ml.trans hl.1.symm) F.o (F.t _ (List.mem_of_getElem? (i := 909) (by decide +kernel)) rfl _) (F.t _ (List.mem_of_getElem? (i := 836) (by decide +kernel)) rfl _) (F.t _ (List.mem_of_getElem? (i := 835) (by decide +kernel)) rfl _) (F.t _ (List.mem_of_getElem? (i := 36) (by decide +kernel)) rfl _) F.K w.1 w.2.1 w.2.2 hby 0 3 rfl rfl (by decide) (nI_pos (by omega)) (nI_pos (by omega)) (by rw [sb_cl0, nI_clamp (by omega)]; omega) (by rw [nI_clamp (by omega), nI_clamp (by omega)]; omega) (cp_fit hms hfs) (Nat.le_of_ble_eq_true rfl) (by decide +kernel) dJ0_getBytes_840e7_22 (fun H locs h1 h2 h3 => ?_)
  have w : Wd G A s.heap (fl [[(va, .inl (G.2.1 3, cp, .inl (va_cpy (fun j => (bytU.getD i []).getD j 0) f (Int32.toNatClampNeg 0) (Int32.toNatClampNeg (nI q)) (Int32.toNatClampNeg (nI (lenU.getD i 0))))))]]) H locs := ⟨h1, h2, h3⟩
  refine lv_goto (tgt := 43) F.x F.b dJ0_getBytes_840e7_25 (by decide) ?_
  exact evN F w hr hlocks rfl (Nat.le_of_ble_eq_true rfl) (Nat.le_of_ble_eq_true rfl) dJ0_getBytes_840e7_43
set_option maxRecDepth 100000 in
set_option maxHeartbeats 4000000 in
theorem t_J0_getBytes_840e7_S {G : cG} (g : GOK G) {ks kv : Nat → Nat} {so sv tn : Nat} {fs : Nat → Int32} {va cp q : Nat} {f : Nat → Int32} (hSG : SG G ks kv) (hq : q + tn ≤ cp) (hc35 : cp < 35) (hfs : ∀ j, j < tn → ∃ ch, ch < 128 ∧ fs j = nI ch) : CN G yJ0_getBytes_840e7 cJ0_getBytes_840e7 4 1 60 0 0 [.ref so, .ref va, .int (nI q), .int 0] (fl [wSt G.2.1 so sv tn fs, [(va, .inl (G.2.1 3, cp, .inl f))]]) (fun w' => w' = fl [wSt G.2.1 so sv tn fs, [(va, .inl (G.2.1 3, cp, .inl (va_cpy fs f (Int32.toNatClampNeg 0) (Int32.toNatClampNeg (nI q)) (Int32.toNatClampNeg (nI tn)))))]]) := by
  have hms : tn < 35 := by omega
  refine CN.of g (by decide) rfl (Nat.le_of_ble_eq_true rfl) ?_
  intro p l e s m below meth c A ls hnm F hr hlocks w hl
  generalize ([.ref so, .ref va, .int (nI q), .int 0] : List Value).toArray = args
  have hl : lv_has ls 4 [(0, .ref so), (1, .ref va), (2, .int (nI q)), (3, .int 0)] := hl
  have w : Wd G A s.heap (fl [wSt G.2.1 so sv tn fs, [(va, .inl (G.2.1 3, cp, .inl f))]]) _ _ := w
  have w : Wd G A s.heap (fl [[(so, .inr (0, [.ref sv, .int 0, .int 0, .int 0]))], [(sv, .inl (G.2.1 3, tn, .inl fs))], [(va, .inl (G.2.1 3, cp, .inl f))]]) _ _ := w
  refine lv_aload_n F.x F.b dJ0_getBytes_840e7_0 rfl (lv_at hl 0 rfl) ?_
  refine kRi F w (LC := [[(so, .inr (0, [.ref sv, .int 0, .int 0, .int 0]))], [(sv, .inl (G.2.1 3, tn, .inl fs))]]) (LR := [[(va, .inl (G.2.1 3, cp, .inl f))]]) (As := []) (rest := []) (t_J0_coder_7d493_S F.1 (so := so) (sv := sv) (tn := tn) (fs := fs) hSG) m_J0_coder_7d493 v_J0_coder_7d493 (List.mem_of_getElem? (i := 872) (by decide +kernel)) (rvS F w 0 rfl) 3 [0, 1, 2] rfl rfl rfl ⟨Nat.le_of_ble_eq_true rfl, Nat.le_of_ble_eq_true rfl⟩ rfl hl.1 rfl (Nat.le_of_ble_eq_true rfl) dJ0_getBytes_840e7_1 ⟨Nat.le_of_ble_eq_true rfl, Nat.le_of_ble_eq_true rfl⟩ (fun H locs w => ?_)
  have w := w.jn (L1 := [[(so, .inr (0, [.ref sv, .int 0, .int 0, .int 0]))], [(sv, .inl (G.2.1 3, tn, .inl fs))]]) (L' := [[(so, .inr (0, [.ref sv, .int 0, .int 0, .int 0]))], [(sv, .inl (G.2.1 3, tn, .inl fs))], [(va, .inl (G.2.1 3, cp, .inl f))]]) rfl 3 [0, 1, 2] rfl rfl rfl
  have w : Wd G A s.heap (fl [[(so, .inr (0, [.ref sv, .int 0, .int 0, .int 0]))], [(sv, .inl (G.2.1 3, tn, .inl fs))], [(va, .inl (G.2.1 3, cp, .inl f))]]) _ _ := w
  refine lv_iload_n F.x F.b dJ0_getBytes_840e7_4 rfl (lv_at hl 3 rfl) ?_
  refine lv_icmp_ne (tgt := 28) F.x F.b dJ0_getBytes_840e7_5 (by decide) (fun c9 => absurd rfl c9) (fun _ => ?_)
  refine lv_aload_n F.x F.b dJ0_getBytes_840e7_8 rfl (lv_at hl 0 rfl) ?_
  refine rg F w clS 0 rfl 0 (by decide) q993 rfl (v := .ref sv) rfl dJ0_getBytes_840e7_9 ?_
  refine lv_iconst (v := 0) F.x F.b dJ0_getBytes_840e7_12 (by decide) ?_
  refine lv_aload_n F.x F.b dJ0_getBytes_840e7_13 rfl (lv_at hl 1 rfl) ?_
  refine lv_iload_n F.x F.b dJ0_getBytes_840e7_14 rfl (lv_at hl 2 rfl) ?_
  refine lv_iload_n F.x F.b dJ0_getBytes_840e7_15 rfl (lv_at hl 3 rfl) ?_
  refine lv_ishl F.x F.b dJ0_getBytes_840e7_16 ?_
  rw [sb_shl0]
  refine lv_aload_n F.x F.b dJ0_getBytes_840e7_17 rfl (lv_at hl 0 rfl) ?_
  refine rg F w clS 0 rfl 0 (by decide) q993 rfl (v := .ref sv) rfl dJ0_getBytes_840e7_18 ?_
  refine rl F w 1 3 rfl rfl (v := (nI tn)) rfl dJ0_getBytes_840e7_21 ?_
  refine va_copyi F.x F.b (F.ml.trans hl.1.symm) F.o (F.t _ (List.mem_of_getElem? (i := 909) (by decide +kernel)) rfl _) (F.t _ (List.mem_of_getElem? (i := 836) (by decide +kernel)) rfl _) (F.t _ (List.mem_of_getElem? (i := 835) (by decide +kernel)) rfl _) (F.t _ (List.mem_of_getElem? (i := 36) (by decide +kernel)) rfl _) F.K w.1 w.2.1 w.2.2 1 2 3 3 rfl rfl rfl rfl rfl (by decide) (nI_pos (by omega)) (nI_pos (by omega)) (by rw [sb_cl0, nI_clamp (by omega)]; omega) (by rw [nI_clamp (by omega), nI_clamp (by omega)]; omega) (cp_fit hms hfs) (Nat.le_of_ble_eq_true rfl) (by decide +kernel) dJ0_getBytes_840e7_22 (fun H locs h1 h2 h3 => ?_)
  have w : Wd G A s.heap (fl [[(so, .inr (0, [.ref sv, .int 0, .int 0, .int 0]))], [(sv, .inl (G.2.1 3, tn, .inl fs))], [(va, .inl (G.2.1 3, cp, .inl (va_cpy fs f (Int32.toNatClampNeg 0) (Int32.toNatClampNeg (nI q)) (Int32.toNatClampNeg (nI tn)))))]]) H locs := ⟨h1, h2, h3⟩
  refine lv_goto (tgt := 43) F.x F.b dJ0_getBytes_840e7_25 (by decide) ?_
  exact evN F w hr hlocks rfl (Nat.le_of_ble_eq_true rfl) (Nat.le_of_ble_eq_true rfl) dJ0_getBytes_840e7_43
set_option maxRecDepth 100000 in
set_option maxHeartbeats 4000000 in
theorem t_J5_inflateIfNeededFor_a7421_U {G : cG} (g : GOK G) {ks kv : Nat → Nat} {k2 v2 : Nat → Nat} {i : Nat} {o : Nat → Nat} {va cp n : Nat} {mb : Int32} {f : Nat → Int32} (hSG : SG G ks kv) (hUG : SG2 G k2 v2) (hi : i < 4) : CN G yJ5_inflateIfNeededFor_a7421 cJ5_inflateIfNeededFor_a7421 2 1 20 0 0 [.ref (o 0), .ref (k2 i)] (fl [wSb G.2.1 o (va, cp, n, mb, f)]) (fun w' => w' = fl [wSb G.2.1 o (va, cp, n, mb, f)]) := by
  refine CN.of g (by decide) rfl (Nat.le_of_ble_eq_true rfl) ?_
  intro p l e s m below meth c A ls hnm F hr hlocks w hl
  generalize ([.ref (o 0), .ref (k2 i)] : List Value).toArray = args
  have hl : lv_has ls 2 [(0, .ref (o 0)), (1, .ref (k2 i))] := hl
  have w : Wd G A s.heap (fl [wSb G.2.1 o (va, cp, n, mb, f)]) _ _ := w
  obtain ⟨-, hco, hva, hby⟩ := (F.uk hUG).1 i hi
  have w : Wd G A s.heap (fl [[((o 0), .inr (1, [.ref va, .int 0, .int mb, .int (nI n)]))], [(va, .inl (G.2.1 3, cp, .inl f))]]) _ _ := w
  refine va_gets F.x F.b (F.cs hSG) w.2.2 F.o (F.t _ (List.mem_of_getElem? (i := 236) (by decide +kernel)) rfl _) (fun _ h => h) dJ5_inflateIfNeededFor_a7421_0 ?_
  refine lv_if_eq (tgt := 21) F.x F.b dJ5_inflateIfNeededFor_a7421_3 (by decide) (fun c9 => absurd c9 (by decide)) (fun _ => ?_)
  refine lv_aload_n F.x F.b dJ5_inflateIfNeededFor_a7421_6 rfl (lv_at hl 0 rfl) ?_
  refine rg F w clB 0 rfl 1 (by decide) q246 rfl (v := .int 0) rfl dJ5_inflateIfNeededFor_a7421_7 ?_
  refine lv_aload_n F.x F.b dJ5_inflateIfNeededFor_a7421_10 rfl (lv_at hl 1 rfl) ?_
  refine kRi F w (LC := []) (LR := [[((o 0), .inr (1, [.ref va, .int 0, .int mb, .int (nI n)]))], [(va, .inl (G.2.1 3, cp, .inl f))]]) (As := []) (rest := [.int 0]) (t_J0_coder_7d493_U F.1 hSG hUG hi) m_J0_coder_7d493 v_J0_coder_7d493 (List.mem_of_getElem? (i := 885) (by decide +kernel)) (rvU F hUG hi w) 2 [0, 1] rfl rfl rfl ⟨Nat.le_of_ble_eq_true rfl, Nat.le_of_ble_eq_true rfl⟩ rfl hl.1 rfl (Nat.le_of_ble_eq_true rfl) dJ5_inflateIfNeededFor_a7421_11 ⟨Nat.le_of_ble_eq_true rfl, Nat.le_of_ble_eq_true rfl⟩ (fun H locs w => ?_)
  have w : Wd G A s.heap (fl [[((o 0), .inr (1, [.ref va, .int 0, .int mb, .int (nI n)]))], [(va, .inl (G.2.1 3, cp, .inl f))]]) _ _ := w
  refine lv_icmp_eq (tgt := 21) F.x F.b dJ5_inflateIfNeededFor_a7421_14 (by decide) (fun _ => ?_) (fun c9 => absurd rfl c9)
  exact evN F w hr hlocks rfl (Nat.le_of_ble_eq_true rfl) (Nat.le_of_ble_eq_true rfl) dJ5_inflateIfNeededFor_a7421_21
set_option maxRecDepth 100000 in
set_option maxHeartbeats 4000000 in
theorem t_J5_inflateIfNeededFor_a7421_S {G : cG} (g : GOK G) {ks kv : Nat → Nat} {so sv tn : Nat} {fs : Nat → Int32} {o : Nat → Nat} {va cp n : Nat} {mb : Int32} {f : Nat → Int32} (hSG : SG G ks kv) : CN G yJ5_inflateIfNeededFor_a7421 cJ5_inflateIfNeededFor_a7421 2 1 20 0 0 [.ref (o 0), .ref so] (fl [wSb G.2.1 o (va, cp, n, mb, f), wSt G.2.1 so sv tn fs]) (fun w' => w' = fl [wSb G.2.1 o (va, cp, n, mb, f), wSt G.2.1 so sv tn fs]) := by
  refine CN.of g (by decide) rfl (Nat.le_of_ble_eq_true rfl) ?_
  intro p l e s m below meth c A ls hnm F hr hlocks w hl
  generalize ([.ref (o 0), .ref so] : List Value).toArray = args
  have hl : lv_has ls 2 [(0, .ref (o 0)), (1, .ref so)] := hl
  have w : Wd G A s.heap (fl [wSb G.2.1 o (va, cp, n, mb, f), wSt G.2.1 so sv tn fs]) _ _ := w
  have w : Wd G A s.heap (fl [[((o 0), .inr (1, [.ref va, .int 0, .int mb, .int (nI n)]))], [(va, .inl (G.2.1 3, cp, .inl f))], [(so, .inr (0, [.ref sv, .int 0, .int 0, .int 0]))], [(sv, .inl (G.2.1 3, tn, .inl fs))]]) _ _ := w
  refine va_gets F.x F.b (F.cs hSG) w.2.2 F.o (F.t _ (List.mem_of_getElem? (i := 236) (by decide +kernel)) rfl _) (fun _ h => h) dJ5_inflateIfNeededFor_a7421_0 ?_
  refine lv_if_eq (tgt := 21) F.x F.b dJ5_inflateIfNeededFor_a7421_3 (by decide) (fun c9 => absurd c9 (by decide)) (fun _ => ?_)
  refine lv_aload_n F.x F.b dJ5_inflateIfNeededFor_a7421_6 rfl (lv_at hl 0 rfl) ?_
  refine rg F w clB 0 rfl 1 (by decide) q246 rfl (v := .int 0) rfl dJ5_inflateIfNeededFor_a7421_7 ?_
  refine lv_aload_n F.x F.b dJ5_inflateIfNeededFor_a7421_10 rfl (lv_at hl 1 rfl) ?_
  refine kRi F w (LC := [[(so, .inr (0, [.ref sv, .int 0, .int 0, .int 0]))], [(sv, .inl (G.2.1 3, tn, .inl fs))]]) (LR := [[((o 0), .inr (1, [.ref va, .int 0, .int mb, .int (nI n)]))], [(va, .inl (G.2.1 3, cp, .inl f))]]) (As := []) (rest := [.int 0]) (t_J0_coder_7d493_S F.1 (so := so) (sv := sv) (tn := tn) (fs := fs) hSG) m_J0_coder_7d493 v_J0_coder_7d493 (List.mem_of_getElem? (i := 885) (by decide +kernel)) (rvS F w 2 rfl) 4 [2, 3, 0, 1] rfl rfl rfl ⟨Nat.le_of_ble_eq_true rfl, Nat.le_of_ble_eq_true rfl⟩ rfl hl.1 rfl (Nat.le_of_ble_eq_true rfl) dJ5_inflateIfNeededFor_a7421_11 ⟨Nat.le_of_ble_eq_true rfl, Nat.le_of_ble_eq_true rfl⟩ (fun H locs w => ?_)
  have w := w.jn (L1 := [[(so, .inr (0, [.ref sv, .int 0, .int 0, .int 0]))], [(sv, .inl (G.2.1 3, tn, .inl fs))]]) (L' := [[((o 0), .inr (1, [.ref va, .int 0, .int mb, .int (nI n)]))], [(va, .inl (G.2.1 3, cp, .inl f))], [(so, .inr (0, [.ref sv, .int 0, .int 0, .int 0]))], [(sv, .inl (G.2.1 3, tn, .inl fs))]]) rfl 4 [2, 3, 0, 1] rfl rfl rfl
  have w : Wd G A s.heap (fl [[((o 0), .inr (1, [.ref va, .int 0, .int mb, .int (nI n)]))], [(va, .inl (G.2.1 3, cp, .inl f))], [(so, .inr (0, [.ref sv, .int 0, .int 0, .int 0]))], [(sv, .inl (G.2.1 3, tn, .inl fs))]]) _ _ := w
  refine lv_icmp_eq (tgt := 21) F.x F.b dJ5_inflateIfNeededFor_a7421_14 (by decide) (fun _ => ?_) (fun c9 => absurd rfl c9)
  exact evN F w hr hlocks rfl (Nat.le_of_ble_eq_true rfl) (Nat.le_of_ble_eq_true rfl) dJ5_inflateIfNeededFor_a7421_21
set_option maxRecDepth 100000 in
set_option maxHeartbeats 4000000 in
theorem t_J5_putStringAt_47b60_U {G : cG} (g : GOK G) {ks kv : Nat → Nat} {k2 v2 : Nat → Nat} {i : Nat} {o : Nat → Nat} {va cp n : Nat} {mb : Int32} {f : Nat → Int32} {q : Nat} (hSG : SG G ks kv) (hUG : SG2 G k2 v2) (hi : i < 4) (pv2 : PV2 G) (hq : q + (lenU.getD i 0) ≤ cp) (hc35 : cp < 35) (hfs : ∀ j, j < (lenU.getD i 0) → ∃ ch, ch < 128 ∧ (bytU.getD i []).getD j 0 = nI ch) : CN G yJ5_putStringAt_47b60 cJ5_putStringAt_47b60 3 2 83 0 0 [.ref (o 0), .int (nI q), .ref (k2 i)] (fl [wSb G.2.1 o (va, cp, n, mb, f)]) (fun w' => w' = fl [wSb G.2.1 o (va, cp, n, mb, va_cpy (fun j => (bytU.getD i []).getD j 0) f (Int32.toNatClampNeg 0) (Int32.toNatClampNeg (nI q)) (Int32.toNatClampNeg (nI (lenU.getD i 0))))]) := by
  refine CN.of g (by decide) rfl (Nat.le_of_ble_eq_true rfl) ?_
  intro p l e s m below meth c A ls hnm F hr hlocks w hl
  generalize ([.ref (o 0), .int (nI q), .ref (k2 i)] : List Value).toArray = args
  have hl : lv_has ls 3 [(0, .ref (o 0)), (1, .int (nI q)), (2, .ref (k2 i))] := hl
  have w : Wd G A s.heap (fl [wSb G.2.1 o (va, cp, n, mb, f)]) _ _ := w
  obtain ⟨-, hco, hva, hby⟩ := (F.uk hUG).1 i hi
  have w : Wd G A s.heap (fl [[((o 0), .inr (1, [.ref va, .int 0, .int mb, .int (nI n)]))], [(va, .inl (G.2.1 3, cp, .inl f))]]) _ _ := w
  refine lv_aload_n F.x F.b dJ5_putStringAt_47b60_0 rfl (lv_at hl 0 rfl) ?_
  refine lv_aload_n F.x F.b dJ5_putStringAt_47b60_1 rfl (lv_at hl 2 rfl) ?_
  refine kUn F w (LC := [[((o 0), .inr (1, [.ref va, .int 0, .int mb, .int (nI n)]))], [(va, .inl (G.2.1 3, cp, .inl f))]]) (LR := []) (As := [.ref (k2 i)]) (rest := []) (t_J5_inflateIfNeededFor_a7421_U F.1 (o := o) (va := va) (cp := cp) (n := n) (mb := mb) (f := f) hSG hUG hi) m_J5_inflateIfNeededFor_a7421 (List.mem_of_getElem? (i := 883) (by decide +kernel)) (List.mem_of_getElem? (i := 881) (by decide +kernel)) (List.mem_of_getElem? (i := 1517) (by decide +kernel)) (ci := 1) (q0 := 0) rfl rfl (F.pv2 pv2 args).2 2 [0, 1] rfl rfl rfl ⟨Nat.le_of_ble_eq_true rfl, Nat.le_of_ble_eq_true rfl⟩ rfl hl.1 rfl (Nat.le_of_ble_eq_true rfl) dJ5_putStringAt_47b60_2 ⟨Nat.le_of_ble_eq_true rfl, Nat.le_of_ble_eq_true rfl⟩ (fun w1 H locs h9 w => ?_)
  subst h9
  have w : Wd G A s.heap (fl [[((o 0), .inr (1, [.ref va, .int 0, .int mb, .int (nI n)]))], [(va, .inl (G.2.1 3, cp, .inl f))]]) _ _ := w
  refine lv_aload_n F.x F.b dJ5_putStringAt_47b60_5 rfl (lv_at hl 2 rfl) ?_
  refine lv_aload_n F.x F.b dJ5_putStringAt_47b60_6 rfl (lv_at hl 0 rfl) ?_
  refine rg F w clB 0 rfl 0 (by decide) q245 rfl (v := .ref va) rfl dJ5_putStringAt_47b60_7 ?_
  refine lv_iload_n F.x F.b dJ5_putStringAt_47b60_10 rfl (lv_at hl 1 rfl) ?_
  refine lv_aload_n F.x F.b dJ5_putStringAt_47b60_11 rfl (lv_at hl 0 rfl) ?_
  refine rg F w clB 0 rfl 1 (by decide) q246 rfl (v := .int 0) rfl dJ5_putStringAt_47b60_12 ?_
  refine kRn F w (LC := [[(va, .inl (G.2.1 3, cp, .inl f))]]) (LR := [[((o 0), .inr (1, [.ref va, .int 0, .int mb, .int (nI n)]))]]) (As := [.ref va, .int (nI q), .int 0]) (rest := []) (t_J0_getBytes_840e7_U F.1 hSG hUG hi hq hc35 hfs) m_J0_getBytes_840e7 v_J0_getBytes_840e7 (List.mem_of_getElem? (i := 905) (by decide +kernel)) (rvU F hUG hi w) 2 [1, 0] rfl rfl rfl ⟨Nat.le_of_ble_eq_true rfl, Nat.le_of_ble_eq_true rfl⟩ rfl hl.1 rfl (Nat.le_of_ble_eq_true rfl) dJ5_putStringAt_47b60_15 ⟨Nat.le_of_ble_eq_true rfl, Nat.le_of_ble_eq_true rfl⟩ (fun w1 H locs h9 w => ?_)
  subst h9
  have w := w.jn (L1 := [[(va, .inl (G.2.1 3, cp, .inl (va_cpy (fun j => (bytU.getD i []).getD j 0) f (Int32.toNatClampNeg 0) (Int32.toNatClampNeg (nI q)) (Int32.toNatClampNeg (nI (lenU.getD i 0))))))]]) (L' := [[((o 0), .inr (1, [.ref va, .int 0, .int mb, .int (nI n)]))], [(va, .inl (G.2.1 3, cp, .inl (va_cpy (fun j => (bytU.getD i []).getD j 0) f (Int32.toNatClampNeg 0) (Int32.toNatClampNeg (nI q)) (Int32.toNatClampNeg (nI (lenU.getD i 0))))))]]) rfl 2 [1, 0] rfl rfl rfl
  exact evN F w hr hlocks rfl (Nat.le_of_ble_eq_true rfl) (Nat.le_of_ble_eq_true rfl) dJ5_putStringAt_47b60_18
set_option maxRecDepth 100000 in
set_option maxHeartbeats 4000000 in
theorem t_J5_putStringAt_47b60_S {G : cG} (g : GOK G) {ks kv : Nat → Nat} {so sv tn : Nat} {fs : Nat → Int32} {o : Nat → Nat} {va cp n : Nat} {mb : Int32} {f : Nat → Int32} {q : Nat} (hSG : SG G ks kv) (pv2 : PV2 G) (hq : q + tn ≤ cp) (hc35 : cp < 35) (hfs : ∀ j, j < tn → ∃ ch, ch < 128 ∧ fs j = nI ch) : CN G yJ5_putStringAt_47b60 cJ5_putStringAt_47b60 3 2 83 0 0 [.ref (o 0), .int (nI q), .ref so] (fl [wSb G.2.1 o (va, cp, n, mb, f), wSt G.2.1 so sv tn fs]) (fun w' => w' = fl [wSb G.2.1 o (va, cp, n, mb, va_cpy fs f (Int32.toNatClampNeg 0) (Int32.toNatClampNeg (nI q)) (Int32.toNatClampNeg (nI tn))), wSt G.2.1 so sv tn fs]) := by
  refine CN.of g (by decide) rfl (Nat.le_of_ble_eq_true rfl) ?_
  intro p l e s m below meth c A ls hnm F hr hlocks w hl
  generalize ([.ref (o 0), .int (nI q), .ref so] : List Value).toArray = args
  have hl : lv_has ls 3 [(0, .ref (o 0)), (1, .int (nI q)), (2, .ref so)] := hl
  have w : Wd G A s.heap (fl [wSb G.2.1 o (va, cp, n, mb, f), wSt G.2.1 so sv tn fs]) _ _ := w
  have w : Wd G A s.heap (fl [[((o 0), .inr (1, [.ref va, .int 0, .int mb, .int (nI n)]))], [(va, .inl (G.2.1 3, cp, .inl f))], [(so, .inr (0, [.ref sv, .int 0, .int 0, .int 0]))], [(sv, .inl (G.2.1 3, tn, .inl fs))]]) _ _ := w
  refine lv_aload_n F.x F.b dJ5_putStringAt_47b60_0 rfl (lv_at hl 0 rfl) ?_
  refine lv_aload_n F.x F.b dJ5_putStringAt_47b60_1 rfl (lv_at hl 2 rfl) ?_
  refine kUn F w (LC := [[((o 0), .inr (1, [.ref va, .int 0, .int mb, .int (nI n)]))], [(va, .inl (G.2.1 3, cp, .inl f))], [(so, .inr (0, [.ref sv, .int 0, .int 0, .int 0]))], [(sv, .inl (G.2.1 3, tn, .inl fs))]]) (LR := []) (As := [.ref so]) (rest := []) (t_J5_inflateIfNeededFor_a7421_S F.1 (so := so) (sv := sv) (tn := tn) (fs := fs) (o := o) (va := va) (cp := cp) (n := n) (mb := mb) (f := f) hSG) m_J5_inflateIfNeededFor_a7421 (List.mem_of_getElem? (i := 883) (by decide +kernel)) (List.mem_of_getElem? (i := 881) (by decide +kernel)) (List.mem_of_getElem? (i := 1517) (by decide +kernel)) (ci := 1) (q0 := 0) rfl rfl (F.pv2 pv2 args).2 4 [0, 1, 2, 3] rfl rfl rfl ⟨Nat.le_of_ble_eq_true rfl, Nat.le_of_ble_eq_true rfl⟩ rfl hl.1 rfl (Nat.le_of_ble_eq_true rfl) dJ5_putStringAt_47b60_2 ⟨Nat.le_of_ble_eq_true rfl, Nat.le_of_ble_eq_true rfl⟩ (fun w1 H locs h9 w => ?_)
  subst h9
  have w : Wd G A s.heap (fl [[((o 0), .inr (1, [.ref va, .int 0, .int mb, .int (nI n)]))], [(va, .inl (G.2.1 3, cp, .inl f))], [(so, .inr (0, [.ref sv, .int 0, .int 0, .int 0]))], [(sv, .inl (G.2.1 3, tn, .inl fs))]]) _ _ := w
  refine lv_aload_n F.x F.b dJ5_putStringAt_47b60_5 rfl (lv_at hl 2 rfl) ?_
  refine lv_aload_n F.x F.b dJ5_putStringAt_47b60_6 rfl (lv_at hl 0 rfl) ?_
  refine rg F w clB 0 rfl 0 (by decide) q245 rfl (v := .ref va) rfl dJ5_putStringAt_47b60_7 ?_
  refine lv_iload_n F.x F.b dJ5_putStringAt_47b60_10 rfl (lv_at hl 1 rfl) ?_
  refine lv_aload_n F.x F.b dJ5_putStringAt_47b60_11 rfl (lv_at hl 0 rfl) ?_
  refine rg F w clB 0 rfl 1 (by decide) q246 rfl (v := .int 0) rfl dJ5_putStringAt_47b60_12 ?_
  refine kRn F w (LC := [[(so, .inr (0, [.ref sv, .int 0, .int 0, .int 0]))], [(sv, .inl (G.2.1 3, tn, .inl fs))], [(va, .inl (G.2.1 3, cp, .inl f))]]) (LR := [[((o 0), .inr (1, [.ref va, .int 0, .int mb, .int (nI n)]))]]) (As := [.ref va, .int (nI q), .int 0]) (rest := []) (t_J0_getBytes_840e7_S F.1 hSG hq hc35 hfs) m_J0_getBytes_840e7 v_J0_getBytes_840e7 (List.mem_of_getElem? (i := 905) (by decide +kernel)) (rvS F w 2 rfl) 4 [2, 3, 1, 0] rfl rfl rfl ⟨Nat.le_of_ble_eq_true rfl, Nat.le_of_ble_eq_true rfl⟩ rfl hl.1 rfl (Nat.le_of_ble_eq_true rfl) dJ5_putStringAt_47b60_15 ⟨Nat.le_of_ble_eq_true rfl, Nat.le_of_ble_eq_true rfl⟩ (fun w1 H locs h9 w => ?_)
  subst h9
  have w := w.jn (L1 := [[(so, .inr (0, [.ref sv, .int 0, .int 0, .int 0]))], [(sv, .inl (G.2.1 3, tn, .inl fs))], [(va, .inl (G.2.1 3, cp, .inl (va_cpy fs f (Int32.toNatClampNeg 0) (Int32.toNatClampNeg (nI q)) (Int32.toNatClampNeg (nI tn)))))]]) (L' := [[((o 0), .inr (1, [.ref va, .int 0, .int mb, .int (nI n)]))], [(va, .inl (G.2.1 3, cp, .inl (va_cpy fs f (Int32.toNatClampNeg 0) (Int32.toNatClampNeg (nI q)) (Int32.toNatClampNeg (nI tn)))))], [(so, .inr (0, [.ref sv, .int 0, .int 0, .int 0]))], [(sv, .inl (G.2.1 3, tn, .inl fs))]]) rfl 4 [3, 2, 0, 1] rfl rfl rfl
  exact evN F w hr hlocks rfl (Nat.le_of_ble_eq_true rfl) (Nat.le_of_ble_eq_true rfl) dJ5_putStringAt_47b60_18
set_option maxRecDepth 100000 in
set_option maxHeartbeats 4000000 in
theorem t_J5_append_cf1ce_U {G : cG} (g : GOK G) {ks kv : Nat → Nat} {k2 v2 : Nat → Nat} {i : Nat} {o : Nat → Nat} {va cp n : Nat} {mb : Int32} {f : Nat → Int32} {L : List Nat} (hSG : SG G ks kv) (hUG : SG2 G k2 v2) (hi : i < 4) (pv : PV G) (pv2 : PV2 G) (hT : Tx (va, cp, n, mb, f) L) (hn : n + (lenU.getD i 0) ≤ cp) : CRm G yJ5_append_cf1ce cJ5_append_cf1ce 3 (.object "java/lang/AbstractStringBuilder") 4 105 0 0 [.ref (o 0), .ref (k2 i)] (fl [wSb G.2.1 o (va, cp, n, mb, f)]) (fun a9 w' => a9 = o 0 ∧ ∃ va' f', w' = fl [wSb G.2.1 o (va', cp, (n + (lenU.getD i 0)), mb, f')] ∧ Tx (va', cp, n + (lenU.getD i 0), mb, f') (L ++ chU.getD i [])) := by
  have hf : ∀ i, i < n → ∃ ch, ch < 128 ∧ f i = nI ch := hT.fz
  have hc35 : cp < 35 := hT.c35
  have hfs : ∀ j, j < (lenU.getD i 0) → ∃ ch, ch < 128 ∧ (bytU.getD i []).getD j 0 = nI ch := (U_bx i hi).fz
  have hq2 : (n + (lenU.getD i 0) ≤ cp ∧ cp = cp) ∨ (cp = 16 ∧ n + (lenU.getD i 0) = 17 ∧ n = 16 ∧ 1 ≤ 0 ∧ 34 ≤ 0 ∧ 34 = cp) := Or.inl ⟨hn, rfl⟩
  refine CRm.of g (by decide) rfl (Nat.le_of_ble_eq_true rfl) ?_
  intro p l e s m below meth c A ls F hr hlocks w hl
  generalize ([.ref (o 0), .ref (k2 i)] : List Value).toArray = args
  have hl : lv_has ls 3 [(0, .ref (o 0)), (1, .ref (k2 i))] := hl
  have w : Wd G A s.heap (fl [wSb G.2.1 o (va, cp, n, mb, f)]) _ _ := w
  obtain ⟨-, hco, hva, hby⟩ := (F.uk hUG).1 i hi
  have w : Wd G A s.heap (fl [[((o 0), .inr (1, [.ref va, .int 0, .int mb, .int (nI n)]))], [(va, .inl (G.2.1 3, cp, .inl f))]]) _ _ := w
  refine lv_aload_n F.x F.b dJ5_append_cf1ce_0 rfl (lv_at hl 1 rfl) ?_
  refine lv_ifnonnull (tgt := 9) F.x F.b dJ5_append_cf1ce_1 (by decide) ?_
  refine lv_aload_n F.x F.b dJ5_append_cf1ce_9 rfl (lv_at hl 1 rfl) ?_
  refine kRi F w (LC := []) (LR := [[((o 0), .inr (1, [.ref va, .int 0, .int mb, .int (nI n)]))], [(va, .inl (G.2.1 3, cp, .inl f))]]) (As := []) (rest := []) (t_J0_length_8abf5_U F.1 hSG hUG hi) m_J0_length_8abf5 v_J0_length_8abf5 (List.mem_of_getElem? (i := 868) (by decide +kernel)) (rvU F hUG hi w) 2 [0, 1] rfl rfl rfl ⟨Nat.le_of_ble_eq_true rfl, Nat.le_of_ble_eq_true rfl⟩ rfl hl.1 rfl (Nat.le_of_ble_eq_true rfl) dJ5_append_cf1ce_10 ⟨Nat.le_of_ble_eq_true rfl, Nat.le_of_ble_eq_true rfl⟩ (fun H locs w => ?_)
  have w : Wd G A s.heap (fl [[((o 0), .inr (1, [.ref va, .int 0, .int mb, .int (nI n)]))], [(va, .inl (G.2.1 3, cp, .inl f))]]) _ _ := w
  refine lv_istore_n (lv' := [(2, .int (nI (lenU.getD i 0))), (0, .ref (o 0)), (1, .ref (k2 i))]) F.x F.b dJ5_append_cf1ce_13 rfl hl (by decide) rfl (fun ls hl => ?_)
  refine lv_aload_n F.x F.b dJ5_append_cf1ce_14 rfl (lv_at hl 1 rfl) ?_
  refine lv_aload_n F.x F.b dJ5_append_cf1ce_15 rfl (lv_at hl 1 rfl) ?_
  refine rg F w clB 0 rfl 3 (by decide) q249 rfl (v := .int (nI n)) rfl dJ5_append_cf1ce_16 ?_
  refine lv_iload_n F.x F.b dJ5_append_cf1ce_19 rfl (lv_at hl 0 rfl) ?_
  refine lv_iadd F.x F.b dJ5_append_cf1ce_20 ?_
  rw [show (((nI n) + (nI (lenU.getD i 0))) : Int32) = (nI (n + (lenU.getD i 0))) from (nI_add n (lenU.getD i 0))]
  refine kUn F w (LC := [[((o 0), .inr (1, [.ref va, .int 0, .int mb, .int (nI n)]))], [(va, .inl (G.2.1 3, cp, .inl f))]]) (LR := []) (As := [.int (nI (n + (lenU.getD i 0)))]) (rest := []) (t_J5_ensureCapacityInternal_d00df F.1 (q := n + (lenU.getD i 0)) (mm := cp) (gm := 0) (gs := 0) pv hc35 hq2 hf) m_J5_ensureCapacityInternal_d00df (List.mem_of_getElem? (i := 808) (by decide +kernel)) (List.mem_of_getElem? (i := 806) (by decide +kernel)) (List.mem_of_getElem? (i := 1514) (by decide +kernel)) (ci := 1) (q0 := 0) rfl rfl (F.pv pv args).1 2 [0, 1] rfl rfl rfl ⟨Nat.le_of_ble_eq_true rfl, Nat.le_of_ble_eq_true rfl⟩ rfl hl.1 rfl (Nat.le_of_ble_eq_true rfl) dJ5_append_cf1ce_21 ⟨Nat.le_of_ble_eq_true rfl, Nat.le_of_ble_eq_true rfl⟩ (fun w1 H locs h9 w => ?_)
  obtain ⟨va', f', h9, hk⟩ := h9
  have w := w.jn (L1 := [[((o 0), .inr (1, [.ref va', .int 0, .int mb, .int (nI n)]))], [(va', .inl (G.2.1 3, cp, .inl f'))]]) (L' := [[((o 0), .inr (1, [.ref va', .int 0, .int mb, .int (nI n)]))], [(va', .inl (G.2.1 3, cp, .inl f'))]]) h9 2 [0, 1] rfl rfl rfl
  have w : Wd G A s.heap (fl [[((o 0), .inr (1, [.ref va', .int 0, .int mb, .int (nI n)]))], [(va', .inl (G.2.1 3, cp, .inl f'))]]) _ _ := w
  refine lv_aload_n F.x F.b dJ5_append_cf1ce_24 rfl (lv_at hl 1 rfl) ?_
  refine lv_aload_n F.x F.b dJ5_append_cf1ce_25 rfl (lv_at hl 1 rfl) ?_
  refine rg F w clB 0 rfl 3 (by decide) q249 rfl (v := .int (nI n)) rfl dJ5_append_cf1ce_26 ?_
  refine lv_aload_n F.x F.b dJ5_append_cf1ce_29 rfl (lv_at hl 2 rfl) ?_
  refine kUn F w (LC := [[((o 0), .inr (1, [.ref va', .int 0, .int mb, .int (nI n)]))], [(va', .inl (G.2.1 3, cp, .inl f'))]]) (LR := []) (As := [.int (nI n), .ref (k2 i)]) (rest := []) (t_J5_putStringAt_47b60_U F.1 (o := o) (va := va') (cp := cp) (n := n) (mb := mb) (f := f') (q := n) hSG hUG hi pv2 hn hc35 hfs) m_J5_putStringAt_47b60 (List.mem_of_getElem? (i := 879) (by decide +kernel)) (List.mem_of_getElem? (i := 877) (by decide +kernel)) (List.mem_of_getElem? (i := 1516) (by decide +kernel)) (ci := 1) (q0 := 0) rfl rfl (F.pv2 pv2 args).1 2 [0, 1] rfl rfl rfl ⟨Nat.le_of_ble_eq_true rfl, Nat.le_of_ble_eq_true rfl⟩ rfl hl.1 rfl (Nat.le_of_ble_eq_true rfl) dJ5_append_cf1ce_30 ⟨Nat.le_of_ble_eq_true rfl, Nat.le_of_ble_eq_true rfl⟩ (fun w1 H locs h9 w => ?_)
  subst h9
  have w : Wd G A s.heap (fl [[((o 0), .inr (1, [.ref va', .int 0, .int mb, .int (nI n)]))], [(va', .inl (G.2.1 3, cp, .inl (va_cpy (fun j => (bytU.getD i []).getD j 0) f' (Int32.toNatClampNeg 0) (Int32.toNatClampNeg (nI n)) (Int32.toNatClampNeg (nI (lenU.getD i 0))))))]]) _ _ := w
  refine lv_aload_n F.x F.b dJ5_append_cf1ce_33 rfl (lv_at hl 1 rfl) ?_
  refine lv_dup F.x F.b dJ5_append_cf1ce_34 rfl ?_
  refine rg F w clB 0 rfl 3 (by decide) q249 rfl (v := .int (nI n)) rfl dJ5_append_cf1ce_35 ?_
  refine lv_iload_n F.x F.b dJ5_append_cf1ce_38 rfl (lv_at hl 0 rfl) ?_
  refine lv_iadd F.x F.b dJ5_append_cf1ce_39 ?_
  rw [show (((nI n) + (nI (lenU.getD i 0))) : Int32) = (nI (n + (lenU.getD i 0))) from (nI_add n (lenU.getD i 0))]
  refine rp F w (ws' := fl [[((o 0), .inr (1, [.ref va', .int 0, .int mb, .int (nI (n + (lenU.getD i 0)))]))], [(va', .inl (G.2.1 3, cp, .inl (va_cpy (fun j => (bytU.getD i []).getD j 0) f' (Int32.toNatClampNeg 0) (Int32.toNatClampNeg (nI n)) (Int32.toNatClampNeg (nI (lenU.getD i 0))))))]]) clB 0 rfl 3 (by decide) q249 rfl rfl rfl rfl (Nat.le_of_ble_eq_true rfl) rfl dJ5_append_cf1ce_40 (fun H locs w => ?_)
  refine lv_aload_n F.x F.b dJ5_append_cf1ce_43 rfl (lv_at hl 1 rfl) ?_
  exact eRm F w (Or.inl hr) hlocks ⟨rfl, va', _, rfl, Tx_cat hT hk (U_bx i hi) hn⟩ (Nat.le_of_ble_eq_true rfl) (Nat.le_of_ble_eq_true rfl) dJ5_append_cf1ce_44
set_option maxRecDepth 100000 in
set_option maxHeartbeats 4000000 in
theorem t_J4_append_15ec4_U {G : cG} (g : GOK G) {ks kv : Nat → Nat} {k2 v2 : Nat → Nat} {i : Nat} {o : Nat → Nat} {va cp n : Nat} {mb : Int32} {f : Nat → Int32} {L : List Nat} (hSG : SG G ks kv) (hUG : SG2 G k2 v2) (hi : i < 4) (pv : PV G) (pv2 : PV2 G) (hT : Tx (va, cp, n, mb, f) L) (hn : n + (lenU.getD i 0) ≤ cp) : CRm G yJ4_append_15ec4 cJ4_append_15ec4 2 (.object "java/lang/StringBuilder") 5 127 0 0 [.ref (o 0), .ref (k2 i)] (fl [wSb G.2.1 o (va, cp, n, mb, f)]) (fun a9 w' => a9 = o 0 ∧ ∃ va' f', w' = fl [wSb G.2.1 o (va', cp, (n + (lenU.getD i 0)), mb, f')] ∧ Tx (va', cp, n + (lenU.getD i 0), mb, f') (L ++ chU.getD i [])) := by
  refine CRm.of g (by decide) rfl (Nat.le_of_ble_eq_true rfl) ?_
  intro p l e s m below meth c A ls F hr hlocks w hl
  generalize ([.ref (o 0), .ref (k2 i)] : List Value).toArray = args
  have hl : lv_has ls 2 [(0, .ref (o 0)), (1, .ref (k2 i))] := hl
  have w : Wd G A s.heap (fl [wSb G.2.1 o (va, cp, n, mb, f)]) _ _ := w
  have w : Wd G A s.heap (fl [[((o 0), .inr (1, [.ref va, .int 0, .int mb, .int (nI n)]))], [(va, .inl (G.2.1 3, cp, .inl f))]]) _ _ := w
  refine lv_aload_n F.x F.b dJ4_append_15ec4_0 rfl (lv_at hl 0 rfl) ?_
  refine lv_aload_n F.x F.b dJ4_append_15ec4_1 rfl (lv_at hl 1 rfl) ?_
  refine kSUr F w (LC := [[((o 0), .inr (1, [.ref va, .int 0, .int mb, .int (nI n)]))], [(va, .inl (G.2.1 3, cp, .inl f))]]) (LR := []) (As := [.ref (k2 i)]) (rest := []) (t_J5_append_cf1ce_U F.1 hSG hUG hi pv pv2 hT hn) m_J5_append_cf1ce (List.mem_of_getElem? (i := 800) (by decide +kernel)) (List.mem_of_getElem? (i := 799) (by decide +kernel)) (List.mem_of_getElem? (i := 1512) (by decide +kernel)) (List.mem_of_getElem? (i := 258) (by decide +kernel)) (by decide) (ci := 1) (q0 := 0) rfl rfl 2 [0, 1] rfl rfl rfl ⟨Nat.le_of_ble_eq_true rfl, Nat.le_of_ble_eq_true rfl⟩ rfl hl.1 rfl (Nat.le_of_ble_eq_true rfl) dJ4_append_15ec4_2 ⟨Nat.le_of_ble_eq_true rfl, Nat.le_of_ble_eq_true rfl⟩ (fun a9 w1 H locs h9 w => ?_)
  obtain ⟨rfl, va', f', h9, hT2⟩ := h9
  subst h9
  have w : Wd G A s.heap (fl [[((o 0), .inr (1, [.ref va', .int 0, .int mb, .int (nI (n + (lenU.getD i 0)))]))], [(va', .inl (G.2.1 3, cp, .inl f'))]]) _ _ := w
  refine lv_pop F.x F.b dJ4_append_15ec4_5 rfl ?_
  refine lv_aload_n F.x F.b dJ4_append_15ec4_6 rfl (lv_at hl 0 rfl) ?_
  exact eRm F w (Or.inl hr) hlocks ⟨rfl, va', f', rfl, hT2⟩ (Nat.le_of_ble_eq_true rfl) (Nat.le_of_ble_eq_true rfl) dJ4_append_15ec4_7
set_option maxRecDepth 100000 in
set_option maxHeartbeats 4000000 in
theorem t_J5_append_cf1ce_S {G : cG} (g : GOK G) {ks kv : Nat → Nat} {so sv tn : Nat} {fs : Nat → Int32} {o : Nat → Nat} {va cp n : Nat} {mb : Int32} {f : Nat → Int32} {L : List Nat} {M : List Nat} (hSG : SG G ks kv) (pv : PV G) (pv2 : PV2 G) (hT : Tx (va, cp, n, mb, f) L) (hn : n + tn ≤ cp) (hM : Bx M tn fs) : CRm G yJ5_append_cf1ce cJ5_append_cf1ce 3 (.object "java/lang/AbstractStringBuilder") 4 105 0 0 [.ref (o 0), .ref so] (fl [wSb G.2.1 o (va, cp, n, mb, f), wSt G.2.1 so sv tn fs]) (fun a9 w' => a9 = o 0 ∧ ∃ va' f', w' = fl [wSb G.2.1 o (va', cp, (n + tn), mb, f'), wSt G.2.1 so sv tn fs] ∧ Tx (va', cp, n + tn, mb, f') (L ++ M)) := by
  have hf : ∀ i, i < n → ∃ ch, ch < 128 ∧ f i = nI ch := hT.fz
  have hc35 : cp < 35 := hT.c35
  have hfs : ∀ j, j < tn → ∃ ch, ch < 128 ∧ fs j = nI ch := hM.fz
  have hq2 : (n + tn ≤ cp ∧ cp = cp) ∨ (cp = 16 ∧ n + tn = 17 ∧ n = 16 ∧ 1 ≤ 0 ∧ 34 ≤ 0 ∧ 34 = cp) := Or.inl ⟨hn, rfl⟩
  refine CRm.of g (by decide) rfl (Nat.le_of_ble_eq_true rfl) ?_
  intro p l e s m below meth c A ls F hr hlocks w hl
  generalize ([.ref (o 0), .ref so] : List Value).toArray = args
  have hl : lv_has ls 3 [(0, .ref (o 0)), (1, .ref so)] := hl
  have w : Wd G A s.heap (fl [wSb G.2.1 o (va, cp, n, mb, f), wSt G.2.1 so sv tn fs]) _ _ := w
  have w : Wd G A s.heap (fl [[((o 0), .inr (1, [.ref va, .int 0, .int mb, .int (nI n)]))], [(va, .inl (G.2.1 3, cp, .inl f))], [(so, .inr (0, [.ref sv, .int 0, .int 0, .int 0]))], [(sv, .inl (G.2.1 3, tn, .inl fs))]]) _ _ := w
  refine lv_aload_n F.x F.b dJ5_append_cf1ce_0 rfl (lv_at hl 1 rfl) ?_
  refine lv_ifnonnull (tgt := 9) F.x F.b dJ5_append_cf1ce_1 (by decide) ?_
  refine lv_aload_n F.x F.b dJ5_append_cf1ce_9 rfl (lv_at hl 1 rfl) ?_
  refine kRi F w (LC := [[(so, .inr (0, [.ref sv, .int 0, .int 0, .int 0]))], [(sv, .inl (G.2.1 3, tn, .inl fs))]]) (LR := [[((o 0), .inr (1, [.ref va, .int 0, .int mb, .int (nI n)]))], [(va, .inl (G.2.1 3, cp, .inl f))]]) (As := []) (rest := []) (t_J0_length_8abf5_S F.1 (so := so) (sv := sv) (tn := tn) (fs := fs) hSG) m_J0_length_8abf5 v_J0_length_8abf5 (List.mem_of_getElem? (i := 868) (by decide +kernel)) (rvS F w 2 rfl) 4 [2, 3, 0, 1] rfl rfl rfl ⟨Nat.le_of_ble_eq_true rfl, Nat.le_of_ble_eq_true rfl⟩ rfl hl.1 rfl (Nat.le_of_ble_eq_true rfl) dJ5_append_cf1ce_10 ⟨Nat.le_of_ble_eq_true rfl, Nat.le_of_ble_eq_true rfl⟩ (fun H locs w => ?_)
  have w := w.jn (L1 := [[(so, .inr (0, [.ref sv, .int 0, .int 0, .int 0]))], [(sv, .inl (G.2.1 3, tn, .inl fs))]]) (L' := [[((o 0), .inr (1, [.ref va, .int 0, .int mb, .int (nI n)]))], [(va, .inl (G.2.1 3, cp, .inl f))], [(so, .inr (0, [.ref sv, .int 0, .int 0, .int 0]))], [(sv, .inl (G.2.1 3, tn, .inl fs))]]) rfl 4 [2, 3, 0, 1] rfl rfl rfl
  have w : Wd G A s.heap (fl [[((o 0), .inr (1, [.ref va, .int 0, .int mb, .int (nI n)]))], [(va, .inl (G.2.1 3, cp, .inl f))], [(so, .inr (0, [.ref sv, .int 0, .int 0, .int 0]))], [(sv, .inl (G.2.1 3, tn, .inl fs))]]) _ _ := w
  refine lv_istore_n (lv' := [(2, .int (nI tn)), (0, .ref (o 0)), (1, .ref so)]) F.x F.b dJ5_append_cf1ce_13 rfl hl (by decide) rfl (fun ls hl => ?_)
  refine lv_aload_n F.x F.b dJ5_append_cf1ce_14 rfl (lv_at hl 1 rfl) ?_
  refine lv_aload_n F.x F.b dJ5_append_cf1ce_15 rfl (lv_at hl 1 rfl) ?_
  refine rg F w clB 0 rfl 3 (by decide) q249 rfl (v := .int (nI n)) rfl dJ5_append_cf1ce_16 ?_
  refine lv_iload_n F.x F.b dJ5_append_cf1ce_19 rfl (lv_at hl 0 rfl) ?_
  refine lv_iadd F.x F.b dJ5_append_cf1ce_20 ?_
  rw [show (((nI n) + (nI tn)) : Int32) = (nI (n + tn)) from (nI_add n tn)]
  refine kUn F w (LC := [[((o 0), .inr (1, [.ref va, .int 0, .int mb, .int (nI n)]))], [(va, .inl (G.2.1 3, cp, .inl f))]]) (LR := [[(so, .inr (0, [.ref sv, .int 0, .int 0, .int 0]))], [(sv, .inl (G.2.1 3, tn, .inl fs))]]) (As := [.int (nI (n + tn))]) (rest := []) (t_J5_ensureCapacityInternal_d00df F.1 (q := n + tn) (mm := cp) (gm := 0) (gs := 0) pv hc35 hq2 hf) m_J5_ensureCapacityInternal_d00df (List.mem_of_getElem? (i := 808) (by decide +kernel)) (List.mem_of_getElem? (i := 806) (by decide +kernel)) (List.mem_of_getElem? (i := 1514) (by decide +kernel)) (ci := 1) (q0 := 0) rfl rfl (F.pv pv args).1 4 [0, 1, 2, 3] rfl rfl rfl ⟨Nat.le_of_ble_eq_true rfl, Nat.le_of_ble_eq_true rfl⟩ rfl hl.1 rfl (Nat.le_of_ble_eq_true rfl) dJ5_append_cf1ce_21 ⟨Nat.le_of_ble_eq_true rfl, Nat.le_of_ble_eq_true rfl⟩ (fun w1 H locs h9 w => ?_)
  obtain ⟨va', f', h9, hk⟩ := h9
  have w := w.jn (L1 := [[((o 0), .inr (1, [.ref va', .int 0, .int mb, .int (nI n)]))], [(va', .inl (G.2.1 3, cp, .inl f'))]]) (L' := [[((o 0), .inr (1, [.ref va', .int 0, .int mb, .int (nI n)]))], [(va', .inl (G.2.1 3, cp, .inl f'))], [(so, .inr (0, [.ref sv, .int 0, .int 0, .int 0]))], [(sv, .inl (G.2.1 3, tn, .inl fs))]]) h9 4 [0, 1, 2, 3] rfl rfl rfl
  have w : Wd G A s.heap (fl [[((o 0), .inr (1, [.ref va', .int 0, .int mb, .int (nI n)]))], [(va', .inl (G.2.1 3, cp, .inl f'))], [(so, .inr (0, [.ref sv, .int 0, .int 0, .int 0]))], [(sv, .inl (G.2.1 3, tn, .inl fs))]]) _ _ := w
  refine lv_aload_n F.x F.b dJ5_append_cf1ce_24 rfl (lv_at hl 1 rfl) ?_
  refine lv_aload_n F.x F.b dJ5_append_cf1ce_25 rfl (lv_at hl 1 rfl) ?_
  refine rg F w clB 0 rfl 3 (by decide) q249 rfl (v := .int (nI n)) rfl dJ5_append_cf1ce_26 ?_
  refine lv_aload_n F.x F.b dJ5_append_cf1ce_29 rfl (lv_at hl 2 rfl) ?_
  refine kUn F w (LC := [[((o 0), .inr (1, [.ref va', .int 0, .int mb, .int (nI n)]))], [(va', .inl (G.2.1 3, cp, .inl f'))], [(so, .inr (0, [.ref sv, .int 0, .int 0, .int 0]))], [(sv, .inl (G.2.1 3, tn, .inl fs))]]) (LR := []) (As := [.int (nI n), .ref so]) (rest := []) (t_J5_putStringAt_47b60_S F.1 (o := o) (va := va') (cp := cp) (n := n) (mb := mb) (f := f') (so := so) (sv := sv) (tn := tn) (fs := fs) (q := n) hSG pv2 hn hc35 hfs) m_J5_putStringAt_47b60 (List.mem_of_getElem? (i := 879) (by decide +kernel)) (List.mem_of_getElem? (i := 877) (by decide +kernel)) (List.mem_of_getElem? (i := 1516) (by decide +kernel)) (ci := 1) (q0 := 0) rfl rfl (F.pv2 pv2 args).1 4 [0, 1, 2, 3] rfl rfl rfl ⟨Nat.le_of_ble_eq_true rfl, Nat.le_of_ble_eq_true rfl⟩ rfl hl.1 rfl (Nat.le_of_ble_eq_true rfl) dJ5_append_cf1ce_30 ⟨Nat.le_of_ble_eq_true rfl, Nat.le_of_ble_eq_true rfl⟩ (fun w1 H locs h9 w => ?_)
  subst h9
  have w : Wd G A s.heap (fl [[((o 0), .inr (1, [.ref va', .int 0, .int mb, .int (nI n)]))], [(va', .inl (G.2.1 3, cp, .inl (va_cpy fs f' (Int32.toNatClampNeg 0) (Int32.toNatClampNeg (nI n)) (Int32.toNatClampNeg (nI tn)))))], [(so, .inr (0, [.ref sv, .int 0, .int 0, .int 0]))], [(sv, .inl (G.2.1 3, tn, .inl fs))]]) _ _ := w
  refine lv_aload_n F.x F.b dJ5_append_cf1ce_33 rfl (lv_at hl 1 rfl) ?_
  refine lv_dup F.x F.b dJ5_append_cf1ce_34 rfl ?_
  refine rg F w clB 0 rfl 3 (by decide) q249 rfl (v := .int (nI n)) rfl dJ5_append_cf1ce_35 ?_
  refine lv_iload_n F.x F.b dJ5_append_cf1ce_38 rfl (lv_at hl 0 rfl) ?_
  refine lv_iadd F.x F.b dJ5_append_cf1ce_39 ?_
  rw [show (((nI n) + (nI tn)) : Int32) = (nI (n + tn)) from (nI_add n tn)]
  refine rp F w (ws' := fl [[((o 0), .inr (1, [.ref va', .int 0, .int mb, .int (nI (n + tn))]))], [(va', .inl (G.2.1 3, cp, .inl (va_cpy fs f' (Int32.toNatClampNeg 0) (Int32.toNatClampNeg (nI n)) (Int32.toNatClampNeg (nI tn)))))], [(so, .inr (0, [.ref sv, .int 0, .int 0, .int 0]))], [(sv, .inl (G.2.1 3, tn, .inl fs))]]) clB 0 rfl 3 (by decide) q249 rfl rfl rfl rfl (Nat.le_of_ble_eq_true rfl) rfl dJ5_append_cf1ce_40 (fun H locs w => ?_)
  refine lv_aload_n F.x F.b dJ5_append_cf1ce_43 rfl (lv_at hl 1 rfl) ?_
  exact eRm F w (Or.inl hr) hlocks ⟨rfl, va', _, rfl, Tx_cat hT hk hM hn⟩ (Nat.le_of_ble_eq_true rfl) (Nat.le_of_ble_eq_true rfl) dJ5_append_cf1ce_44
set_option maxRecDepth 100000 in
set_option maxHeartbeats 4000000 in
theorem t_J4_append_15ec4_S {G : cG} (g : GOK G) {ks kv : Nat → Nat} {so sv tn : Nat} {fs : Nat → Int32} {o : Nat → Nat} {va cp n : Nat} {mb : Int32} {f : Nat → Int32} {L : List Nat} {M : List Nat} (hSG : SG G ks kv) (pv : PV G) (pv2 : PV2 G) (hT : Tx (va, cp, n, mb, f) L) (hn : n + tn ≤ cp) (hM : Bx M tn fs) : CRm G yJ4_append_15ec4 cJ4_append_15ec4 2 (.object "java/lang/StringBuilder") 5 127 0 0 [.ref (o 0), .ref so] (fl [wSb G.2.1 o (va, cp, n, mb, f), wSt G.2.1 so sv tn fs]) (fun a9 w' => a9 = o 0 ∧ ∃ va' f', w' = fl [wSb G.2.1 o (va', cp, (n + tn), mb, f'), wSt G.2.1 so sv tn fs] ∧ Tx (va', cp, n + tn, mb, f') (L ++ M)) := by
  refine CRm.of g (by decide) rfl (Nat.le_of_ble_eq_true rfl) ?_
  intro p l e s m below meth c A ls F hr hlocks w hl
  generalize ([.ref (o 0), .ref so] : List Value).toArray = args
  have hl : lv_has ls 2 [(0, .ref (o 0)), (1, .ref so)] := hl
  have w : Wd G A s.heap (fl [wSb G.2.1 o (va, cp, n, mb, f), wSt G.2.1 so sv tn fs]) _ _ := w
  have w : Wd G A s.heap (fl [[((o 0), .inr (1, [.ref va, .int 0, .int mb, .int (nI n)]))], [(va, .inl (G.2.1 3, cp, .inl f))], [(so, .inr (0, [.ref sv, .int 0, .int 0, .int 0]))], [(sv, .inl (G.2.1 3, tn, .inl fs))]]) _ _ := w
  refine lv_aload_n F.x F.b dJ4_append_15ec4_0 rfl (lv_at hl 0 rfl) ?_
  refine lv_aload_n F.x F.b dJ4_append_15ec4_1 rfl (lv_at hl 1 rfl) ?_
  refine kSUr F w (LC := [[((o 0), .inr (1, [.ref va, .int 0, .int mb, .int (nI n)]))], [(va, .inl (G.2.1 3, cp, .inl f))], [(so, .inr (0, [.ref sv, .int 0, .int 0, .int 0]))], [(sv, .inl (G.2.1 3, tn, .inl fs))]]) (LR := []) (As := [.ref so]) (rest := []) (t_J5_append_cf1ce_S F.1 hSG pv pv2 hT hn hM) m_J5_append_cf1ce (List.mem_of_getElem? (i := 800) (by decide +kernel)) (List.mem_of_getElem? (i := 799) (by decide +kernel)) (List.mem_of_getElem? (i := 1512) (by decide +kernel)) (List.mem_of_getElem? (i := 258) (by decide +kernel)) (by decide) (ci := 1) (q0 := 0) rfl rfl 4 [0, 1, 2, 3] rfl rfl rfl ⟨Nat.le_of_ble_eq_true rfl, Nat.le_of_ble_eq_true rfl⟩ rfl hl.1 rfl (Nat.le_of_ble_eq_true rfl) dJ4_append_15ec4_2 ⟨Nat.le_of_ble_eq_true rfl, Nat.le_of_ble_eq_true rfl⟩ (fun a9 w1 H locs h9 w => ?_)
  obtain ⟨rfl, va', f', h9, hT2⟩ := h9
  subst h9
  have w : Wd G A s.heap (fl [[((o 0), .inr (1, [.ref va', .int 0, .int mb, .int (nI (n + tn))]))], [(va', .inl (G.2.1 3, cp, .inl f'))], [(so, .inr (0, [.ref sv, .int 0, .int 0, .int 0]))], [(sv, .inl (G.2.1 3, tn, .inl fs))]]) _ _ := w
  refine lv_pop F.x F.b dJ4_append_15ec4_5 rfl ?_
  refine lv_aload_n F.x F.b dJ4_append_15ec4_6 rfl (lv_at hl 0 rfl) ?_
  exact eRm F w (Or.inl hr) hlocks ⟨rfl, va', f', rfl, hT2⟩ (Nat.le_of_ble_eq_true rfl) (Nat.le_of_ble_eq_true rfl) dJ4_append_15ec4_7
set_option maxRecDepth 100000 in
set_option maxHeartbeats 4000000 in
theorem t_J5_getValue_6d5f1 {G : cG} (g : GOK G) {o : Nat → Nat} {va cp n : Nat} {mb : Int32} {f : Nat → Int32} : CRm G yJ5_getValue_6d5f1 cJ5_getValue_6d5f1 1 (.array .byte) 0 0 0 0 [.ref (o 0)] (fl [wSb G.2.1 o (va, cp, n, mb, f)]) (fun a9 w' => va = a9 ∧ w' = fl [wSb G.2.1 o (va, cp, n, mb, f)]) := by
  refine CRm.of g (by decide) rfl (Nat.le_of_ble_eq_true rfl) ?_
  intro p l e s m below meth c A ls F hr hlocks w hl
  generalize ([.ref (o 0)] : List Value).toArray = args
  have hl : lv_has ls 1 [(0, .ref (o 0))] := hl
  have w : Wd G A s.heap (fl [wSb G.2.1 o (va, cp, n, mb, f)]) _ _ := w
  have w : Wd G A s.heap (fl [[((o 0), .inr (1, [.ref va, .int 0, .int mb, .int (nI n)]))], [(va, .inl (G.2.1 3, cp, .inl f))]]) _ _ := w
  refine lv_aload_n F.x F.b dJ5_getValue_6d5f1_0 rfl (lv_at hl 0 rfl) ?_
  refine rg F w clB 0 rfl 0 (by decide) q245 rfl (v := .ref va) rfl dJ5_getValue_6d5f1_1 ?_
  exact eRm F w (n := "") (Or.inr hr) hlocks ⟨rfl, rfl⟩ (Nat.le_of_ble_eq_true rfl) (Nat.le_of_ble_eq_true rfl) dJ5_getValue_6d5f1_4
set_option maxRecDepth 100000 in
set_option maxHeartbeats 4000000 in
theorem t_J7_checkLength_df160 {G : cG} (g : GOK G) {n : Nat} (hn : n < 35) : CN G yJ7_checkLength_df160 cJ7_checkLength_df160 2 0 0 0 0 [.int 0, .int (nI n)] (fl []) (fun w' => w' = fl []) := by
  refine CN.of g (by decide) rfl (Nat.le_of_ble_eq_true rfl) ?_
  intro p l e s m below meth c A ls hnm F hr hlocks w hl
  generalize ([.int 0, .int (nI n)] : List Value).toArray = args
  have hl : lv_has ls 2 [(0, .int 0), (1, .int (nI n))] := hl
  have w : Wd G A s.heap (fl []) _ _ := w
  refine lv_iload_n F.x F.b dJ7_checkLength_df160_0 rfl (lv_at hl 1 rfl) ?_
  refine lv_iload_n F.x F.b dJ7_checkLength_df160_1 rfl (lv_at hl 0 rfl) ?_
  refine lv_icmp_ge (tgt := 37) F.x F.b dJ7_checkLength_df160_2 (by decide) (fun _ => ?_) (fun c9 => absurd (nI_pos' (n := n) (by omega)) c9)
  exact evN F w hr hlocks rfl (Nat.le_of_ble_eq_true rfl) (Nat.le_of_ble_eq_true rfl) dJ7_checkLength_df160_37
set_option maxRecDepth 100000 in
set_option maxHeartbeats 4000000 in
theorem t_J7_copyOfRangeByte_39247 {G : cG} (g : GOK G) {va cp n : Nat} {f : Nat → Int32} (hlt : n < cp) (hc35 : cp < 35) (hf : ∀ i, i < n → ∃ ch, ch < 128 ∧ f i = nI ch) : CRm G yJ7_copyOfRangeByte_39247 cJ7_copyOfRangeByte_39247 5 (.array .byte) 1 60 1 34 [.ref va, .int 0, .int (nI n)] (fl [[(va, .inl (G.2.1 3, cp, .inl f))]]) (fun a9 w' => ∃ f', w' = fl [[(va, .inl (G.2.1 3, cp, .inl f))], [(a9, .inl (G.2.1 3, n, .inl f'))]] ∧ ∀ i, i < n → f' i = f i) := by
  refine CRm.of g (by decide) rfl (Nat.le_of_ble_eq_true rfl) ?_
  intro p l e s m below meth c A ls F hr hlocks w hl
  generalize ([.ref va, .int 0, .int (nI n)] : List Value).toArray = args
  have hl : lv_has ls 5 [(0, .ref va), (1, .int 0), (2, .int (nI n))] := hl
  have w : Wd G A s.heap (fl [[(va, .inl (G.2.1 3, cp, .inl f))]]) _ _ := w
  refine lv_iload_n F.x F.b dJ7_copyOfRangeByte_39247_0 rfl (lv_at hl 1 rfl) ?_
  refine lv_iload_n F.x F.b dJ7_copyOfRangeByte_39247_1 rfl (lv_at hl 2 rfl) ?_
  refine kSBn F w (LC := []) (LR := [[(va, .inl (G.2.1 3, cp, .inl f))]]) (As := [.int 0, .int (nI n)]) (rest := []) (t_J7_checkLength_df160 F.1 (n := n) (by omega)) m_J7_checkLength_df160 v_J7_checkLength_df160 (List.mem_of_getElem? (i := 969) (by decide +kernel)) 1 [0] rfl rfl rfl ⟨Nat.le_of_ble_eq_true rfl, Nat.le_of_ble_eq_true rfl⟩ rfl hl.1 rfl (Nat.le_of_ble_eq_true rfl) dJ7_copyOfRangeByte_39247_2 ⟨Nat.le_of_ble_eq_true rfl, Nat.le_of_ble_eq_true rfl⟩ (fun w1 H locs h9 w => ?_)
  subst h9
  have w : Wd G A s.heap (fl [[(va, .inl (G.2.1 3, cp, .inl f))]]) _ _ := w
  refine lv_iload_n F.x F.b dJ7_copyOfRangeByte_39247_5 rfl (lv_at hl 2 rfl) ?_
  refine lv_iload_n F.x F.b dJ7_copyOfRangeByte_39247_6 rfl (lv_at hl 1 rfl) ?_
  refine lv_isub F.x F.b dJ7_copyOfRangeByte_39247_7 ?_
  rw [show (((nI n) - 0) : Int32) = (nI n) from (by simp)]
  refine lv_istore_n (lv' := [(3, .int (nI n)), (0, .ref va), (1, .int 0), (2, .int (nI n))]) F.x F.b dJ7_copyOfRangeByte_39247_8 rfl hl (by decide) rfl (fun ls hl => ?_)
  refine lv_iload_n F.x F.b dJ7_copyOfRangeByte_39247_9 rfl (lv_at hl 0 rfl) ?_
  refine rnA F w (atype := .byte) (ty := .byte) 3 rfl (List.mem_of_getElem? (i := 259) (by decide +kernel)) (by decide +kernel) rfl (n, .inl (fun _ => 0)) (fun _ => rfl) (nI_pos (by omega)) (N' := n) (nI_clamp (by omega)) (by have e1 : componentBytes FieldType.byte = 1 := rfl; rw [e1]; omega) (Nat.le_of_ble_eq_true rfl) (by show 0 + n ≤ 34; omega) dJ7_copyOfRangeByte_39247_10 (fun z1 H w => ?_)
  have w : Wd G A s.heap (fl [[(va, .inl (G.2.1 3, cp, .inl f))], [(z1, .inl (G.2.1 3, n, .inl (fun _ => 0)))]]) _ _ := w
  refine lv_astore (lv' := [(4, .ref z1), (3, .int (nI n)), (0, .ref va), (1, .int 0), (2, .int (nI n))]) F.x F.b dJ7_copyOfRangeByte_39247_12 hl (by decide) rfl (fun ls hl => ?_)
  refine lv_aload_n F.x F.b dJ7_copyOfRangeByte_39247_14 rfl (lv_at hl 2 rfl) ?_
  refine lv_iload_n F.x F.b dJ7_copyOfRangeByte_39247_15 rfl (lv_at hl 3 rfl) ?_
  refine lv_aload F.x F.b dJ7_copyOfRangeByte_39247_16 (lv_at hl 0 rfl) ?_
  refine lv_iconst (v := 0) F.x F.b dJ7_copyOfRangeByte_39247_18 (by decide) ?_
  refine lv_aload_n F.x F.b dJ7_copyOfRangeByte_39247_19 rfl (lv_at hl 2 rfl) ?_
  refine rl F w 0 3 rfl rfl (v := (nI cp)) rfl dJ7_copyOfRangeByte_39247_20 ?_
  refine lv_iload_n F.x F.b dJ7_copyOfRangeByte_39247_21 rfl (lv_at hl 3 rfl) ?_
  refine lv_isub F.x F.b dJ7_copyOfRangeByte_39247_22 ?_
  rw [show (((nI cp) - 0) : Int32) = (nI cp) from (by simp)]
  refine lv_iload_n F.x F.b dJ7_copyOfRangeByte_39247_23 rfl (lv_at hl 1 rfl) ?_
  refine va_mmin F.x F.b (F.ml.trans hl.1.symm) F.o (F.t _ (List.mem_of_getElem? (i := 833) (by decide +kernel)) rfl _) (F.t _ (List.mem_of_getElem? (i := 344) (by decide +kernel)) rfl _) (F.t _ (List.mem_of_getElem? (i := 34) (by decide +kernel)) rfl _) (F.t _ (List.mem_of_getElem? (i := 345) (by decide +kernel)) rfl _) (by decide) (Nat.le_of_ble_eq_true rfl) (Nat.le_of_ble_eq_true rfl) (by show _ ≤ 34; omega) dJ7_copyOfRangeByte_39247_24 ?_
  rw [show (if ((nI n) : Int32) < (nI cp) then (nI n) else (nI cp) : Int32) = (nI n) from (if_pos (nI_lt (a := n) (b := cp) hlt (by omega)))]
  refine va_copyi F.x F.b (F.ml.trans hl.1.symm) F.o (F.t _ (List.mem_of_getElem? (i := 834) (by decide +kernel)) rfl _) (F.t _ (List.mem_of_getElem? (i := 836) (by decide +kernel)) rfl _) (F.t _ (List.mem_of_getElem? (i := 835) (by decide +kernel)) rfl _) (F.t _ (List.mem_of_getElem? (i := 36) (by decide +kernel)) rfl _) F.K w.1 w.2.1 w.2.2 0 1 3 3 rfl rfl rfl rfl rfl (by decide) (by decide) (nI_pos (by omega)) (by rw [sb_cl0, nI_clamp (by omega)]; omega) (by rw [sb_cl0, nI_clamp (by omega)]; omega) (cp_fit (by omega) hf) (Nat.le_of_ble_eq_true rfl) (by decide +kernel) dJ7_copyOfRangeByte_39247_27 (fun H locs h1 h2 h3 => ?_)
  have w : Wd G A s.heap (fl [[(va, .inl (G.2.1 3, cp, .inl f))], [(z1, .inl (G.2.1 3, n, .inl (va_cpy f (fun _ => 0) (Int32.toNatClampNeg 0) (Int32.toNatClampNeg 0) (Int32.toNatClampNeg (nI n)))))]]) H locs := ⟨h1, h2, h3⟩
  refine lv_aload F.x F.b dJ7_copyOfRangeByte_39247_30 (lv_at hl 0 rfl) ?_
  exact eRm F w (n := "") (Or.inr hr) hlocks ⟨_, rfl, fun i hi => by rw [sb_cl0, nI_clamp (by omega)]; exact sb_cpy0 hi⟩ (Nat.le_of_ble_eq_true rfl) (by omega) dJ7_copyOfRangeByte_39247_32
set_option maxRecDepth 100000 in
set_option maxHeartbeats 4000000 in
theorem t_J7_copyOfRange_39247 {G : cG} (g : GOK G) {va cp n : Nat} {f : Nat → Int32} (hCB : CBC G) (hle : n ≤ cp) (hc35 : cp < 35) (hf : ∀ i, i < n → ∃ ch, ch < 128 ∧ f i = nI ch) : CRm G yJ7_copyOfRange_39247 cJ7_copyOfRange_39247 3 (.array .byte) 2 84 1 34 [.ref va, .int 0, .int (nI n)] (fl [[(va, .inl (G.2.1 3, cp, .inl f))]]) (fun a9 w' => ∃ f', w' = fl [[(va, .inl (G.2.1 3, cp, .inl f))], [(a9, .inl (G.2.1 3, n, .inl f'))]] ∧ ∀ i, i < n → f' i = f i) := by
  refine CRm.of g (by decide) rfl (Nat.le_of_ble_eq_true rfl) ?_
  intro p l e s m below meth c A ls F hr hlocks w hl
  generalize ([.ref va, .int 0, .int (nI n)] : List Value).toArray = args
  have hl : lv_has ls 3 [(0, .ref va), (1, .int 0), (2, .int (nI n))] := hl
  have w : Wd G A s.heap (fl [[(va, .inl (G.2.1 3, cp, .inl f))]]) _ _ := w
  refine lv_iload_n F.x F.b dJ7_copyOfRange_39247_0 rfl (lv_at hl 1 rfl) ?_
  refine lv_if_ne (tgt := 10) F.x F.b dJ7_copyOfRange_39247_1 (by decide) (fun c9 => absurd (by decide) c9) (fun _ => ?_)
  refine lv_iload_n F.x F.b dJ7_copyOfRange_39247_4 rfl (lv_at hl 2 rfl) ?_
  refine lv_aload_n F.x F.b dJ7_copyOfRange_39247_5 rfl (lv_at hl 0 rfl) ?_
  refine rl F w 0 3 rfl rfl (v := (nI cp)) rfl dJ7_copyOfRange_39247_6 ?_
  by_cases hne : n = cp
  · refine lv_icmp_eq (tgt := 17) F.x F.b dJ7_copyOfRange_39247_7 (by decide) (fun _ => ?_) (fun c9 => absurd (show nI n = nI cp by rw [hne]) c9)
    refine lv_aload_n F.x F.b dJ7_copyOfRange_39247_17 rfl (lv_at hl 0 rfl) ?_
    refine va_clone F.x F.b (F.ml.trans hl.1.symm) F.o (F.t _ (List.mem_of_getElem? (i := 826) (by decide +kernel)) rfl _) (F.t _ (List.mem_of_getElem? (i := 827) (by decide +kernel)) rfl _) (F.t _ (List.mem_of_getElem? (i := 828) (by decide +kernel)) rfl _) (F.t _ (List.mem_of_getElem? (i := 829) (by decide +kernel)) rfl _) (F.t _ (List.mem_of_getElem? (i := 830) (by decide +kernel)) rfl _) (hCB s s.heap F.2.2.2.2.2.1.2.2) F.K w.1 w.2.1 w.2.2 F.fA 0 3 rfl rfl (va_nm_byte (F.K.2 3 _ rfl).2) (cl_fit (fun i hi => hf i (by omega))) (Nat.le_of_ble_eq_true rfl) (Nat.le_of_ble_eq_true rfl) (Nat.le_of_ble_eq_true rfl) (by show 0 + cp ≤ 34; omega) dJ7_copyOfRange_39247_18 (fun a9 H hK hP hD hS => ?_)
    have w : Wd G A s.heap (fl [[(va, .inl (G.2.1 3, cp, .inl f))], [(a9, .inl (G.2.1 3, cp, .inl f))]]) H _ := ⟨hP, hD, hS⟩
    refine va_castA F.x F.b F.o (F.t _ (List.mem_of_getElem? (i := 832) (by decide +kernel)) rfl _) w.1 1 rfl (va_nm_byte (F.K.2 3 _ rfl).2) dJ7_copyOfRange_39247_21 ?_
    exact eRm F w (n := "") (Or.inr hr) hlocks ⟨f, by rw [hne], fun _ _ => rfl⟩ (Nat.le_of_ble_eq_true rfl) (by omega) dJ7_copyOfRange_39247_24
  · refine lv_icmp_eq (tgt := 17) F.x F.b dJ7_copyOfRange_39247_7 (by decide) (fun c9 => absurd c9 (fun e => hne ((nI_eq (by omega) (by omega)).mp e))) (fun _ => ?_)
    refine lv_aload_n F.x F.b dJ7_copyOfRange_39247_10 rfl (lv_at hl 0 rfl) ?_
    refine lv_iload_n F.x F.b dJ7_copyOfRange_39247_11 rfl (lv_at hl 1 rfl) ?_
    refine lv_iload_n F.x F.b dJ7_copyOfRange_39247_12 rfl (lv_at hl 2 rfl) ?_
    refine kSBr F w (LC := [[(va, .inl (G.2.1 3, cp, .inl f))]]) (LR := []) (As := [.ref va, .int 0, .int (nI n)]) (rest := []) (t_J7_copyOfRangeByte_39247 F.1 (va := va) (by omega) hc35 hf) m_J7_copyOfRangeByte_39247 v_J7_copyOfRangeByte_39247 (List.mem_of_getElem? (i := 966) (by decide +kernel)) 1 [0] rfl rfl rfl ⟨Nat.le_of_ble_eq_true rfl, Nat.le_of_ble_eq_true rfl⟩ rfl hl.1 rfl (Nat.le_of_ble_eq_true rfl) dJ7_copyOfRange_39247_13 ⟨Nat.le_of_ble_eq_true rfl, Nat.le_of_ble_eq_true rfl⟩ (fun a9 w1 H locs h9 w => ?_)
    obtain ⟨f', rfl, hk⟩ := h9
    have w : Wd G A s.heap (fl [[(va, .inl (G.2.1 3, cp, .inl f))], [(a9, .inl (G.2.1 3, n, .inl f'))]]) _ _ := w
    exact eRm F w (n := "") (Or.inr hr) hlocks ⟨_, rfl, hk⟩ (Nat.le_of_ble_eq_true rfl) (Nat.le_of_ble_eq_true rfl) dJ7_copyOfRange_39247_16
set_option maxRecDepth 100000 in
set_option maxHeartbeats 4000000 in
theorem t_J0_init_db425 {G : cG} (g : GOK G) {ks kv : Nat → Nat} {so : Nat} {o : Nat → Nat} {va cp n : Nat} {mb : Int32} {f : Nat → Int32} (hSG : SG G ks kv) (hCB : CBC G) (hle : n ≤ cp) (hc35 : cp < 35) (hf : ∀ i, i < n → ∃ ch, ch < 128 ∧ f i = nI ch) : CN G yJ0_init_db425 cJ0_init_db425 5 3 106 1 34 [.ref so, .ref (o 0), .null] (fl [[(so, .inr (0, [.null, .int 0, .int 0, .int 0]))], wSb G.2.1 o (va, cp, n, mb, f)]) (fun w' => ∃ sv f', w' = fl [wSt G.2.1 so sv n f', wSb G.2.1 o (va, cp, n, mb, f)] ∧ ∀ i, i < n → f' i = f i) := by
  refine CN.of g (by decide) rfl (Nat.le_of_ble_eq_true rfl) ?_
  intro p l e s m below meth c A ls hnm F hr hlocks w hl
  generalize ([.ref so, .ref (o 0), .null] : List Value).toArray = args
  have hl : lv_has ls 5 [(0, .ref so), (1, .ref (o 0)), (2, .null)] := hl
  have w : Wd G A s.heap (fl [[(so, .inr (0, [.null, .int 0, .int 0, .int 0]))], wSb G.2.1 o (va, cp, n, mb, f)]) _ _ := w
  have hin : meth.name = "<init>" := hnm
  have w : Wd G A s.heap (fl [[(so, .inr (0, [.null, .int 0, .int 0, .int 0]))], [((o 0), .inr (1, [.ref va, .int 0, .int mb, .int (nI n)]))], [(va, .inl (G.2.1 3, cp, .inl f))]]) _ _ := w
  refine lv_aload_n F.x F.b dJ0_init_db425_0 rfl (lv_at hl 0 rfl) ?_
  refine roI F q948 (List.mem_of_getElem? (i := 51) (by decide +kernel)) (List.mem_of_getElem? (i := 52) (by decide +kernel)) (by decide +kernel) hl.1 ⟨Nat.le_of_ble_eq_true rfl, Nat.le_of_ble_eq_true rfl⟩ dJ0_init_db425_1 ?_
  refine lv_aload_n F.x F.b dJ0_init_db425_4 rfl (lv_at hl 1 rfl) ?_
  refine kUr F w (LC := [[((o 0), .inr (1, [.ref va, .int 0, .int mb, .int (nI n)]))], [(va, .inl (G.2.1 3, cp, .inl f))]]) (LR := [[(so, .inr (0, [.null, .int 0, .int 0, .int 0]))]]) (As := []) (rest := []) (t_J5_getValue_6d5f1 F.1 (o := o) (va := va) (cp := cp) (n := n) (mb := mb) (f := f)) m_J5_getValue_6d5f1 (List.mem_of_getElem? (i := 950) (by decide +kernel)) (List.mem_of_getElem? (i := 949) (by decide +kernel)) (List.mem_of_getElem? (i := 951) (by decide +kernel)) (ci := 1) (q0 := 1) rfl rfl (F.t _ (List.mem_of_getElem? (i := 952) (by decide +kernel)) rfl args) 3 [1, 2, 0] rfl rfl rfl ⟨Nat.le_of_ble_eq_true rfl, Nat.le_of_ble_eq_true rfl⟩ rfl hl.1 rfl (Nat.le_of_ble_eq_true rfl) dJ0_init_db425_5 ⟨Nat.le_of_ble_eq_true rfl, Nat.le_of_ble_eq_true rfl⟩ (fun a9 w1 H locs h9 w => ?_)
  obtain ⟨rfl, rfl⟩ := h9
  have w := w.jn (L1 := [[((o 0), .inr (1, [.ref va, .int 0, .int mb, .int (nI n)]))], [(va, .inl (G.2.1 3, cp, .inl f))]]) (L' := [[(so, .inr (0, [.null, .int 0, .int 0, .int 0]))], [((o 0), .inr (1, [.ref va, .int 0, .int mb, .int (nI n)]))], [(va, .inl (G.2.1 3, cp, .inl f))]]) rfl 3 [2, 0, 1] rfl rfl rfl
  refine lv_astore_n (lv' := [(3, .ref va), (0, .ref so), (1, .ref (o 0)), (2, .null)]) F.x F.b dJ0_init_db425_8 rfl hl (by decide) rfl (fun ls hl => ?_)
  refine lv_aload_n F.x F.b dJ0_init_db425_9 rfl (lv_at hl 2 rfl) ?_
  refine kUoi F w (LC := [[((o 0), .inr (1, [.ref va, .int 0, .int mb, .int (nI n)]))], [(va, .inl (G.2.1 3, cp, .inl f))]]) (LR := [[(so, .inr (0, [.null, .int 0, .int 0, .int 0]))]]) (As := []) (rest := []) (t_J4_length_8abf5 F.1 (o := o) (va := va) (cp := cp) (n := n) (mb := mb) (f := f)) m_J4_length_8abf5 m_J5_length_8abf5 (List.mem_of_getElem? (i := 958) (by decide +kernel)) (List.mem_of_getElem? (i := 955) (by decide +kernel)) (List.mem_of_getElem? (i := 954) (by decide +kernel)) (List.mem_of_getElem? (i := 956) (by decide +kernel)) (ci := 1) (q0 := 1) rfl rfl (F.t _ (List.mem_of_getElem? (i := 957) (by decide +kernel)) rfl args) 3 [1, 2, 0] rfl rfl rfl ⟨Nat.le_of_ble_eq_true rfl, Nat.le_of_ble_eq_true rfl⟩ rfl hl.1 rfl (Nat.le_of_ble_eq_true rfl) dJ0_init_db425_10 ⟨Nat.le_of_ble_eq_true rfl, Nat.le_of_ble_eq_true rfl⟩ (fun H locs w => ?_)
  have w := w.jn (L1 := [[((o 0), .inr (1, [.ref va, .int 0, .int mb, .int (nI n)]))], [(va, .inl (G.2.1 3, cp, .inl f))]]) (L' := [[(so, .inr (0, [.null, .int 0, .int 0, .int 0]))], [((o 0), .inr (1, [.ref va, .int 0, .int mb, .int (nI n)]))], [(va, .inl (G.2.1 3, cp, .inl f))]]) rfl 3 [2, 0, 1] rfl rfl rfl
  refine lv_istore (lv' := [(4, .int (nI n)), (3, .ref va), (0, .ref so), (1, .ref (o 0)), (2, .null)]) F.x F.b dJ0_init_db425_13 hl (by decide) rfl (fun ls hl => ?_)
  refine lv_aload_n F.x F.b dJ0_init_db425_15 rfl (lv_at hl 3 rfl) ?_
  refine kUi F w (LC := [[((o 0), .inr (1, [.ref va, .int 0, .int mb, .int (nI n)]))], [(va, .inl (G.2.1 3, cp, .inl f))]]) (LR := [[(so, .inr (0, [.null, .int 0, .int 0, .int 0]))]]) (As := []) (rest := []) (t_J5_isLatin1_aae02 F.1 (o := o) (va := va) (cp := cp) (n := n) (mb := mb) (f := f) hSG) m_J5_isLatin1_aae02 (List.mem_of_getElem? (i := 838) (by decide +kernel)) (List.mem_of_getElem? (i := 962) (by decide +kernel)) (List.mem_of_getElem? (i := 839) (by decide +kernel)) (ci := 1) (q0 := 1) rfl rfl (F.t _ (List.mem_of_getElem? (i := 840) (by decide +kernel)) rfl args) 3 [1, 2, 0] rfl rfl rfl ⟨Nat.le_of_ble_eq_true rfl, Nat.le_of_ble_eq_true rfl⟩ rfl hl.1 rfl (Nat.le_of_ble_eq_true rfl) dJ0_init_db425_16 ⟨Nat.le_of_ble_eq_true rfl, Nat.le_of_ble_eq_true rfl⟩ (fun H locs w => ?_)
  have w := w.jn (L1 := [[((o 0), .inr (1, [.ref va, .int 0, .int mb, .int (nI n)]))], [(va, .inl (G.2.1 3, cp, .inl f))]]) (L' := [[(so, .inr (0, [.null, .int 0, .int 0, .int 0]))], [((o 0), .inr (1, [.ref va, .int 0, .int mb, .int (nI n)]))], [(va, .inl (G.2.1 3, cp, .inl f))]]) rfl 3 [2, 0, 1] rfl rfl rfl
  refine lv_if_eq (tgt := 41) F.x F.b dJ0_init_db425_19 (by decide) (fun c9 => absurd c9 (by decide)) (fun _ => ?_)
  refine lv_aload_n F.x F.b dJ0_init_db425_22 rfl (lv_at hl 2 rfl) ?_
  refine lv_iconst (v := 0) F.x F.b dJ0_init_db425_23 (by decide) ?_
  refine rpF F w (ws' := fl [[(so, .inr (0, [.null, .int 0, .int 0, .int 0]))], [((o 0), .inr (1, [.ref va, .int 0, .int mb, .int (nI n)]))], [(va, .inl (G.2.1 3, cp, .inl f))]]) clS 0 rfl 1 (by decide) q994 rfl rfl hin rfl rfl rfl (Nat.le_of_ble_eq_true rfl) rfl dJ0_init_db425_24 (fun H locs w => ?_)
  refine lv_aload_n F.x F.b dJ0_init_db425_27 rfl (lv_at hl 2 rfl) ?_
  refine lv_aload_n F.x F.b dJ0_init_db425_28 rfl (lv_at hl 1 rfl) ?_
  refine lv_iconst (v := 0) F.x F.b dJ0_init_db425_29 (by decide) ?_
  refine lv_iload F.x F.b dJ0_init_db425_30 (lv_at hl 0 rfl) ?_
  refine kSBr F w (LC := [[(va, .inl (G.2.1 3, cp, .inl f))]]) (LR := [[(so, .inr (0, [.null, .int 0, .int 0, .int 0]))], [((o 0), .inr (1, [.ref va, .int 0, .int mb, .int (nI n)]))]]) (As := [.ref va, .int 0, .int (nI n)]) (rest := [.ref so]) (t_J7_copyOfRange_39247 F.1 (va := va) hCB hle hc35 hf) m_J7_copyOfRange_39247 v_J7_copyOfRange_39247 (List.mem_of_getElem? (i := 963) (by decide +kernel)) 3 [2, 0, 1] rfl rfl rfl ⟨Nat.le_of_ble_eq_true rfl, Nat.le_of_ble_eq_true rfl⟩ rfl hl.1 rfl (Nat.le_of_ble_eq_true rfl) dJ0_init_db425_32 ⟨Nat.le_of_ble_eq_true rfl, Nat.le_of_ble_eq_true rfl⟩ (fun a9 w1 H locs h9 w => ?_)
  obtain ⟨f', rfl, hk⟩ := h9
  have w := w.jn (L1 := [[(va, .inl (G.2.1 3, cp, .inl f))], [(a9, .inl (G.2.1 3, n, .inl f'))]]) (L' := [[(so, .inr (0, [.null, .int 0, .int 0, .int 0]))], [((o 0), .inr (1, [.ref va, .int 0, .int mb, .int (nI n)]))], [(va, .inl (G.2.1 3, cp, .inl f))], [(a9, .inl (G.2.1 3, n, .inl f'))]]) rfl 4 [2, 3, 0, 1] rfl rfl rfl
  refine rpF F w (ws' := fl [[(so, .inr (0, [.ref a9, .int 0, .int 0, .int 0]))], [((o 0), .inr (1, [.ref va, .int 0, .int mb, .int (nI n)]))], [(va, .inl (G.2.1 3, cp, .inl f))], [(a9, .inl (G.2.1 3, n, .inl f'))]]) clS 0 rfl 0 (by decide) q993 rfl rfl hin rfl rfl rfl (Nat.le_of_ble_eq_true rfl) rfl dJ0_init_db425_35 (fun H locs w => ?_)
  refine lv_goto (tgt := 97) F.x F.b dJ0_init_db425_38 (by decide) ?_
  have w := w.re (L' := [[(so, .inr (0, [.ref a9, .int 0, .int 0, .int 0]))], [(a9, .inl (G.2.1 3, n, .inl f'))], [((o 0), .inr (1, [.ref va, .int 0, .int mb, .int (nI n)]))], [(va, .inl (G.2.1 3, cp, .inl f))]]) 4 [0, 3, 1, 2] rfl rfl rfl
  exact evN F w hr hlocks ⟨a9, f', rfl, hk⟩ (Nat.le_of_ble_eq_true rfl) (Nat.le_of_ble_eq_true rfl) dJ0_init_db425_97
set_option maxRecDepth 100000 in
set_option maxHeartbeats 4000000 in
theorem t_J0_init_81219 {G : cG} (g : GOK G) {ks kv : Nat → Nat} {so : Nat} {o : Nat → Nat} {va cp n : Nat} {mb : Int32} {f : Nat → Int32} (hSG : SG G ks kv) (hCB : CBC G) (hle : n ≤ cp) (hc35 : cp < 35) (hf : ∀ i, i < n → ∃ ch, ch < 128 ∧ f i = nI ch) : CN G yJ0_init_81219 cJ0_init_81219 2 4 130 1 34 [.ref so, .ref (o 0)] (fl [[(so, .inr (0, [.null, .int 0, .int 0, .int 0]))], wSb G.2.1 o (va, cp, n, mb, f)]) (fun w' => ∃ sv f', w' = fl [wSt G.2.1 so sv n f', wSb G.2.1 o (va, cp, n, mb, f)] ∧ ∀ i, i < n → f' i = f i) := by
  refine CN.of g (by decide) rfl (Nat.le_of_ble_eq_true rfl) ?_
  intro p l e s m below meth c A ls hnm F hr hlocks w hl
  generalize ([.ref so, .ref (o 0)] : List Value).toArray = args
  have hl : lv_has ls 2 [(0, .ref so), (1, .ref (o 0))] := hl
  have w : Wd G A s.heap (fl [[(so, .inr (0, [.null, .int 0, .int 0, .int 0]))], wSb G.2.1 o (va, cp, n, mb, f)]) _ _ := w
  have w : Wd G A s.heap (fl [[(so, .inr (0, [.null, .int 0, .int 0, .int 0]))], [((o 0), .inr (1, [.ref va, .int 0, .int mb, .int (nI n)]))], [(va, .inl (G.2.1 3, cp, .inl f))]]) _ _ := w
  refine lv_aload_n F.x F.b dJ0_init_81219_0 rfl (lv_at hl 0 rfl) ?_
  refine lv_aload_n F.x F.b dJ0_init_81219_1 rfl (lv_at hl 1 rfl) ?_
  refine lv_null F.x F.b dJ0_init_81219_2 ?_
  refine kCI F w (LC := [[(so, .inr (0, [.null, .int 0, .int 0, .int 0]))], [((o 0), .inr (1, [.ref va, .int 0, .int mb, .int (nI n)]))], [(va, .inl (G.2.1 3, cp, .inl f))]]) (LR := []) (As := [.ref (o 0), .null]) (rest := []) (t_J0_init_db425 F.1 (so := so) (o := o) (va := va) (cp := cp) (n := n) (mb := mb) (f := f) hSG hCB hle hc35 hf) m_J0_init_db425 v_J0_init_db425 rfl q945 3 [0, 1, 2] rfl rfl rfl ⟨Nat.le_of_ble_eq_true rfl, Nat.le_of_ble_eq_true rfl⟩ rfl hl.1 rfl (Nat.le_of_ble_eq_true rfl) dJ0_init_81219_3 ⟨Nat.le_of_ble_eq_true rfl, Nat.le_of_ble_eq_true rfl⟩ (fun w1 H locs h9 w => ?_)
  obtain ⟨sv, f', rfl, hk⟩ := h9
  have w : Wd G A s.heap (fl [[(so, .inr (0, [.ref sv, .int 0, .int 0, .int 0]))], [(sv, .inl (G.2.1 3, n, .inl f'))], [((o 0), .inr (1, [.ref va, .int 0, .int mb, .int (nI n)]))], [(va, .inl (G.2.1 3, cp, .inl f))]]) _ _ := w
  exact evN F w hr hlocks ⟨sv, f', rfl, hk⟩ (Nat.le_of_ble_eq_true rfl) (Nat.le_of_ble_eq_true rfl) dJ0_init_81219_6
set_option maxRecDepth 100000 in
set_option maxHeartbeats 4000000 in
theorem t_J4_toString_0e30d {G : cG} (g : GOK G) {ks kv : Nat → Nat} {o : Nat → Nat} {va cp n : Nat} {mb : Int32} {f : Nat → Int32} (hSG : SG G ks kv) (hCB : CBC G) (hle : n ≤ cp) (hc35 : cp < 35) (hf : ∀ i, i < n → ∃ ch, ch < 128 ∧ f i = nI ch) : CRm G yJ4_toString_0e30d cJ4_toString_0e30d 1 (.object "java/lang/String") 5 151 2 38 [.ref (o 0)] (fl [wSb G.2.1 o (va, cp, n, mb, f)]) (fun a9 w' => ∃ sv f', w' = fl [wSb G.2.1 o (va, cp, n, mb, f), wSt G.2.1 a9 sv n f'] ∧ ∀ i, i < n → f' i = f i) := by
  refine CRm.of g (by decide) rfl (Nat.le_of_ble_eq_true rfl) ?_
  intro p l e s m below meth c A ls F hr hlocks w hl
  generalize ([.ref (o 0)] : List Value).toArray = args
  have hl : lv_has ls 1 [(0, .ref (o 0))] := hl
  have w : Wd G A s.heap (fl [wSb G.2.1 o (va, cp, n, mb, f)]) _ _ := w
  have w : Wd G A s.heap (fl [[((o 0), .inr (1, [.ref va, .int 0, .int mb, .int (nI n)]))], [(va, .inl (G.2.1 3, cp, .inl f))]]) _ _ := w
  refine rn F w clS q941 (List.mem_of_getElem? (i := 438) (by decide +kernel)) (List.mem_of_getElem? (i := 24) (by decide +kernel)) [.null, .int 0, .int 0, .int 0] (fun j hj => by rcases (show j = 0 ∨ j = 1 ∨ j = 2 ∨ j = 3 by omega) with rfl | rfl | rfl | rfl <;> rfl) (Nat.le_of_ble_eq_true rfl) (Nat.le_of_ble_eq_true rfl) dJ4_toString_0e30d_0 (fun z1 H w => ?_)
  have w : Wd G A s.heap (fl [[((o 0), .inr (1, [.ref va, .int 0, .int mb, .int (nI n)]))], [(va, .inl (G.2.1 3, cp, .inl f))], [(z1, .inr (0, [.null, .int 0, .int 0, .int 0]))]]) _ _ := w
  refine lv_dup F.x F.b dJ4_toString_0e30d_3 rfl ?_
  refine lv_aload_n F.x F.b dJ4_toString_0e30d_4 rfl (lv_at hl 0 rfl) ?_
  refine kCI F w (LC := [[(z1, .inr (0, [.null, .int 0, .int 0, .int 0]))], [((o 0), .inr (1, [.ref va, .int 0, .int mb, .int (nI n)]))], [(va, .inl (G.2.1 3, cp, .inl f))]]) (LR := []) (As := [.ref (o 0)]) (rest := [.ref z1]) (t_J0_init_81219 F.1 (so := z1) (o := o) (va := va) (cp := cp) (n := n) (mb := mb) (f := f) hSG hCB hle hc35 hf) m_J0_init_81219 v_J0_init_81219 rfl q942 3 [2, 0, 1] rfl rfl rfl ⟨Nat.le_of_ble_eq_true rfl, Nat.le_of_ble_eq_true rfl⟩ rfl hl.1 rfl (Nat.le_of_ble_eq_true rfl) dJ4_toString_0e30d_5 ⟨Nat.le_of_ble_eq_true rfl, Nat.le_of_ble_eq_true rfl⟩ (fun w1 H locs h9 w => ?_)
  obtain ⟨sv, f', rfl, hk⟩ := h9
  have w : Wd G A s.heap (fl [[(z1, .inr (0, [.ref sv, .int 0, .int 0, .int 0]))], [(sv, .inl (G.2.1 3, n, .inl f'))], [((o 0), .inr (1, [.ref va, .int 0, .int mb, .int (nI n)]))], [(va, .inl (G.2.1 3, cp, .inl f))]]) _ _ := w
  have w := w.re (L' := [[((o 0), .inr (1, [.ref va, .int 0, .int mb, .int (nI n)]))], [(va, .inl (G.2.1 3, cp, .inl f))], [(z1, .inr (0, [.ref sv, .int 0, .int 0, .int 0]))], [(sv, .inl (G.2.1 3, n, .inl f'))]]) 4 [2, 3, 0, 1] rfl rfl rfl
  exact eRm F w (Or.inl hr) hlocks ⟨sv, f', rfl, hk⟩ (Nat.le_of_ble_eq_true rfl) (Nat.le_of_ble_eq_true rfl) dJ4_toString_0e30d_8

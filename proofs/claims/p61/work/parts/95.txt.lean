/-! printed by wip/p61/tools/gen95.py: the texts of the builder -/
theorem q232 : Cond.methodLink RJ4 1 yJ5_init_d00df ∈ lw_tbl := List.mem_of_getElem? (i := 232) (by decide +kernel)
theorem q235 : Cond.methodLink RJ5 3 Lib.objectInit ∈ lw_tbl := List.mem_of_getElem? (i := 235) (by decide +kernel)
theorem q247 : Cond.fieldLink RJ5 73 "java/lang/AbstractStringBuilder" "maybeLatin1" "Z" ∈ lw_tbl := List.mem_of_getElem? (i := 247) (by decide +kernel)
theorem m_J5_ensureCapacityInternal_d00df : YM yJ5_ensureCapacityInternal_d00df cJ5_ensureCapacityInternal_d00df 3 (none) 1 := ⟨⟨List.mem_of_getElem? (i := 809) (by decide +kernel), by decide +kernel⟩, List.mem_of_getElem? (i := 22) (by decide +kernel), ⟨by decide, by decide⟩, by decide +kernel⟩
theorem m_J5_isLatin1_aae02 : YM yJ5_isLatin1_aae02 cJ5_isLatin1_aae02 1 (some (.boolean)) 0 := ⟨⟨List.mem_of_getElem? (i := 841) (by decide +kernel), by decide +kernel⟩, List.mem_of_getElem? (i := 22) (by decide +kernel), ⟨by decide, by decide⟩, by decide +kernel⟩
theorem m_J1_canEncode_fc78d : YM yJ1_canEncode_fc78d cJ1_canEncode_fc78d 1 (some (.boolean)) 1 := ⟨⟨List.mem_of_getElem? (i := 1244) (by decide +kernel), by decide +kernel⟩, List.mem_of_getElem? (i := 38) (by decide +kernel), ⟨by decide, by decide⟩, by decide +kernel⟩
theorem v_J1_canEncode_fc78d : YS yJ1_canEncode_fc78d := (List.mem_of_getElem? (i := 1243) (by decide +kernel))
theorem m_J5_append_3fe6f : YM yJ5_append_3fe6f cJ5_append_3fe6f 2 (some (.object "java/lang/AbstractStringBuilder")) 1 := ⟨⟨List.mem_of_getElem? (i := 1241) (by decide +kernel), by decide +kernel⟩, List.mem_of_getElem? (i := 22) (by decide +kernel), ⟨by decide, by decide⟩, by decide +kernel⟩
theorem m_J6_stringSize_0f7a4 : YM yJ6_stringSize_0f7a4 cJ6_stringSize_0f7a4 4 (some (.int)) 1 := ⟨⟨List.mem_of_getElem? (i := 920) (by decide +kernel), by decide +kernel⟩, List.mem_of_getElem? (i := 40) (by decide +kernel), ⟨by decide, by decide⟩, by decide +kernel⟩
theorem v_J6_stringSize_0f7a4 : YS yJ6_stringSize_0f7a4 := (List.mem_of_getElem? (i := 919) (by decide +kernel))
theorem m_J6_getChars_ba4f3 : YM yJ6_getChars_ba4f3 cJ6_getChars_ba4f3 7 (some (.int)) 3 := ⟨⟨List.mem_of_getElem? (i := 923) (by decide +kernel), by decide +kernel⟩, List.mem_of_getElem? (i := 40) (by decide +kernel), ⟨by decide, by decide⟩, by decide +kernel⟩
theorem v_J6_getChars_ba4f3 : YS yJ6_getChars_ba4f3 := (List.mem_of_getElem? (i := 922) (by decide +kernel))
theorem m_J5_append_c97b9 : YM yJ5_append_c97b9 cJ5_append_c97b9 4 (some (.object "java/lang/AbstractStringBuilder")) 1 := ⟨⟨List.mem_of_getElem? (i := 917) (by decide +kernel), by decide +kernel⟩, List.mem_of_getElem? (i := 22) (by decide +kernel), ⟨by decide, by decide⟩, by decide +kernel⟩
theorem m_J5_setLength_d00df : YM yJ5_setLength_d00df cJ5_setLength_d00df 2 (none) 1 := ⟨⟨List.mem_of_getElem? (i := 1189) (by decide +kernel), by decide +kernel⟩, List.mem_of_getElem? (i := 22) (by decide +kernel), ⟨by decide, by decide⟩, by decide +kernel⟩
theorem m_J5_length_8abf5 : YM yJ5_length_8abf5 cJ5_length_8abf5 1 (some (.int)) 0 := ⟨⟨List.mem_of_getElem? (i := 961) (by decide +kernel), by decide +kernel⟩, List.mem_of_getElem? (i := 22) (by decide +kernel), ⟨by decide, by decide⟩, by decide +kernel⟩
theorem m_J5_charAt_5068e : YM yJ5_charAt_5068e cJ5_charAt_5068e 5 (some (.char)) 1 := ⟨⟨List.mem_of_getElem? (i := 1264) (by decide +kernel), by decide +kernel⟩, List.mem_of_getElem? (i := 22) (by decide +kernel), ⟨by decide, by decide⟩, by decide +kernel⟩
theorem m_J5_init_d00df : YM yJ5_init_d00df cJ5_init_d00df 2 (none) 1 := ⟨⟨List.mem_of_getElem? (i := 234) (by decide +kernel), by decide +kernel⟩, List.mem_of_getElem? (i := 22) (by decide +kernel), ⟨by decide, by decide⟩, by decide +kernel⟩
theorem v_J5_init_d00df : Cond.instanceMethod yJ5_init_d00df ∈ lw_tbl := (List.mem_of_getElem? (i := 233) (by decide +kernel))
/-- the digits of a number below a hundred -/
def dgN (v : Nat) : List Nat := if v < 10 then [48 + v % 10] else [48 + v / 10, 48 + v % 10]
/-- the builder holds the text L -/
def Tx (ou : oB) (L : List Nat) : Prop := (ou.2.1 = 16 ∨ ou.2.1 = 34) ∧ ou.2.2.1 = L.length ∧ L.length ≤ ou.2.1 ∧ ∀ i, i < L.length → ∃ ch, ch < 128 ∧ L[i]? = some ch ∧ ou.2.2.2.2 i = nI ch
theorem dgF : ∀ v < 100, (10 ≤ v → -nI v ≤ -10) ∧ (v < 10 → ¬ -nI v ≤ -10) ∧ ¬ (-nI v ≤ -100) ∧ (-100 < -nI v) ∧ -(-nI v) = nI v ∧ (v < 10 → (-9 : Int32) ≤ -nI v) ∧ (10 ≤ v → ¬ (-9 : Int32) ≤ -nI v) := by decide +kernel
theorem nI_dn (q : Nat) : nI (q + 1) + Int32.ofInt (-1) = nI q := by
  rw [show Int32.ofInt (-1) = -1 from by decide, sb_m1 (by omega)]
  rfl
section TXT
variable {va cp n : Nat} {mb : Int32} {f : Nat → Int32} {L : List Nat}
theorem Tx.fz (h : Tx (va, cp, n, mb, f) L) : ∀ i, i < n → ∃ ch, ch < 128 ∧ f i = nI ch := fun i hi => by
  obtain ⟨c1, c2, -, c3⟩ := h.2.2.2 i (by rw [← h.2.1]; exact hi)
  exact ⟨c1, c2, c3⟩
theorem Tx.c35 (h : Tx (va, cp, n, mb, f) L) : cp < 35 := by rcases h.1 with e | e <;> (have e : cp = _ := e; omega)
theorem Tx.n35 (h : Tx (va, cp, n, mb, f) L) : n < 35 := by
  have h1 := h.c35
  have h2 : n = L.length := h.2.1
  have h3 : L.length ≤ cp := h.2.2.1
  omega
/-- one more letter -/
theorem Tx_app {va' mm : Nat} {mb' : Int32} {f' f2 : Nat → Int32} {ch : Nat} (h : Tx (va, cp, n, mb, f) L) (hm : mm = 16 ∨ mm = 34) (hn : n + 1 ≤ mm) (hk : ∀ i, i < n → f' i = f i) (hch : ch < 128) (h2 : ∀ i, i < n → f2 i = f' i) (h3 : f2 n = nI ch) : Tx (va', mm, n + 1, mb', f2) (L ++ [ch]) := by
  have hl : n = L.length := h.2.1
  refine ⟨hm, ?_, ?_, fun i hi => ?_⟩
  · show n + 1 = _
    rw [List.length_append, hl]
    rfl
  · show _ ≤ mm
    rw [List.length_append, ← hl]
    exact hn
  · rw [List.length_append, ← hl] at hi
    have hi : i < n + 1 := hi
    rcases Nat.lt_or_ge i n with h4 | h4
    · obtain ⟨c1, c2, c3, c4⟩ := h.2.2.2 i (by rw [← hl]; exact h4)
      exact ⟨c1, c2, by rw [List.getElem?_append_left (by omega)]; exact c3, (h2 i h4).trans ((hk i h4).trans c4)⟩
    · obtain rfl : i = n := by omega
      exact ⟨ch, hch, by rw [List.getElem?_append_right (by omega), ← hl, Nat.sub_self]; rfl, h3⟩
theorem Tx_put {va' mm gm gs : Nat} {mb' : Int32} {f' : Nat → Int32} {ch : Nat} (h : Tx (va, cp, n, mb, f) L) (hq : (n + 1 ≤ cp ∧ cp = mm) ∨ (cp = 16 ∧ n = 16 ∧ 1 ≤ gm ∧ 34 ≤ gs ∧ 34 = mm)) (hk : ∀ i, i < n → f' i = f i) (hch : ch < 128) : Tx (va', mm, n + 1, mb', upd f' (Int32.toNatClampNeg (nI n)) (vp_nar .byte (nI ch))) (L ++ [ch]) := by
  have hn := h.n35
  have hm : mm = 16 ∨ mm = 34 := by
    rcases hq with ⟨-, e⟩ | ⟨-, -, -, -, e⟩
    · rw [← e]; exact h.1
    · exact Or.inr e.symm
  refine Tx_app h hm (by rcases hq with e | e <;> omega) hk hch (fun i hi => ?_) ?_
  · rw [nI_clamp (by omega)]
    exact if_neg (by omega)
  · rw [nI_clamp (by omega), (ch_nar ch hch).1]
    exact if_pos rfl
theorem Tx_num1 {va' v : Nat} {mb' : Int32} {f' : Nat → Int32} (h : Tx (va, cp, n, mb, f) L) (hn : n + 2 ≤ cp) (hv : v < 100) (h10 : v < 10) (hk : ∀ i, i < n → f' i = f i) : Tx (va', cp, n + 1, mb', upd f' (Int32.toNatClampNeg (nI n)) (vp_nar .byte (nI (48 + v % 10)))) (L ++ dgN v) := by
  rw [dgN, if_pos h10]
  exact Tx_put (gm := 0) (gs := 0) h (Or.inl ⟨by omega, rfl⟩) hk (by omega)
theorem Tx_num2 {va' v : Nat} {mb' : Int32} {f' : Nat → Int32} (h : Tx (va, cp, n, mb, f) L) (hn : n + 2 ≤ cp) (hv : v < 100) (h10 : 10 ≤ v) (hk : ∀ i, i < n → f' i = f i) : Tx (va', cp, n + 2, mb', upd (upd f' (Int32.toNatClampNeg (nI (n + 1))) (vp_nar .byte (nI (48 + v % 10)))) (Int32.toNatClampNeg (nI n)) (vp_nar .byte (nI (48 + v / 10)))) (L ++ dgN v) := by
  have hc := h.c35
  rw [dgN, if_neg (by omega), show L ++ [48 + v / 10, 48 + v % 10] = (L ++ [48 + v / 10]) ++ [48 + v % 10] from by simp]
  have h1 : Tx (va', cp, n + 1, mb', upd f' (Int32.toNatClampNeg (nI n)) (vp_nar .byte (nI (48 + v / 10)))) (L ++ [48 + v / 10]) := Tx_put (gm := 0) (gs := 0) h (Or.inl ⟨by omega, rfl⟩) hk (by omega)
  rw [nI_clamp (by omega), (ch_nar _ (by omega)).1] at h1 ⊢
  rw [nI_clamp (by omega), (ch_nar _ (by omega)).1]
  refine Tx_app h1 h.1 hn (fun _ _ => rfl) (by omega) (fun i hi => ?_) ?_
  · unfold upd
    by_cases e : i = n
    · rw [if_pos e, if_pos e]
    · rw [if_neg e, if_neg e, if_neg (by omega)]
  · unfold upd
    rw [if_neg (by omega), if_pos rfl]
end TXT
section KSBN
variable {G : cG} {p : Program} {l : Launch} {e : Env} {R : Room} {s : State} {m : MethodId} {args : Array Value} {below : List Frame} {meth : Method} {c : Code} {H : Heap} {locs : List Loc} {cells slots : Nat} {Q : State → Prop} {cc : ByteArray} {nL : Nat} {own : String} {A : Nat → Prop} {L LC LR : List va_W} {pc : Nat} {ls : Array Slot} {rest : List Value} {mc ms : Nat}
/-- invokestatic over cells, no answer -/
theorem kSBn (F : Fx G p s m c cc nL own A) (w : Wd G A s.heap (fl L) H locs) {y : MethodName} {b : ByteArray} {n k idx fr lo : Nat} {As : List Value} {P : va_W → Prop}
    (hc : CN G y b n fr lo mc ms As (fl LC) P) (Y : YM y b n none k) (V : YS y) (hl : Cond.methodLink own idx y ∈ lw_tbl)
    (nB : Nat) (is : List Nat) (hn : L.length = nB) (hp : pmB nB is = true) (hL : is.map (fun i => L[i]?) = (LC ++ LR).map some)
    (hRm : fr + 1 ≤ R.frames ∧ 8 + (n + 11) + lo ≤ R.locals) (hlen : As.length = k) (hls : ls.size = nL) {st0 : List Value} (hst0 : st0 = As.reverse ++ rest) (hrm : (rest.map fun v => v.category).sum ≤ 8) (hdg : decode cc pc = .ok (.invokestatic idx, 3)) (hf : cells + mc ≤ R.cells ∧ slots + ms ≤ R.slots)
    (kk : ∀ (w1 : va_W) (H1 : Heap) (locs1 : List Loc), P w1 → Wd G A s.heap (w1 ++ fl LR) H1 locs1 → W p l e R s m args below meth c H1 locs1 (cells + mc) (slots + ms) Q (F0 m (pc + 3) ls rest)) : W p l e R s m args below meth c H locs cells slots Q (F0 m pc ls st0) := by
  subst hst0
  have w' := w.spl nB is hn hp hL
  exact runV F w' (va_runS (As := As) (rest := rest) (nL := nL) (Ts := []) ⟨F.x, F.b, F.ml, F.o, fun _ h => nomatch h⟩ (hc l H.size) ⟨Y.B F.t (F.t _ hl rfl _) hRm, F.t _ V rfl _⟩ ⟨fun a U g mk q => ⟨q.1, PreB.calling F.1 U g mk a q.2⟩, fun U hU hW => ⟨rfl, F.preF w' hU hW⟩⟩ rfl hlen hls rfl (lv_room hrm) hdg hf) kk
end KSBN
set_option maxRecDepth 100000 in
set_option maxHeartbeats 4000000 in
theorem t_J6_stringSize_0f7a4_1 {G : cG} (g : GOK G) {v : Nat} (hv : v < 100) (h10 : v < 10) : CI G yJ6_stringSize_0f7a4 cJ6_stringSize_0f7a4 4 .int 0 0 [.int (nI v)] [] [] 1 := by
  refine CI.of g (by decide) rfl (Nat.le_of_ble_eq_true rfl) ?_
  intro p l e s m below meth c A ls F hr hlocks w hl
  generalize ([.int (nI v)] : List Value).toArray = args
  have hl : lv_has ls 4 [(0, .int (nI v))] := hl
  have w : Wd G A s.heap ([]) _ _ := w
  refine lv_iconst (v := 1) F.x F.b dJ6_stringSize_0f7a4_0 (by decide) ?_
  refine lv_istore_n (lv' := [(1, .int 1), (0, .int (nI v))]) F.x F.b dJ6_stringSize_0f7a4_1 rfl hl (by decide) rfl (fun ls hl => ?_)
  refine lv_iload_n F.x F.b dJ6_stringSize_0f7a4_2 rfl (lv_at hl 1 rfl) ?_
  refine lv_if_lt (tgt := 11) F.x F.b dJ6_stringSize_0f7a4_3 (by decide) (fun c9 => absurd c9 (Int32.not_lt.mpr (nI_pos' (n := v) (by omega)))) (fun _ => ?_)
  refine lv_iconst (v := 0) F.x F.b dJ6_stringSize_0f7a4_6 (by decide) ?_
  refine lv_istore_n (lv' := [(1, .int 0), (0, .int (nI v))]) F.x F.b dJ6_stringSize_0f7a4_7 rfl hl (by decide) rfl (fun ls hl => ?_)
  refine lv_iload_n F.x F.b dJ6_stringSize_0f7a4_8 rfl (lv_at hl 1 rfl) ?_
  refine lv_ineg F.x F.b dJ6_stringSize_0f7a4_9 ?_
  refine lv_istore_n (lv' := [(0, .int (-(nI v))), (1, .int 0)]) F.x F.b dJ6_stringSize_0f7a4_10 rfl hl (by decide) rfl (fun ls hl => ?_)
  refine lv_bipush (v := (-10)) F.x F.b dJ6_stringSize_0f7a4_11 (by decide) ?_
  refine lv_istore_n (lv' := [(2, .int (-10)), (0, .int (-(nI v))), (1, .int 0)]) F.x F.b dJ6_stringSize_0f7a4_13 rfl hl (by decide) rfl (fun ls hl => ?_)
  refine lv_iconst (v := 1) F.x F.b dJ6_stringSize_0f7a4_14 (by decide) ?_
  refine lv_istore_n (lv' := [(3, .int 1), (2, .int (-10)), (0, .int (-(nI v))), (1, .int 0)]) F.x F.b dJ6_stringSize_0f7a4_15 rfl hl (by decide) rfl (fun ls hl => ?_)
  refine lv_iload_n F.x F.b dJ6_stringSize_0f7a4_16 rfl (lv_at hl 0 rfl) ?_
  refine lv_bipush (v := 10) F.x F.b dJ6_stringSize_0f7a4_17 (by decide) ?_
  refine lv_icmp_ge (tgt := 42) F.x F.b dJ6_stringSize_0f7a4_19 (by decide) (fun c9 => absurd c9 (by decide)) (fun _ => ?_)
  refine lv_iload_n F.x F.b dJ6_stringSize_0f7a4_22 rfl (lv_at hl 2 rfl) ?_
  refine lv_iload_n F.x F.b dJ6_stringSize_0f7a4_23 rfl (lv_at hl 1 rfl) ?_
  refine lv_icmp_le (tgt := 31) F.x F.b dJ6_stringSize_0f7a4_24 (by decide) (fun c9 => absurd c9 ((dgF v hv).2.1 h10)) (fun _ => ?_)
  refine lv_iload_n F.x F.b dJ6_stringSize_0f7a4_27 rfl (lv_at hl 0 rfl) ?_
  refine lv_iload_n F.x F.b dJ6_stringSize_0f7a4_28 rfl (lv_at hl 3 rfl) ?_
  refine lv_iadd F.x F.b dJ6_stringSize_0f7a4_29 ?_
  exact ei F w hr hlocks rfl (by decide) rfl dJ6_stringSize_0f7a4_30
set_option maxRecDepth 100000 in
set_option maxHeartbeats 4000000 in
theorem t_J6_stringSize_0f7a4_2 {G : cG} (g : GOK G) {v : Nat} (hv : v < 100) (h10 : 10 ≤ v) : CI G yJ6_stringSize_0f7a4 cJ6_stringSize_0f7a4 4 .int 0 0 [.int (nI v)] [] [] 2 := by
  refine CI.of g (by decide) rfl (Nat.le_of_ble_eq_true rfl) ?_
  intro p l e s m below meth c A ls F hr hlocks w hl
  generalize ([.int (nI v)] : List Value).toArray = args
  have hl : lv_has ls 4 [(0, .int (nI v))] := hl
  have w : Wd G A s.heap ([]) _ _ := w
  refine lv_iconst (v := 1) F.x F.b dJ6_stringSize_0f7a4_0 (by decide) ?_
  refine lv_istore_n (lv' := [(1, .int 1), (0, .int (nI v))]) F.x F.b dJ6_stringSize_0f7a4_1 rfl hl (by decide) rfl (fun ls hl => ?_)
  refine lv_iload_n F.x F.b dJ6_stringSize_0f7a4_2 rfl (lv_at hl 1 rfl) ?_
  refine lv_if_lt (tgt := 11) F.x F.b dJ6_stringSize_0f7a4_3 (by decide) (fun c9 => absurd c9 (Int32.not_lt.mpr (nI_pos' (n := v) (by omega)))) (fun _ => ?_)
  refine lv_iconst (v := 0) F.x F.b dJ6_stringSize_0f7a4_6 (by decide) ?_
  refine lv_istore_n (lv' := [(1, .int 0), (0, .int (nI v))]) F.x F.b dJ6_stringSize_0f7a4_7 rfl hl (by decide) rfl (fun ls hl => ?_)
  refine lv_iload_n F.x F.b dJ6_stringSize_0f7a4_8 rfl (lv_at hl 1 rfl) ?_
  refine lv_ineg F.x F.b dJ6_stringSize_0f7a4_9 ?_
  refine lv_istore_n (lv' := [(0, .int (-(nI v))), (1, .int 0)]) F.x F.b dJ6_stringSize_0f7a4_10 rfl hl (by decide) rfl (fun ls hl => ?_)
  refine lv_bipush (v := (-10)) F.x F.b dJ6_stringSize_0f7a4_11 (by decide) ?_
  refine lv_istore_n (lv' := [(2, .int (-10)), (0, .int (-(nI v))), (1, .int 0)]) F.x F.b dJ6_stringSize_0f7a4_13 rfl hl (by decide) rfl (fun ls hl => ?_)
  refine lv_iconst (v := 1) F.x F.b dJ6_stringSize_0f7a4_14 (by decide) ?_
  refine lv_istore_n (lv' := [(3, .int 1), (2, .int (-10)), (0, .int (-(nI v))), (1, .int 0)]) F.x F.b dJ6_stringSize_0f7a4_15 rfl hl (by decide) rfl (fun ls hl => ?_)
  refine lv_iload_n F.x F.b dJ6_stringSize_0f7a4_16 rfl (lv_at hl 0 rfl) ?_
  refine lv_bipush (v := 10) F.x F.b dJ6_stringSize_0f7a4_17 (by decide) ?_
  refine lv_icmp_ge (tgt := 42) F.x F.b dJ6_stringSize_0f7a4_19 (by decide) (fun c9 => absurd c9 (by decide)) (fun _ => ?_)
  refine lv_iload_n F.x F.b dJ6_stringSize_0f7a4_22 rfl (lv_at hl 2 rfl) ?_
  refine lv_iload_n F.x F.b dJ6_stringSize_0f7a4_23 rfl (lv_at hl 1 rfl) ?_
  refine lv_icmp_le (tgt := 31) F.x F.b dJ6_stringSize_0f7a4_24 (by decide) (fun _ => ?_) (fun c9 => absurd ((dgF v hv).1 h10) c9)
  refine lv_bipush (v := 10) F.x F.b dJ6_stringSize_0f7a4_31 (by decide) ?_
  refine lv_iload_n F.x F.b dJ6_stringSize_0f7a4_33 rfl (lv_at hl 1 rfl) ?_
  refine lv_imul F.x F.b dJ6_stringSize_0f7a4_34 ?_
  rw [show ((10 * (-10)) : Int32) = (-100) from (by decide)]
  refine lv_istore_n (lv' := [(2, .int (-100)), (3, .int 1), (0, .int (-(nI v))), (1, .int 0)]) F.x F.b dJ6_stringSize_0f7a4_35 rfl hl (by decide) rfl (fun ls hl => ?_)
  refine lv_iinc (v := 2) (lv' := [(3, .int 2), (2, .int (-100)), (0, .int (-(nI v))), (1, .int 0)]) F.x F.b dJ6_stringSize_0f7a4_36 hl (k := 1) rfl (by decide) (by decide) rfl (fun ls hl => ?_)
  refine lv_goto (tgt := 16) F.x F.b dJ6_stringSize_0f7a4_39 (by decide) ?_
  refine lv_iload_n F.x F.b dJ6_stringSize_0f7a4_16 rfl (lv_at hl 0 rfl) ?_
  refine lv_bipush (v := 10) F.x F.b dJ6_stringSize_0f7a4_17 (by decide) ?_
  refine lv_icmp_ge (tgt := 42) F.x F.b dJ6_stringSize_0f7a4_19 (by decide) (fun c9 => absurd c9 (by decide)) (fun _ => ?_)
  refine lv_iload_n F.x F.b dJ6_stringSize_0f7a4_22 rfl (lv_at hl 2 rfl) ?_
  refine lv_iload_n F.x F.b dJ6_stringSize_0f7a4_23 rfl (lv_at hl 1 rfl) ?_
  refine lv_icmp_le (tgt := 31) F.x F.b dJ6_stringSize_0f7a4_24 (by decide) (fun c9 => absurd c9 ((dgF v hv).2.2.1)) (fun _ => ?_)
  refine lv_iload_n F.x F.b dJ6_stringSize_0f7a4_27 rfl (lv_at hl 0 rfl) ?_
  refine lv_iload_n F.x F.b dJ6_stringSize_0f7a4_28 rfl (lv_at hl 3 rfl) ?_
  refine lv_iadd F.x F.b dJ6_stringSize_0f7a4_29 ?_
  exact ei F w hr hlocks rfl (by decide) rfl dJ6_stringSize_0f7a4_30
set_option maxRecDepth 100000 in
set_option maxHeartbeats 4000000 in
theorem t_J6_getChars_ba4f3_1 {G : cG} (g : GOK G) {v q va cp : Nat} {f : Nat → Int32} {d1 d2 : Nat} (hD : DGs G d1 d2) (hv : v < 100) (h10 : v < 10) (hq : q + 1 ≤ cp) (hc35 : cp < 35) : CI G yJ6_getChars_ba4f3 cJ6_getChars_ba4f3 7 .int 0 0 [.int (nI v), .int (nI (q + 1)), .ref va] (fl [[(va, .inl (G.2.1 3, cp, .inl f))]]) (fl [[(va, .inl (G.2.1 3, cp, .inl (upd f (Int32.toNatClampNeg (nI q)) (vp_nar .byte (nI (48 + v % 10))))))]]) (nI q) := by
  refine CI.of g (by decide) rfl (Nat.le_of_ble_eq_true rfl) ?_
  intro p l e s m below meth c A ls F hr hlocks w hl
  generalize ([.int (nI v), .int (nI (q + 1)), .ref va] : List Value).toArray = args
  have hl : lv_has ls 7 [(0, .int (nI v)), (1, .int (nI (q + 1))), (2, .ref va)] := hl
  have w : Wd G A s.heap (fl [[(va, .inl (G.2.1 3, cp, .inl f))]]) _ _ := w
  have w : Wd G A s.heap (fl [[(va, .inl (G.2.1 3, cp, .inl f))]]) _ _ := w
  refine lv_iload_n F.x F.b dJ6_getChars_ba4f3_0 rfl (lv_at hl 1 rfl) ?_
  refine lv_istore (lv' := [(5, .int (nI (q + 1))), (0, .int (nI v)), (1, .int (nI (q + 1))), (2, .ref va)]) F.x F.b dJ6_getChars_ba4f3_1 hl (by decide) rfl (fun ls hl => ?_)
  refine lv_iload_n F.x F.b dJ6_getChars_ba4f3_3 rfl (lv_at hl 1 rfl) ?_
  refine lv_if_ge (tgt := 11) F.x F.b dJ6_getChars_ba4f3_4 (by decide) (fun _ => ?_) (fun c9 => absurd (nI_pos' (n := v) (by omega)) c9)
  refine lv_iconst (v := 0) F.x F.b dJ6_getChars_ba4f3_11 (by decide) ?_
  refine lv_istore (lv' := [(6, .int 0), (5, .int (nI (q + 1))), (0, .int (nI v)), (1, .int (nI (q + 1))), (2, .ref va)]) F.x F.b dJ6_getChars_ba4f3_12 hl (by decide) rfl (fun ls hl => ?_)
  refine lv_iload F.x F.b dJ6_getChars_ba4f3_14 (lv_at hl 0 rfl) ?_
  refine lv_if_ne (tgt := 22) F.x F.b dJ6_getChars_ba4f3_16 (by decide) (fun c9 => absurd (by decide) c9) (fun _ => ?_)
  refine lv_iload_n F.x F.b dJ6_getChars_ba4f3_19 rfl (lv_at hl 2 rfl) ?_
  refine lv_ineg F.x F.b dJ6_getChars_ba4f3_20 ?_
  refine lv_istore_n (lv' := [(0, .int (-(nI v))), (6, .int 0), (5, .int (nI (q + 1))), (1, .int (nI (q + 1))), (2, .ref va)]) F.x F.b dJ6_getChars_ba4f3_21 rfl hl (by decide) rfl (fun ls hl => ?_)
  refine lv_iload_n F.x F.b dJ6_getChars_ba4f3_22 rfl (lv_at hl 0 rfl) ?_
  refine lv_bipush (v := (-100)) F.x F.b dJ6_getChars_ba4f3_23 (by decide) ?_
  refine lv_icmp_gt (tgt := 72) F.x F.b dJ6_getChars_ba4f3_25 (by decide) (fun _ => ?_) (fun c9 => absurd ((dgF v hv).2.2.2.1) c9)
  refine lv_aload_n F.x F.b dJ6_getChars_ba4f3_72 rfl (lv_at hl 4 rfl) ?_
  refine lv_iinc (v := (nI q)) (lv' := [(5, .int (nI q)), (0, .int (-(nI v))), (6, .int 0), (1, .int (nI (q + 1))), (2, .ref va)]) F.x F.b dJ6_getChars_ba4f3_73 hl (k := 2) rfl (nI_dn _) (by decide) rfl (fun ls hl => ?_)
  refine lv_iload F.x F.b dJ6_getChars_ba4f3_76 (lv_at hl 0 rfl) ?_
  refine va_gets F.x F.b (F.d1 hD).1 w.2.2 F.o (F.t _ (List.mem_of_getElem? (i := 924) (by decide +kernel)) rfl _) (fun _ h => h) dJ6_getChars_ba4f3_78 ?_
  refine lv_iload_n F.x F.b dJ6_getChars_ba4f3_81 rfl (lv_at hl 1 rfl) ?_
  refine lv_ineg F.x F.b dJ6_getChars_ba4f3_82 ?_
  rw [show ((-(-(nI v))) : Int32) = (nI v) from (dgF v hv).2.2.2.2.1]
  refine va_tb F.x F.b (F.d1 hD).2 w.2.2 (ib_in (ib_nI hv (by decide))) (v := .int (nI (48 + v % 10))) (congrArg (fun j => Value.int (nI (48 + j % 10))) (nI_clamp (n := v) (by omega))) dJ6_getChars_ba4f3_83 ?_
  refine rbs F w (ws' := fl [[(va, .inl (G.2.1 3, cp, .inl (upd f (Int32.toNatClampNeg (nI q)) (vp_nar .byte (nI (48 + v % 10))))))]]) 0 rfl (ib_nI (by omega) (by omega)) rfl dJ6_getChars_ba4f3_84 (fun H locs w => ?_)
  refine lv_iload_n F.x F.b dJ6_getChars_ba4f3_85 rfl (lv_at hl 1 rfl) ?_
  refine lv_bipush (v := (-9)) F.x F.b dJ6_getChars_ba4f3_86 (by decide) ?_
  refine lv_icmp_ge (tgt := 104) F.x F.b dJ6_getChars_ba4f3_88 (by decide) (fun _ => ?_) (fun c9 => absurd ((dgF v hv).2.2.2.2.2.1 h10) c9)
  refine lv_iload F.x F.b dJ6_getChars_ba4f3_104 (lv_at hl 2 rfl) ?_
  refine lv_if_eq (tgt := 118) F.x F.b dJ6_getChars_ba4f3_106 (by decide) (fun _ => ?_) (fun c9 => absurd rfl c9)
  refine lv_iload F.x F.b dJ6_getChars_ba4f3_118 (lv_at hl 0 rfl) ?_
  exact ei F w hr hlocks rfl rfl rfl dJ6_getChars_ba4f3_120
set_option maxRecDepth 100000 in
set_option maxHeartbeats 4000000 in
theorem t_J6_getChars_ba4f3_2 {G : cG} (g : GOK G) {v q va cp : Nat} {f : Nat → Int32} {d1 d2 : Nat} (hD : DGs G d1 d2) (hv : v < 100) (h10 : 10 ≤ v) (hq : q + 2 ≤ cp) (hc35 : cp < 35) : CI G yJ6_getChars_ba4f3 cJ6_getChars_ba4f3 7 .int 0 0 [.int (nI v), .int (nI (q + 2)), .ref va] (fl [[(va, .inl (G.2.1 3, cp, .inl f))]]) (fl [[(va, .inl (G.2.1 3, cp, .inl (upd (upd f (Int32.toNatClampNeg (nI (q + 1))) (vp_nar .byte (nI (48 + v % 10)))) (Int32.toNatClampNeg (nI q)) (vp_nar .byte (nI (48 + v / 10))))))]]) (nI q) := by
  refine CI.of g (by decide) rfl (Nat.le_of_ble_eq_true rfl) ?_
  intro p l e s m below meth c A ls F hr hlocks w hl
  generalize ([.int (nI v), .int (nI (q + 2)), .ref va] : List Value).toArray = args
  have hl : lv_has ls 7 [(0, .int (nI v)), (1, .int (nI (q + 2))), (2, .ref va)] := hl
  have w : Wd G A s.heap (fl [[(va, .inl (G.2.1 3, cp, .inl f))]]) _ _ := w
  have w : Wd G A s.heap (fl [[(va, .inl (G.2.1 3, cp, .inl f))]]) _ _ := w
  refine lv_iload_n F.x F.b dJ6_getChars_ba4f3_0 rfl (lv_at hl 1 rfl) ?_
  refine lv_istore (lv' := [(5, .int (nI (q + 2))), (0, .int (nI v)), (1, .int (nI (q + 2))), (2, .ref va)]) F.x F.b dJ6_getChars_ba4f3_1 hl (by decide) rfl (fun ls hl => ?_)
  refine lv_iload_n F.x F.b dJ6_getChars_ba4f3_3 rfl (lv_at hl 1 rfl) ?_
  refine lv_if_ge (tgt := 11) F.x F.b dJ6_getChars_ba4f3_4 (by decide) (fun _ => ?_) (fun c9 => absurd (nI_pos' (n := v) (by omega)) c9)
  refine lv_iconst (v := 0) F.x F.b dJ6_getChars_ba4f3_11 (by decide) ?_
  refine lv_istore (lv' := [(6, .int 0), (5, .int (nI (q + 2))), (0, .int (nI v)), (1, .int (nI (q + 2))), (2, .ref va)]) F.x F.b dJ6_getChars_ba4f3_12 hl (by decide) rfl (fun ls hl => ?_)
  refine lv_iload F.x F.b dJ6_getChars_ba4f3_14 (lv_at hl 0 rfl) ?_
  refine lv_if_ne (tgt := 22) F.x F.b dJ6_getChars_ba4f3_16 (by decide) (fun c9 => absurd (by decide) c9) (fun _ => ?_)
  refine lv_iload_n F.x F.b dJ6_getChars_ba4f3_19 rfl (lv_at hl 2 rfl) ?_
  refine lv_ineg F.x F.b dJ6_getChars_ba4f3_20 ?_
  refine lv_istore_n (lv' := [(0, .int (-(nI v))), (6, .int 0), (5, .int (nI (q + 2))), (1, .int (nI (q + 2))), (2, .ref va)]) F.x F.b dJ6_getChars_ba4f3_21 rfl hl (by decide) rfl (fun ls hl => ?_)
  refine lv_iload_n F.x F.b dJ6_getChars_ba4f3_22 rfl (lv_at hl 0 rfl) ?_
  refine lv_bipush (v := (-100)) F.x F.b dJ6_getChars_ba4f3_23 (by decide) ?_
  refine lv_icmp_gt (tgt := 72) F.x F.b dJ6_getChars_ba4f3_25 (by decide) (fun _ => ?_) (fun c9 => absurd ((dgF v hv).2.2.2.1) c9)
  refine lv_aload_n F.x F.b dJ6_getChars_ba4f3_72 rfl (lv_at hl 4 rfl) ?_
  refine lv_iinc (v := (nI (q + 1))) (lv' := [(5, .int (nI (q + 1))), (0, .int (-(nI v))), (6, .int 0), (1, .int (nI (q + 2))), (2, .ref va)]) F.x F.b dJ6_getChars_ba4f3_73 hl (k := 2) rfl (nI_dn _) (by decide) rfl (fun ls hl => ?_)
  refine lv_iload F.x F.b dJ6_getChars_ba4f3_76 (lv_at hl 0 rfl) ?_
  refine va_gets F.x F.b (F.d1 hD).1 w.2.2 F.o (F.t _ (List.mem_of_getElem? (i := 924) (by decide +kernel)) rfl _) (fun _ h => h) dJ6_getChars_ba4f3_78 ?_
  refine lv_iload_n F.x F.b dJ6_getChars_ba4f3_81 rfl (lv_at hl 1 rfl) ?_
  refine lv_ineg F.x F.b dJ6_getChars_ba4f3_82 ?_
  rw [show ((-(-(nI v))) : Int32) = (nI v) from (dgF v hv).2.2.2.2.1]
  refine va_tb F.x F.b (F.d1 hD).2 w.2.2 (ib_in (ib_nI hv (by decide))) (v := .int (nI (48 + v % 10))) (congrArg (fun j => Value.int (nI (48 + j % 10))) (nI_clamp (n := v) (by omega))) dJ6_getChars_ba4f3_83 ?_
  refine rbs F w (ws' := fl [[(va, .inl (G.2.1 3, cp, .inl (upd f (Int32.toNatClampNeg (nI (q + 1))) (vp_nar .byte (nI (48 + v % 10))))))]]) 0 rfl (ib_nI (by omega) (by omega)) rfl dJ6_getChars_ba4f3_84 (fun H locs w => ?_)
  refine lv_iload_n F.x F.b dJ6_getChars_ba4f3_85 rfl (lv_at hl 1 rfl) ?_
  refine lv_bipush (v := (-9)) F.x F.b dJ6_getChars_ba4f3_86 (by decide) ?_
  refine lv_icmp_ge (tgt := 104) F.x F.b dJ6_getChars_ba4f3_88 (by decide) (fun c9 => absurd c9 ((dgF v hv).2.2.2.2.2.2 h10)) (fun _ => ?_)
  refine lv_aload_n F.x F.b dJ6_getChars_ba4f3_91 rfl (lv_at hl 4 rfl) ?_
  refine lv_iinc (v := (nI q)) (lv' := [(5, .int (nI q)), (0, .int (-(nI v))), (6, .int 0), (1, .int (nI (q + 2))), (2, .ref va)]) F.x F.b dJ6_getChars_ba4f3_92 hl (k := 0) rfl (nI_dn _) (by decide) rfl (fun ls hl => ?_)
  refine lv_iload F.x F.b dJ6_getChars_ba4f3_95 (lv_at hl 0 rfl) ?_
  refine va_gets F.x F.b (F.d2 hD).1 w.2.2 F.o (F.t _ (List.mem_of_getElem? (i := 926) (by decide +kernel)) rfl _) (fun _ h => h) dJ6_getChars_ba4f3_97 ?_
  refine lv_iload_n F.x F.b dJ6_getChars_ba4f3_100 rfl (lv_at hl 1 rfl) ?_
  refine lv_ineg F.x F.b dJ6_getChars_ba4f3_101 ?_
  rw [show ((-(-(nI v))) : Int32) = (nI v) from (dgF v hv).2.2.2.2.1]
  refine va_tb F.x F.b (F.d2 hD).2 w.2.2 (ib_in (ib_nI hv (by decide))) (v := .int (nI (48 + v / 10))) (congrArg (fun j => Value.int (nI (48 + j / 10))) (nI_clamp (n := v) (by omega))) dJ6_getChars_ba4f3_102 ?_
  refine rbs F w (ws' := fl [[(va, .inl (G.2.1 3, cp, .inl (upd (upd f (Int32.toNatClampNeg (nI (q + 1))) (vp_nar .byte (nI (48 + v % 10)))) (Int32.toNatClampNeg (nI q)) (vp_nar .byte (nI (48 + v / 10))))))]]) 0 rfl (ib_nI (by omega) (by omega)) rfl dJ6_getChars_ba4f3_103 (fun H locs w => ?_)
  refine lv_iload F.x F.b dJ6_getChars_ba4f3_104 (lv_at hl 2 rfl) ?_
  refine lv_if_eq (tgt := 118) F.x F.b dJ6_getChars_ba4f3_106 (by decide) (fun _ => ?_) (fun c9 => absurd rfl c9)
  refine lv_iload F.x F.b dJ6_getChars_ba4f3_118 (lv_at hl 0 rfl) ?_
  exact ei F w hr hlocks rfl rfl rfl dJ6_getChars_ba4f3_120
set_option maxRecDepth 100000 in
set_option maxHeartbeats 4000000 in
theorem t_J5_append_3fe6f {G : cG} (g : GOK G) {o : Nat → Nat} {va cp n mm gm gs ch : Nat} {mb : Int32} {f : Nat → Int32} {L : List Nat} {ks kv : Nat → Nat} (hSG : SG G ks kv) (pv : PV G) (hT : Tx (va, cp, n, mb, f) L) (hch : ch < 128) (hq : ((n + 1 ≤ cp ∧ cp = mm) ∨ (cp = 16 ∧ n = 16 ∧ 1 ≤ gm ∧ 34 ≤ gs ∧ 34 = mm))) : CRm G yJ5_append_3fe6f cJ5_append_3fe6f 2 (.object "java/lang/AbstractStringBuilder") 4 104 gm gs [.ref (o 0), .int (nI ch)] (fl [wSb G.2.1 o (va, cp, n, mb, f)]) (fun a9 w' => a9 = o 0 ∧ ∃ va' f', w' = fl [wSb G.2.1 o (va', mm, (n + 1), mb, f')] ∧ Tx (va', mm, n + 1, mb, f') (L ++ [ch])) := by
  have hf : ∀ i, i < n → ∃ ch, ch < 128 ∧ f i = nI ch := hT.fz
  have hc35 : cp < 35 := hT.c35
  have hq2 : (n + 1 ≤ cp ∧ cp = mm) ∨ (cp = 16 ∧ n + 1 = 17 ∧ n = 16 ∧ 1 ≤ gm ∧ 34 ≤ gs ∧ 34 = mm) := hq.imp id (fun ⟨a, b, c, d, e⟩ => ⟨a, by omega, b, c, d, e⟩)
  have hib : ib (nI n) mm = true := ib_nI (by rcases hq with h | h <;> omega) (by rcases hq with h | h <;> omega)
  refine CRm.of g (by decide) rfl (Nat.le_of_ble_eq_true rfl) ?_
  intro p l e s m below meth c A ls F hr hlocks w hl
  generalize ([.ref (o 0), .int (nI ch)] : List Value).toArray = args
  have hl : lv_has ls 2 [(0, .ref (o 0)), (1, .int (nI ch))] := hl
  have w : Wd G A s.heap (fl [wSb G.2.1 o (va, cp, n, mb, f)]) _ _ := w
  have w : Wd G A s.heap (fl [[((o 0), .inr (1, [.ref va, .int 0, .int mb, .int (nI n)]))], [(va, .inl (G.2.1 3, cp, .inl f))]]) _ _ := w
  refine lv_aload_n F.x F.b dJ5_append_3fe6f_0 rfl (lv_at hl 0 rfl) ?_
  refine lv_aload_n F.x F.b dJ5_append_3fe6f_1 rfl (lv_at hl 0 rfl) ?_
  refine rg F w clB 0 rfl 3 (by decide) q249 rfl (v := .int (nI n)) rfl dJ5_append_3fe6f_2 ?_
  refine lv_iconst (v := 1) F.x F.b dJ5_append_3fe6f_5 (by decide) ?_
  refine lv_iadd F.x F.b dJ5_append_3fe6f_6 ?_
  rw [show (((nI n) + 1) : Int32) = (nI (n + 1)) from (nI_1 n)]
  refine kUn F w (LC := [[((o 0), .inr (1, [.ref va, .int 0, .int mb, .int (nI n)]))], [(va, .inl (G.2.1 3, cp, .inl f))]]) (LR := []) (As := [.int (nI (n + 1))]) (rest := []) (t_J5_ensureCapacityInternal_d00df F.1 (q := n + 1) (mm := mm) (gm := gm) (gs := gs) pv hc35 hq2 hf) m_J5_ensureCapacityInternal_d00df (List.mem_of_getElem? (i := 808) (by decide +kernel)) (List.mem_of_getElem? (i := 806) (by decide +kernel)) (List.mem_of_getElem? (i := 1514) (by decide +kernel)) (ci := 1) (q0 := 0) rfl rfl (F.pv pv args).1 2 [0, 1] rfl rfl rfl ⟨Nat.le_of_ble_eq_true rfl, Nat.le_of_ble_eq_true rfl⟩ rfl hl.1 rfl (Nat.le_of_ble_eq_true rfl) dJ5_append_3fe6f_7 ⟨Nat.le_of_eq (Nat.zero_add _), Nat.le_of_eq (Nat.zero_add _)⟩ (fun w1 H locs h9 w => ?_)
  obtain ⟨va', f', h9, hk⟩ := h9
  have w := w.jn (L1 := [[((o 0), .inr (1, [.ref va', .int 0, .int mb, .int (nI n)]))], [(va', .inl (G.2.1 3, mm, .inl f'))]]) (L' := [[((o 0), .inr (1, [.ref va', .int 0, .int mb, .int (nI n)]))], [(va', .inl (G.2.1 3, mm, .inl f'))]]) h9 2 [0, 1] rfl rfl rfl
  have w : Wd G A s.heap (fl [[((o 0), .inr (1, [.ref va', .int 0, .int mb, .int (nI n)]))], [(va', .inl (G.2.1 3, mm, .inl f'))]]) _ _ := w
  refine lv_aload_n F.x F.b dJ5_append_3fe6f_10 rfl (lv_at hl 0 rfl) ?_
  refine kUi F w (LC := [[((o 0), .inr (1, [.ref va', .int 0, .int mb, .int (nI n)]))], [(va', .inl (G.2.1 3, mm, .inl f'))]]) (LR := []) (As := []) (rest := []) (t_J5_isLatin1_aae02 F.1 (o := o) (va := va') (cp := mm) (n := n) (mb := mb) (f := f') hSG) m_J5_isLatin1_aae02 (List.mem_of_getElem? (i := 838) (by decide +kernel)) (List.mem_of_getElem? (i := 837) (by decide +kernel)) (List.mem_of_getElem? (i := 839) (by decide +kernel)) (ci := 1) (q0 := 0) rfl rfl (F.t _ (List.mem_of_getElem? (i := 840) (by decide +kernel)) rfl args) 2 [0, 1] rfl rfl rfl ⟨Nat.le_of_ble_eq_true rfl, Nat.le_of_ble_eq_true rfl⟩ rfl hl.1 rfl (Nat.le_of_ble_eq_true rfl) dJ5_append_3fe6f_11 ⟨Nat.le_of_eq (Nat.zero_add _), Nat.le_of_eq (Nat.zero_add _)⟩ (fun H locs w => ?_)
  have w := w.jn (L1 := [[((o 0), .inr (1, [.ref va', .int 0, .int mb, .int (nI n)]))], [(va', .inl (G.2.1 3, mm, .inl f'))]]) (L' := [[((o 0), .inr (1, [.ref va', .int 0, .int mb, .int (nI n)]))], [(va', .inl (G.2.1 3, mm, .inl f'))]]) rfl 2 [0, 1] rfl rfl rfl
  have w : Wd G A s.heap (fl [[((o 0), .inr (1, [.ref va', .int 0, .int mb, .int (nI n)]))], [(va', .inl (G.2.1 3, mm, .inl f'))]]) _ _ := w
  refine lv_if_eq (tgt := 45) F.x F.b dJ5_append_3fe6f_14 (by decide) (fun c9 => absurd c9 (by decide)) (fun _ => ?_)
  refine lv_iload_n F.x F.b dJ5_append_3fe6f_17 rfl (lv_at hl 1 rfl) ?_
  refine kSBi F w (LC := []) (LR := [[((o 0), .inr (1, [.ref va', .int 0, .int mb, .int (nI n)]))], [(va', .inl (G.2.1 3, mm, .inl f'))]]) (As := [.int (nI ch)]) (rest := []) (t_J1_canEncode_fc78d F.1 hch) m_J1_canEncode_fc78d v_J1_canEncode_fc78d (List.mem_of_getElem? (i := 1242) (by decide +kernel)) 2 [0, 1] rfl rfl rfl ⟨Nat.le_of_ble_eq_true rfl, Nat.le_of_ble_eq_true rfl⟩ rfl hl.1 rfl (Nat.le_of_ble_eq_true rfl) dJ5_append_3fe6f_18 ⟨Nat.le_of_eq (Nat.zero_add _), Nat.le_of_eq (Nat.zero_add _)⟩ (fun H locs w => ?_)
  have w : Wd G A s.heap (fl [[((o 0), .inr (1, [.ref va', .int 0, .int mb, .int (nI n)]))], [(va', .inl (G.2.1 3, mm, .inl f'))]]) _ _ := w
  refine lv_if_eq (tgt := 45) F.x F.b dJ5_append_3fe6f_21 (by decide) (fun c9 => absurd c9 (by decide)) (fun _ => ?_)
  refine lv_aload_n F.x F.b dJ5_append_3fe6f_24 rfl (lv_at hl 0 rfl) ?_
  refine rg F w clB 0 rfl 0 (by decide) q245 rfl (v := .ref va') rfl dJ5_append_3fe6f_25 ?_
  refine lv_aload_n F.x F.b dJ5_append_3fe6f_28 rfl (lv_at hl 0 rfl) ?_
  refine lv_dup F.x F.b dJ5_append_3fe6f_29 rfl ?_
  refine rg F w clB 0 rfl 3 (by decide) q249 rfl (v := .int (nI n)) rfl dJ5_append_3fe6f_30 ?_
  refine lv_dup_x1 F.x F.b dJ5_append_3fe6f_33 rfl rfl ?_
  refine lv_iconst (v := 1) F.x F.b dJ5_append_3fe6f_34 (by decide) ?_
  refine lv_iadd F.x F.b dJ5_append_3fe6f_35 ?_
  rw [show (((nI n) + 1) : Int32) = (nI (n + 1)) from (nI_1 n)]
  refine rp F w (ws' := fl [[((o 0), .inr (1, [.ref va', .int 0, .int mb, .int (nI (n + 1))]))], [(va', .inl (G.2.1 3, mm, .inl f'))]]) clB 0 rfl 3 (by decide) q249 rfl rfl rfl rfl (Nat.le_of_ble_eq_true rfl) rfl dJ5_append_3fe6f_36 (fun H locs w => ?_)
  refine lv_iload_n F.x F.b dJ5_append_3fe6f_39 rfl (lv_at hl 1 rfl) ?_
  refine lv_i2b (v := (nI ch)) F.x F.b dJ5_append_3fe6f_40 (ch_nar ch hch).2.1 ?_
  refine rbs F w (ws' := fl [[((o 0), .inr (1, [.ref va', .int 0, .int mb, .int (nI (n + 1))]))], [(va', .inl (G.2.1 3, mm, .inl (upd f' (Int32.toNatClampNeg (nI n)) (vp_nar .byte (nI ch)))))]]) 1 rfl hib rfl dJ5_append_3fe6f_41 (fun H locs w => ?_)
  refine lv_goto (tgt := 75) F.x F.b dJ5_append_3fe6f_42 (by decide) ?_
  refine lv_aload_n F.x F.b dJ5_append_3fe6f_75 rfl (lv_at hl 0 rfl) ?_
  exact eRm F w (Or.inl hr) hlocks ⟨rfl, va', _, rfl, Tx_put hT hq hk hch⟩ (Nat.le_of_eq (Nat.zero_add _)) (Nat.le_of_eq (Nat.zero_add _)) dJ5_append_3fe6f_76
set_option maxRecDepth 100000 in
set_option maxHeartbeats 4000000 in
theorem t_J4_append_cf468 {G : cG} (g : GOK G) {o : Nat → Nat} {va cp n mm gm gs ch : Nat} {mb : Int32} {f : Nat → Int32} {L : List Nat} {ks kv : Nat → Nat} (hSG : SG G ks kv) (pv : PV G) (hT : Tx (va, cp, n, mb, f) L) (hch : ch < 128) (hq : ((n + 1 ≤ cp ∧ cp = mm) ∨ (cp = 16 ∧ n = 16 ∧ 1 ≤ gm ∧ 34 ≤ gs ∧ 34 = mm))) : CRm G yJ4_append_cf468 cJ4_append_cf468 2 (.object "java/lang/StringBuilder") 5 125 gm gs [.ref (o 0), .int (nI ch)] (fl [wSb G.2.1 o (va, cp, n, mb, f)]) (fun a9 w' => a9 = o 0 ∧ ∃ va' f', w' = fl [wSb G.2.1 o (va', mm, (n + 1), mb, f')] ∧ Tx (va', mm, n + 1, mb, f') (L ++ [ch])) := by
  refine CRm.of g (by decide) rfl (Nat.le_of_ble_eq_true rfl) ?_
  intro p l e s m below meth c A ls F hr hlocks w hl
  generalize ([.ref (o 0), .int (nI ch)] : List Value).toArray = args
  have hl : lv_has ls 2 [(0, .ref (o 0)), (1, .int (nI ch))] := hl
  have w : Wd G A s.heap (fl [wSb G.2.1 o (va, cp, n, mb, f)]) _ _ := w
  have w : Wd G A s.heap (fl [[((o 0), .inr (1, [.ref va, .int 0, .int mb, .int (nI n)]))], [(va, .inl (G.2.1 3, cp, .inl f))]]) _ _ := w
  refine lv_aload_n F.x F.b dJ4_append_cf468_0 rfl (lv_at hl 0 rfl) ?_
  refine lv_iload_n F.x F.b dJ4_append_cf468_1 rfl (lv_at hl 1 rfl) ?_
  refine kSUr F w (LC := [[((o 0), .inr (1, [.ref va, .int 0, .int mb, .int (nI n)]))], [(va, .inl (G.2.1 3, cp, .inl f))]]) (LR := []) (As := [.int (nI ch)]) (rest := []) (t_J5_append_3fe6f F.1 hSG pv hT hch hq) m_J5_append_3fe6f (List.mem_of_getElem? (i := 1240) (by decide +kernel)) (List.mem_of_getElem? (i := 1239) (by decide +kernel)) (List.mem_of_getElem? (i := 1521) (by decide +kernel)) (List.mem_of_getElem? (i := 258) (by decide +kernel)) (by decide) (ci := 1) (q0 := 0) rfl rfl 2 [0, 1] rfl rfl rfl ⟨Nat.le_of_ble_eq_true rfl, Nat.le_of_ble_eq_true rfl⟩ rfl hl.1 rfl (Nat.le_of_ble_eq_true rfl) dJ4_append_cf468_2 ⟨Nat.le_of_eq (Nat.zero_add _), Nat.le_of_eq (Nat.zero_add _)⟩ (fun a9 w1 H locs h9 w => ?_)
  obtain ⟨rfl, va', f', rfl, hT2⟩ := h9
  have w := w.jn (L1 := [[((o 0), .inr (1, [.ref va', .int 0, .int mb, .int (nI (n + 1))]))], [(va', .inl (G.2.1 3, mm, .inl f'))]]) (L' := [[((o 0), .inr (1, [.ref va', .int 0, .int mb, .int (nI (n + 1))]))], [(va', .inl (G.2.1 3, mm, .inl f'))]]) rfl 2 [0, 1] rfl rfl rfl
  have w : Wd G A s.heap (fl [[((o 0), .inr (1, [.ref va', .int 0, .int mb, .int (nI (n + 1))]))], [(va', .inl (G.2.1 3, mm, .inl f'))]]) _ _ := w
  refine lv_pop F.x F.b dJ4_append_cf468_5 rfl ?_
  refine lv_aload_n F.x F.b dJ4_append_cf468_6 rfl (lv_at hl 0 rfl) ?_
  exact eRm F w (Or.inl hr) hlocks ⟨rfl, va', f', rfl, hT2⟩ (Nat.le_of_eq (Nat.zero_add _)) (Nat.le_of_eq (Nat.zero_add _)) dJ4_append_cf468_7
set_option maxRecDepth 100000 in
set_option maxHeartbeats 4000000 in
theorem t_J5_append_c97b9 {G : cG} (g : GOK G) {o : Nat → Nat} {va cp n v : Nat} {mb : Int32} {f : Nat → Int32} {L : List Nat} {ks kv : Nat → Nat} {d1 d2 : Nat} (hSG : SG G ks kv) (hD : DGs G d1 d2) (pv : PV G) (hT : Tx (va, cp, n, mb, f) L) (hv : v < 100) (hn : n + 2 ≤ cp) : CRm G yJ5_append_c97b9 cJ5_append_c97b9 4 (.object "java/lang/AbstractStringBuilder") 4 104 0 0 [.ref (o 0), .int (nI v)] (fl [wSb G.2.1 o (va, cp, n, mb, f)]) (fun a9 w' => a9 = o 0 ∧ ∃ va' n' f', w' = fl [wSb G.2.1 o (va', cp, n', mb, f')] ∧ Tx (va', cp, n', mb, f') (L ++ dgN v)) := by
  have hf : ∀ i, i < n → ∃ ch, ch < 128 ∧ f i = nI ch := hT.fz
  have hc35 : cp < 35 := hT.c35
  rcases Nat.lt_or_ge v 10 with h10 | h10
  · have hq2 : (n + 1 ≤ cp ∧ cp = cp) ∨ (cp = 16 ∧ n + 1 = 17 ∧ n = 16 ∧ 1 ≤ 0 ∧ 34 ≤ 0 ∧ 34 = cp) := Or.inl ⟨by omega, rfl⟩
    refine CRm.of g (by decide) rfl (Nat.le_of_ble_eq_true rfl) ?_
    intro p l e s m below meth c A ls F hr hlocks w hl
    generalize ([.ref (o 0), .int (nI v)] : List Value).toArray = args
    have hl : lv_has ls 4 [(0, .ref (o 0)), (1, .int (nI v))] := hl
    have w : Wd G A s.heap (fl [wSb G.2.1 o (va, cp, n, mb, f)]) _ _ := w
    have w : Wd G A s.heap (fl [[((o 0), .inr (1, [.ref va, .int 0, .int mb, .int (nI n)]))], [(va, .inl (G.2.1 3, cp, .inl f))]]) _ _ := w
    refine lv_aload_n F.x F.b dJ5_append_c97b9_0 rfl (lv_at hl 0 rfl) ?_
    refine rg F w clB 0 rfl 3 (by decide) q249 rfl (v := .int (nI n)) rfl dJ5_append_c97b9_1 ?_
    refine lv_istore_n (lv' := [(2, .int (nI n)), (0, .ref (o 0)), (1, .int (nI v))]) F.x F.b dJ5_append_c97b9_4 rfl hl (by decide) rfl (fun ls hl => ?_)
    refine lv_iload_n F.x F.b dJ5_append_c97b9_5 rfl (lv_at hl 0 rfl) ?_
    refine lv_iload_n F.x F.b dJ5_append_c97b9_6 rfl (lv_at hl 2 rfl) ?_
    refine kSBi F w (LC := []) (LR := [[((o 0), .inr (1, [.ref va, .int 0, .int mb, .int (nI n)]))], [(va, .inl (G.2.1 3, cp, .inl f))]]) (As := [.int (nI v)]) (rest := [.int (nI n)]) (t_J6_stringSize_0f7a4_1 F.1 hv h10) m_J6_stringSize_0f7a4 v_J6_stringSize_0f7a4 (List.mem_of_getElem? (i := 918) (by decide +kernel)) 2 [0, 1] rfl rfl rfl ⟨Nat.le_of_ble_eq_true rfl, Nat.le_of_ble_eq_true rfl⟩ rfl hl.1 rfl (Nat.le_of_ble_eq_true rfl) dJ5_append_c97b9_7 ⟨Nat.le_of_ble_eq_true rfl, Nat.le_of_ble_eq_true rfl⟩ (fun H locs w => ?_)
    have w : Wd G A s.heap (fl [[((o 0), .inr (1, [.ref va, .int 0, .int mb, .int (nI n)]))], [(va, .inl (G.2.1 3, cp, .inl f))]]) _ _ := w
    refine lv_iadd F.x F.b dJ5_append_c97b9_10 ?_
    rw [show (((nI n) + 1) : Int32) = (nI (n + 1)) from (nI_add n 1)]
    refine lv_istore_n (lv' := [(3, .int (nI (n + 1))), (2, .int (nI n)), (0, .ref (o 0)), (1, .int (nI v))]) F.x F.b dJ5_append_c97b9_11 rfl hl (by decide) rfl (fun ls hl => ?_)
    refine lv_aload_n F.x F.b dJ5_append_c97b9_12 rfl (lv_at hl 2 rfl) ?_
    refine lv_iload_n F.x F.b dJ5_append_c97b9_13 rfl (lv_at hl 0 rfl) ?_
    refine kUn F w (LC := [[((o 0), .inr (1, [.ref va, .int 0, .int mb, .int (nI n)]))], [(va, .inl (G.2.1 3, cp, .inl f))]]) (LR := []) (As := [.int (nI (n + 1))]) (rest := []) (t_J5_ensureCapacityInternal_d00df F.1 (q := n + 1) (mm := cp) (gm := 0) (gs := 0) pv hc35 hq2 hf) m_J5_ensureCapacityInternal_d00df (List.mem_of_getElem? (i := 808) (by decide +kernel)) (List.mem_of_getElem? (i := 806) (by decide +kernel)) (List.mem_of_getElem? (i := 1514) (by decide +kernel)) (ci := 1) (q0 := 0) rfl rfl (F.pv pv args).1 2 [0, 1] rfl rfl rfl ⟨Nat.le_of_ble_eq_true rfl, Nat.le_of_ble_eq_true rfl⟩ rfl hl.1 rfl (Nat.le_of_ble_eq_true rfl) dJ5_append_c97b9_14 ⟨Nat.le_of_ble_eq_true rfl, Nat.le_of_ble_eq_true rfl⟩ (fun w1 H locs h9 w => ?_)
    obtain ⟨va', f', h9, hk⟩ := h9
    have w := w.jn (L1 := [[((o 0), .inr (1, [.ref va', .int 0, .int mb, .int (nI n)]))], [(va', .inl (G.2.1 3, cp, .inl f'))]]) (L' := [[((o 0), .inr (1, [.ref va', .int 0, .int mb, .int (nI n)]))], [(va', .inl (G.2.1 3, cp, .inl f'))]]) h9 2 [0, 1] rfl rfl rfl
    have w : Wd G A s.heap (fl [[((o 0), .inr (1, [.ref va', .int 0, .int mb, .int (nI n)]))], [(va', .inl (G.2.1 3, cp, .inl f'))]]) _ _ := w
    refine lv_aload_n F.x F.b dJ5_append_c97b9_17 rfl (lv_at hl 2 rfl) ?_
    refine kUi F w (LC := [[((o 0), .inr (1, [.ref va', .int 0, .int mb, .int (nI n)]))], [(va', .inl (G.2.1 3, cp, .inl f'))]]) (LR := []) (As := []) (rest := []) (t_J5_isLatin1_aae02 F.1 (o := o) (va := va') (cp := cp) (n := n) (mb := mb) (f := f') hSG) m_J5_isLatin1_aae02 (List.mem_of_getElem? (i := 838) (by decide +kernel)) (List.mem_of_getElem? (i := 837) (by decide +kernel)) (List.mem_of_getElem? (i := 839) (by decide +kernel)) (ci := 1) (q0 := 0) rfl rfl (F.t _ (List.mem_of_getElem? (i := 840) (by decide +kernel)) rfl args) 2 [0, 1] rfl rfl rfl ⟨Nat.le_of_ble_eq_true rfl, Nat.le_of_ble_eq_true rfl⟩ rfl hl.1 rfl (Nat.le_of_ble_eq_true rfl) dJ5_append_c97b9_18 ⟨Nat.le_of_ble_eq_true rfl, Nat.le_of_ble_eq_true rfl⟩ (fun H locs w => ?_)
    have w := w.jn (L1 := [[((o 0), .inr (1, [.ref va', .int 0, .int mb, .int (nI n)]))], [(va', .inl (G.2.1 3, cp, .inl f'))]]) (L' := [[((o 0), .inr (1, [.ref va', .int 0, .int mb, .int (nI n)]))], [(va', .inl (G.2.1 3, cp, .inl f'))]]) rfl 2 [0, 1] rfl rfl rfl
    have w : Wd G A s.heap (fl [[((o 0), .inr (1, [.ref va', .int 0, .int mb, .int (nI n)]))], [(va', .inl (G.2.1 3, cp, .inl f'))]]) _ _ := w
    refine lv_if_eq (tgt := 37) F.x F.b dJ5_append_c97b9_21 (by decide) (fun c9 => absurd c9 (by decide)) (fun _ => ?_)
    refine lv_iload_n F.x F.b dJ5_append_c97b9_24 rfl (lv_at hl 3 rfl) ?_
    refine lv_iload_n F.x F.b dJ5_append_c97b9_25 rfl (lv_at hl 0 rfl) ?_
    refine lv_aload_n F.x F.b dJ5_append_c97b9_26 rfl (lv_at hl 2 rfl) ?_
    refine rg F w clB 0 rfl 0 (by decide) q245 rfl (v := .ref va') rfl dJ5_append_c97b9_27 ?_
    refine kSBi F w (LC := [[(va', .inl (G.2.1 3, cp, .inl f'))]]) (LR := [[((o 0), .inr (1, [.ref va', .int 0, .int mb, .int (nI n)]))]]) (As := [.int (nI v), .int (nI (n + 1)), .ref va']) (rest := []) (t_J6_getChars_ba4f3_1 F.1 (v := v) (q := n) (va := va') (cp := cp) (f := f') hD hv h10 (by omega) hc35) m_J6_getChars_ba4f3 v_J6_getChars_ba4f3 (List.mem_of_getElem? (i := 921) (by decide +kernel)) 2 [1, 0] rfl rfl rfl ⟨Nat.le_of_ble_eq_true rfl, Nat.le_of_ble_eq_true rfl⟩ rfl hl.1 rfl (Nat.le_of_ble_eq_true rfl) dJ5_append_c97b9_30 ⟨Nat.le_of_ble_eq_true rfl, Nat.le_of_ble_eq_true rfl⟩ (fun H locs w => ?_)
    have w := w.jn (L1 := [[(va', .inl (G.2.1 3, cp, .inl (upd f' (Int32.toNatClampNeg (nI n)) (vp_nar .byte (nI (48 + v % 10))))))]]) (L' := [[((o 0), .inr (1, [.ref va', .int 0, .int mb, .int (nI n)]))], [(va', .inl (G.2.1 3, cp, .inl (upd f' (Int32.toNatClampNeg (nI n)) (vp_nar .byte (nI (48 + v % 10))))))]]) rfl 2 [1, 0] rfl rfl rfl
    have w : Wd G A s.heap (fl [[((o 0), .inr (1, [.ref va', .int 0, .int mb, .int (nI n)]))], [(va', .inl (G.2.1 3, cp, .inl (upd f' (Int32.toNatClampNeg (nI n)) (vp_nar .byte (nI (48 + v % 10))))))]]) _ _ := w
    refine lv_pop F.x F.b dJ5_append_c97b9_33 rfl ?_
    refine lv_goto (tgt := 48) F.x F.b dJ5_append_c97b9_34 (by decide) ?_
    refine lv_aload_n F.x F.b dJ5_append_c97b9_48 rfl (lv_at hl 2 rfl) ?_
    refine lv_iload_n F.x F.b dJ5_append_c97b9_49 rfl (lv_at hl 0 rfl) ?_
    refine rp F w (ws' := fl [[((o 0), .inr (1, [.ref va', .int 0, .int mb, .int (nI (n + 1))]))], [(va', .inl (G.2.1 3, cp, .inl (upd f' (Int32.toNatClampNeg (nI n)) (vp_nar .byte (nI (48 + v % 10))))))]]) clB 0 rfl 3 (by decide) q249 rfl rfl rfl rfl (Nat.le_of_ble_eq_true rfl) rfl dJ5_append_c97b9_50 (fun H locs w => ?_)
    refine lv_aload_n F.x F.b dJ5_append_c97b9_53 rfl (lv_at hl 2 rfl) ?_
    exact eRm F w (Or.inl hr) hlocks ⟨rfl, va', _, _, rfl, Tx_num1 hT hn hv h10 hk⟩ (Nat.le_of_ble_eq_true rfl) (Nat.le_of_ble_eq_true rfl) dJ5_append_c97b9_54
  · have hq2 : (n + 2 ≤ cp ∧ cp = cp) ∨ (cp = 16 ∧ n + 2 = 17 ∧ n = 16 ∧ 1 ≤ 0 ∧ 34 ≤ 0 ∧ 34 = cp) := Or.inl ⟨by omega, rfl⟩
    refine CRm.of g (by decide) rfl (Nat.le_of_ble_eq_true rfl) ?_
    intro p l e s m below meth c A ls F hr hlocks w hl
    generalize ([.ref (o 0), .int (nI v)] : List Value).toArray = args
    have hl : lv_has ls 4 [(0, .ref (o 0)), (1, .int (nI v))] := hl
    have w : Wd G A s.heap (fl [wSb G.2.1 o (va, cp, n, mb, f)]) _ _ := w
    have w : Wd G A s.heap (fl [[((o 0), .inr (1, [.ref va, .int 0, .int mb, .int (nI n)]))], [(va, .inl (G.2.1 3, cp, .inl f))]]) _ _ := w
    refine lv_aload_n F.x F.b dJ5_append_c97b9_0 rfl (lv_at hl 0 rfl) ?_
    refine rg F w clB 0 rfl 3 (by decide) q249 rfl (v := .int (nI n)) rfl dJ5_append_c97b9_1 ?_
    refine lv_istore_n (lv' := [(2, .int (nI n)), (0, .ref (o 0)), (1, .int (nI v))]) F.x F.b dJ5_append_c97b9_4 rfl hl (by decide) rfl (fun ls hl => ?_)
    refine lv_iload_n F.x F.b dJ5_append_c97b9_5 rfl (lv_at hl 0 rfl) ?_
    refine lv_iload_n F.x F.b dJ5_append_c97b9_6 rfl (lv_at hl 2 rfl) ?_
    refine kSBi F w (LC := []) (LR := [[((o 0), .inr (1, [.ref va, .int 0, .int mb, .int (nI n)]))], [(va, .inl (G.2.1 3, cp, .inl f))]]) (As := [.int (nI v)]) (rest := [.int (nI n)]) (t_J6_stringSize_0f7a4_2 F.1 hv h10) m_J6_stringSize_0f7a4 v_J6_stringSize_0f7a4 (List.mem_of_getElem? (i := 918) (by decide +kernel)) 2 [0, 1] rfl rfl rfl ⟨Nat.le_of_ble_eq_true rfl, Nat.le_of_ble_eq_true rfl⟩ rfl hl.1 rfl (Nat.le_of_ble_eq_true rfl) dJ5_append_c97b9_7 ⟨Nat.le_of_ble_eq_true rfl, Nat.le_of_ble_eq_true rfl⟩ (fun H locs w => ?_)
    have w : Wd G A s.heap (fl [[((o 0), .inr (1, [.ref va, .int 0, .int mb, .int (nI n)]))], [(va, .inl (G.2.1 3, cp, .inl f))]]) _ _ := w
    refine lv_iadd F.x F.b dJ5_append_c97b9_10 ?_
    rw [show (((nI n) + 2) : Int32) = (nI (n + 2)) from (nI_add n 2)]
    refine lv_istore_n (lv' := [(3, .int (nI (n + 2))), (2, .int (nI n)), (0, .ref (o 0)), (1, .int (nI v))]) F.x F.b dJ5_append_c97b9_11 rfl hl (by decide) rfl (fun ls hl => ?_)
    refine lv_aload_n F.x F.b dJ5_append_c97b9_12 rfl (lv_at hl 2 rfl) ?_
    refine lv_iload_n F.x F.b dJ5_append_c97b9_13 rfl (lv_at hl 0 rfl) ?_
    refine kUn F w (LC := [[((o 0), .inr (1, [.ref va, .int 0, .int mb, .int (nI n)]))], [(va, .inl (G.2.1 3, cp, .inl f))]]) (LR := []) (As := [.int (nI (n + 2))]) (rest := []) (t_J5_ensureCapacityInternal_d00df F.1 (q := n + 2) (mm := cp) (gm := 0) (gs := 0) pv hc35 hq2 hf) m_J5_ensureCapacityInternal_d00df (List.mem_of_getElem? (i := 808) (by decide +kernel)) (List.mem_of_getElem? (i := 806) (by decide +kernel)) (List.mem_of_getElem? (i := 1514) (by decide +kernel)) (ci := 1) (q0 := 0) rfl rfl (F.pv pv args).1 2 [0, 1] rfl rfl rfl ⟨Nat.le_of_ble_eq_true rfl, Nat.le_of_ble_eq_true rfl⟩ rfl hl.1 rfl (Nat.le_of_ble_eq_true rfl) dJ5_append_c97b9_14 ⟨Nat.le_of_ble_eq_true rfl, Nat.le_of_ble_eq_true rfl⟩ (fun w1 H locs h9 w => ?_)
    obtain ⟨va', f', h9, hk⟩ := h9
    have w := w.jn (L1 := [[((o 0), .inr (1, [.ref va', .int 0, .int mb, .int (nI n)]))], [(va', .inl (G.2.1 3, cp, .inl f'))]]) (L' := [[((o 0), .inr (1, [.ref va', .int 0, .int mb, .int (nI n)]))], [(va', .inl (G.2.1 3, cp, .inl f'))]]) h9 2 [0, 1] rfl rfl rfl
    have w : Wd G A s.heap (fl [[((o 0), .inr (1, [.ref va', .int 0, .int mb, .int (nI n)]))], [(va', .inl (G.2.1 3, cp, .inl f'))]]) _ _ := w
    refine lv_aload_n F.x F.b dJ5_append_c97b9_17 rfl (lv_at hl 2 rfl) ?_
    refine kUi F w (LC := [[((o 0), .inr (1, [.ref va', .int 0, .int mb, .int (nI n)]))], [(va', .inl (G.2.1 3, cp, .inl f'))]]) (LR := []) (As := []) (rest := []) (t_J5_isLatin1_aae02 F.1 (o := o) (va := va') (cp := cp) (n := n) (mb := mb) (f := f') hSG) m_J5_isLatin1_aae02 (List.mem_of_getElem? (i := 838) (by decide +kernel)) (List.mem_of_getElem? (i := 837) (by decide +kernel)) (List.mem_of_getElem? (i := 839) (by decide +kernel)) (ci := 1) (q0 := 0) rfl rfl (F.t _ (List.mem_of_getElem? (i := 840) (by decide +kernel)) rfl args) 2 [0, 1] rfl rfl rfl ⟨Nat.le_of_ble_eq_true rfl, Nat.le_of_ble_eq_true rfl⟩ rfl hl.1 rfl (Nat.le_of_ble_eq_true rfl) dJ5_append_c97b9_18 ⟨Nat.le_of_ble_eq_true rfl, Nat.le_of_ble_eq_true rfl⟩ (fun H locs w => ?_)
    have w := w.jn (L1 := [[((o 0), .inr (1, [.ref va', .int 0, .int mb, .int (nI n)]))], [(va', .inl (G.2.1 3, cp, .inl f'))]]) (L' := [[((o 0), .inr (1, [.ref va', .int 0, .int mb, .int (nI n)]))], [(va', .inl (G.2.1 3, cp, .inl f'))]]) rfl 2 [0, 1] rfl rfl rfl
    have w : Wd G A s.heap (fl [[((o 0), .inr (1, [.ref va', .int 0, .int mb, .int (nI n)]))], [(va', .inl (G.2.1 3, cp, .inl f'))]]) _ _ := w
    refine lv_if_eq (tgt := 37) F.x F.b dJ5_append_c97b9_21 (by decide) (fun c9 => absurd c9 (by decide)) (fun _ => ?_)
    refine lv_iload_n F.x F.b dJ5_append_c97b9_24 rfl (lv_at hl 3 rfl) ?_
    refine lv_iload_n F.x F.b dJ5_append_c97b9_25 rfl (lv_at hl 0 rfl) ?_
    refine lv_aload_n F.x F.b dJ5_append_c97b9_26 rfl (lv_at hl 2 rfl) ?_
    refine rg F w clB 0 rfl 0 (by decide) q245 rfl (v := .ref va') rfl dJ5_append_c97b9_27 ?_
    refine kSBi F w (LC := [[(va', .inl (G.2.1 3, cp, .inl f'))]]) (LR := [[((o 0), .inr (1, [.ref va', .int 0, .int mb, .int (nI n)]))]]) (As := [.int (nI v), .int (nI (n + 2)), .ref va']) (rest := []) (t_J6_getChars_ba4f3_2 F.1 (v := v) (q := n) (va := va') (cp := cp) (f := f') hD hv h10 (by omega) hc35) m_J6_getChars_ba4f3 v_J6_getChars_ba4f3 (List.mem_of_getElem? (i := 921) (by decide +kernel)) 2 [1, 0] rfl rfl rfl ⟨Nat.le_of_ble_eq_true rfl, Nat.le_of_ble_eq_true rfl⟩ rfl hl.1 rfl (Nat.le_of_ble_eq_true rfl) dJ5_append_c97b9_30 ⟨Nat.le_of_ble_eq_true rfl, Nat.le_of_ble_eq_true rfl⟩ (fun H locs w => ?_)
    have w := w.jn (L1 := [[(va', .inl (G.2.1 3, cp, .inl (upd (upd f' (Int32.toNatClampNeg (nI (n + 1))) (vp_nar .byte (nI (48 + v % 10)))) (Int32.toNatClampNeg (nI n)) (vp_nar .byte (nI (48 + v / 10))))))]]) (L' := [[((o 0), .inr (1, [.ref va', .int 0, .int mb, .int (nI n)]))], [(va', .inl (G.2.1 3, cp, .inl (upd (upd f' (Int32.toNatClampNeg (nI (n + 1))) (vp_nar .byte (nI (48 + v % 10)))) (Int32.toNatClampNeg (nI n)) (vp_nar .byte (nI (48 + v / 10))))))]]) rfl 2 [1, 0] rfl rfl rfl
    have w : Wd G A s.heap (fl [[((o 0), .inr (1, [.ref va', .int 0, .int mb, .int (nI n)]))], [(va', .inl (G.2.1 3, cp, .inl (upd (upd f' (Int32.toNatClampNeg (nI (n + 1))) (vp_nar .byte (nI (48 + v % 10)))) (Int32.toNatClampNeg (nI n)) (vp_nar .byte (nI (48 + v / 10))))))]]) _ _ := w
    refine lv_pop F.x F.b dJ5_append_c97b9_33 rfl ?_
    refine lv_goto (tgt := 48) F.x F.b dJ5_append_c97b9_34 (by decide) ?_
    refine lv_aload_n F.x F.b dJ5_append_c97b9_48 rfl (lv_at hl 2 rfl) ?_
    refine lv_iload_n F.x F.b dJ5_append_c97b9_49 rfl (lv_at hl 0 rfl) ?_
    refine rp F w (ws' := fl [[((o 0), .inr (1, [.ref va', .int 0, .int mb, .int (nI (n + 2))]))], [(va', .inl (G.2.1 3, cp, .inl (upd (upd f' (Int32.toNatClampNeg (nI (n + 1))) (vp_nar .byte (nI (48 + v % 10)))) (Int32.toNatClampNeg (nI n)) (vp_nar .byte (nI (48 + v / 10))))))]]) clB 0 rfl 3 (by decide) q249 rfl rfl rfl rfl (Nat.le_of_ble_eq_true rfl) rfl dJ5_append_c97b9_50 (fun H locs w => ?_)
    refine lv_aload_n F.x F.b dJ5_append_c97b9_53 rfl (lv_at hl 2 rfl) ?_
    exact eRm F w (Or.inl hr) hlocks ⟨rfl, va', _, _, rfl, Tx_num2 hT hn hv h10 hk⟩ (Nat.le_of_ble_eq_true rfl) (Nat.le_of_ble_eq_true rfl) dJ5_append_c97b9_54
set_option maxRecDepth 100000 in
set_option maxHeartbeats 4000000 in
theorem t_J4_append_bf812 {G : cG} (g : GOK G) {o : Nat → Nat} {va cp n v : Nat} {mb : Int32} {f : Nat → Int32} {L : List Nat} {ks kv : Nat → Nat} {d1 d2 : Nat} (hSG : SG G ks kv) (hD : DGs G d1 d2) (pv : PV G) (hT : Tx (va, cp, n, mb, f) L) (hv : v < 100) (hn : n + 2 ≤ cp) : CRm G yJ4_append_bf812 cJ4_append_bf812 2 (.object "java/lang/StringBuilder") 5 127 0 0 [.ref (o 0), .int (nI v)] (fl [wSb G.2.1 o (va, cp, n, mb, f)]) (fun a9 w' => a9 = o 0 ∧ ∃ va' n' f', w' = fl [wSb G.2.1 o (va', cp, n', mb, f')] ∧ Tx (va', cp, n', mb, f') (L ++ dgN v)) := by
  refine CRm.of g (by decide) rfl (Nat.le_of_ble_eq_true rfl) ?_
  intro p l e s m below meth c A ls F hr hlocks w hl
  generalize ([.ref (o 0), .int (nI v)] : List Value).toArray = args
  have hl : lv_has ls 2 [(0, .ref (o 0)), (1, .int (nI v))] := hl
  have w : Wd G A s.heap (fl [wSb G.2.1 o (va, cp, n, mb, f)]) _ _ := w
  have w : Wd G A s.heap (fl [[((o 0), .inr (1, [.ref va, .int 0, .int mb, .int (nI n)]))], [(va, .inl (G.2.1 3, cp, .inl f))]]) _ _ := w
  refine lv_aload_n F.x F.b dJ4_append_bf812_0 rfl (lv_at hl 0 rfl) ?_
  refine lv_iload_n F.x F.b dJ4_append_bf812_1 rfl (lv_at hl 1 rfl) ?_
  refine kSUr F w (LC := [[((o 0), .inr (1, [.ref va, .int 0, .int mb, .int (nI n)]))], [(va, .inl (G.2.1 3, cp, .inl f))]]) (LR := []) (As := [.int (nI v)]) (rest := []) (t_J5_append_c97b9 F.1 hSG hD pv hT hv hn) m_J5_append_c97b9 (List.mem_of_getElem? (i := 916) (by decide +kernel)) (List.mem_of_getElem? (i := 915) (by decide +kernel)) (List.mem_of_getElem? (i := 1519) (by decide +kernel)) (List.mem_of_getElem? (i := 258) (by decide +kernel)) (by decide) (ci := 1) (q0 := 0) rfl rfl 2 [0, 1] rfl rfl rfl ⟨Nat.le_of_ble_eq_true rfl, Nat.le_of_ble_eq_true rfl⟩ rfl hl.1 rfl (Nat.le_of_ble_eq_true rfl) dJ4_append_bf812_2 ⟨Nat.le_of_ble_eq_true rfl, Nat.le_of_ble_eq_true rfl⟩ (fun a9 w1 H locs h9 w => ?_)
  obtain ⟨rfl, va', n', f', rfl, hT2⟩ := h9
  have w := w.jn (L1 := [[((o 0), .inr (1, [.ref va', .int 0, .int mb, .int (nI n')]))], [(va', .inl (G.2.1 3, cp, .inl f'))]]) (L' := [[((o 0), .inr (1, [.ref va', .int 0, .int mb, .int (nI n')]))], [(va', .inl (G.2.1 3, cp, .inl f'))]]) rfl 2 [0, 1] rfl rfl rfl
  have w : Wd G A s.heap (fl [[((o 0), .inr (1, [.ref va', .int 0, .int mb, .int (nI n')]))], [(va', .inl (G.2.1 3, cp, .inl f'))]]) _ _ := w
  refine lv_pop F.x F.b dJ4_append_bf812_5 rfl ?_
  refine lv_aload_n F.x F.b dJ4_append_bf812_6 rfl (lv_at hl 0 rfl) ?_
  exact eRm F w (Or.inl hr) hlocks ⟨rfl, va', n', f', rfl, hT2⟩ (Nat.le_of_ble_eq_true rfl) (Nat.le_of_ble_eq_true rfl) dJ4_append_bf812_7
set_option maxRecDepth 100000 in
set_option maxHeartbeats 4000000 in
theorem t_J5_setLength_d00df {G : cG} (g : GOK G) {o : Nat → Nat} {va cp n : Nat} {mb : Int32} {f : Nat → Int32} {L : List Nat} (pv : PV G) (hT : Tx (va, cp, n, mb, f) L) : CN G yJ5_setLength_d00df cJ5_setLength_d00df 2 4 104 0 0 [.ref (o 0), .int 0] (fl [wSb G.2.1 o (va, cp, n, mb, f)]) (fun w' => ∃ va' mb' f', w' = fl [wSb G.2.1 o (va', cp, 0, mb', f')]) := by
  have hf : ∀ i, i < n → ∃ ch, ch < 128 ∧ f i = nI ch := hT.fz
  have hc35 : cp < 35 := hT.c35
  have hn35 : n < 35 := hT.n35
  have hq2 : (0 ≤ cp ∧ cp = cp) ∨ (cp = 16 ∧ 0 = 17 ∧ n = 16 ∧ 1 ≤ 0 ∧ 34 ≤ 0 ∧ 34 = cp) := Or.inl ⟨Nat.zero_le _, rfl⟩
  refine CN.of g (by decide) rfl (Nat.le_of_ble_eq_true rfl) ?_
  intro p l e s m below meth c A ls hnm F hr hlocks w hl
  generalize ([.ref (o 0), .int 0] : List Value).toArray = args
  have hl : lv_has ls 2 [(0, .ref (o 0)), (1, .int 0)] := hl
  have w : Wd G A s.heap (fl [wSb G.2.1 o (va, cp, n, mb, f)]) _ _ := w
  have w : Wd G A s.heap (fl [[((o 0), .inr (1, [.ref va, .int 0, .int mb, .int (nI n)]))], [(va, .inl (G.2.1 3, cp, .inl f))]]) _ _ := w
  refine lv_iload_n F.x F.b dJ5_setLength_d00df_0 rfl (lv_at hl 1 rfl) ?_
  refine lv_if_ge (tgt := 13) F.x F.b dJ5_setLength_d00df_1 (by decide) (fun _ => ?_) (fun c9 => absurd (by decide) c9)
  refine lv_aload_n F.x F.b dJ5_setLength_d00df_13 rfl (lv_at hl 0 rfl) ?_
  refine lv_iload_n F.x F.b dJ5_setLength_d00df_14 rfl (lv_at hl 1 rfl) ?_
  refine kUn F w (LC := [[((o 0), .inr (1, [.ref va, .int 0, .int mb, .int (nI n)]))], [(va, .inl (G.2.1 3, cp, .inl f))]]) (LR := []) (As := [.int (nI 0)]) (rest := []) (t_J5_ensureCapacityInternal_d00df F.1 (q := 0) (mm := cp) (gm := 0) (gs := 0) pv hc35 hq2 hf) m_J5_ensureCapacityInternal_d00df (List.mem_of_getElem? (i := 808) (by decide +kernel)) (List.mem_of_getElem? (i := 806) (by decide +kernel)) (List.mem_of_getElem? (i := 1514) (by decide +kernel)) (ci := 1) (q0 := 0) rfl rfl (F.pv pv args).1 2 [0, 1] rfl rfl rfl ⟨Nat.le_of_ble_eq_true rfl, Nat.le_of_ble_eq_true rfl⟩ rfl hl.1 rfl (Nat.le_of_ble_eq_true rfl) dJ5_setLength_d00df_15 ⟨Nat.le_of_ble_eq_true rfl, Nat.le_of_ble_eq_true rfl⟩ (fun w1 H locs h9 w => ?_)
  obtain ⟨va', f', h9, hk⟩ := h9
  have w := w.jn (L1 := [[((o 0), .inr (1, [.ref va', .int 0, .int mb, .int (nI n)]))], [(va', .inl (G.2.1 3, cp, .inl f'))]]) (L' := [[((o 0), .inr (1, [.ref va', .int 0, .int mb, .int (nI n)]))], [(va', .inl (G.2.1 3, cp, .inl f'))]]) h9 2 [0, 1] rfl rfl rfl
  have w : Wd G A s.heap (fl [[((o 0), .inr (1, [.ref va', .int 0, .int mb, .int (nI n)]))], [(va', .inl (G.2.1 3, cp, .inl f'))]]) _ _ := w
  refine lv_aload_n F.x F.b dJ5_setLength_d00df_18 rfl (lv_at hl 0 rfl) ?_
  refine rg F w clB 0 rfl 3 (by decide) q249 rfl (v := .int (nI n)) rfl dJ5_setLength_d00df_19 ?_
  refine lv_iload_n F.x F.b dJ5_setLength_d00df_22 rfl (lv_at hl 1 rfl) ?_
  refine lv_icmp_ge (tgt := 63) F.x F.b dJ5_setLength_d00df_23 (by decide) (fun _ => ?_) (fun c9 => absurd (nI_pos' (n := n) (by omega)) c9)
  refine lv_aload_n F.x F.b dJ5_setLength_d00df_63 rfl (lv_at hl 0 rfl) ?_
  refine rg F w clB 0 rfl 3 (by decide) q249 rfl (v := .int (nI n)) rfl dJ5_setLength_d00df_64 ?_
  refine lv_iload_n F.x F.b dJ5_setLength_d00df_67 rfl (lv_at hl 1 rfl) ?_
  by_cases hn0 : n = 0
  · refine lv_icmp_le (tgt := 76) F.x F.b dJ5_setLength_d00df_68 (by decide) (fun _ => ?_) (fun c9 => absurd (show nI n ≤ 0 by rw [hn0]; decide) c9)
    refine lv_aload_n F.x F.b dJ5_setLength_d00df_76 rfl (lv_at hl 0 rfl) ?_
    refine lv_iload_n F.x F.b dJ5_setLength_d00df_77 rfl (lv_at hl 1 rfl) ?_
    refine rp F w (ws' := fl [[((o 0), .inr (1, [.ref va', .int 0, .int mb, .int 0]))], [(va', .inl (G.2.1 3, cp, .inl f'))]]) clB 0 rfl 3 (by decide) q249 rfl rfl rfl rfl (Nat.le_of_ble_eq_true rfl) rfl dJ5_setLength_d00df_78 (fun H locs w => ?_)
    exact evN F w hr hlocks ⟨va', _, f', rfl⟩ (Nat.le_of_ble_eq_true rfl) (Nat.le_of_ble_eq_true rfl) dJ5_setLength_d00df_81
  · refine lv_icmp_le (tgt := 76) F.x F.b dJ5_setLength_d00df_68 (by decide) (fun c9 => absurd c9 (nI_nle (n := n) (by omega) (by omega))) (fun _ => ?_)
    refine lv_aload_n F.x F.b dJ5_setLength_d00df_71 rfl (lv_at hl 0 rfl) ?_
    refine lv_iconst (v := 1) F.x F.b dJ5_setLength_d00df_72 (by decide) ?_
    refine rp F w (ws' := fl [[((o 0), .inr (1, [.ref va', .int 0, .int 1, .int (nI n)]))], [(va', .inl (G.2.1 3, cp, .inl f'))]]) clB 0 rfl 2 (by decide) q247 rfl rfl rfl rfl (Nat.le_of_ble_eq_true rfl) rfl dJ5_setLength_d00df_73 (fun H locs w => ?_)
    refine lv_aload_n F.x F.b dJ5_setLength_d00df_76 rfl (lv_at hl 0 rfl) ?_
    refine lv_iload_n F.x F.b dJ5_setLength_d00df_77 rfl (lv_at hl 1 rfl) ?_
    refine rp F w (ws' := fl [[((o 0), .inr (1, [.ref va', .int 0, .int 1, .int 0]))], [(va', .inl (G.2.1 3, cp, .inl f'))]]) clB 0 rfl 3 (by decide) q249 rfl rfl rfl rfl (Nat.le_of_ble_eq_true rfl) rfl dJ5_setLength_d00df_78 (fun H locs w => ?_)
    exact evN F w hr hlocks ⟨va', _, f', rfl⟩ (Nat.le_of_ble_eq_true rfl) (Nat.le_of_ble_eq_true rfl) dJ5_setLength_d00df_81
set_option maxRecDepth 100000 in
set_option maxHeartbeats 4000000 in
theorem t_J4_setLength_d00df {G : cG} (g : GOK G) {o : Nat → Nat} {va cp n : Nat} {mb : Int32} {f : Nat → Int32} {L : List Nat} (pv : PV G) (hT : Tx (va, cp, n, mb, f) L) : CN G yJ4_setLength_d00df cJ4_setLength_d00df 2 5 125 0 0 [.ref (o 0), .int 0] (fl [wSb G.2.1 o (va, cp, n, mb, f)]) (fun w' => ∃ va' mb' f', w' = fl [wSb G.2.1 o (va', cp, 0, mb', f')]) := by
  refine CN.of g (by decide) rfl (Nat.le_of_ble_eq_true rfl) ?_
  intro p l e s m below meth c A ls hnm F hr hlocks w hl
  generalize ([.ref (o 0), .int 0] : List Value).toArray = args
  have hl : lv_has ls 2 [(0, .ref (o 0)), (1, .int 0)] := hl
  have w : Wd G A s.heap (fl [wSb G.2.1 o (va, cp, n, mb, f)]) _ _ := w
  have w : Wd G A s.heap (fl [[((o 0), .inr (1, [.ref va, .int 0, .int mb, .int (nI n)]))], [(va, .inl (G.2.1 3, cp, .inl f))]]) _ _ := w
  refine lv_aload_n F.x F.b dJ4_setLength_d00df_0 rfl (lv_at hl 0 rfl) ?_
  refine lv_iload_n F.x F.b dJ4_setLength_d00df_1 rfl (lv_at hl 1 rfl) ?_
  refine kSUn F w (LC := [[((o 0), .inr (1, [.ref va, .int 0, .int mb, .int (nI n)]))], [(va, .inl (G.2.1 3, cp, .inl f))]]) (LR := []) (As := [.int 0]) (rest := []) (t_J5_setLength_d00df F.1 pv hT) m_J5_setLength_d00df (List.mem_of_getElem? (i := 1188) (by decide +kernel)) (List.mem_of_getElem? (i := 1187) (by decide +kernel)) (List.mem_of_getElem? (i := 1520) (by decide +kernel)) (List.mem_of_getElem? (i := 258) (by decide +kernel)) (by decide) (ci := 1) (q0 := 0) rfl rfl 2 [0, 1] rfl rfl rfl ⟨Nat.le_of_ble_eq_true rfl, Nat.le_of_ble_eq_true rfl⟩ rfl hl.1 rfl (Nat.le_of_ble_eq_true rfl) dJ4_setLength_d00df_2 ⟨Nat.le_of_ble_eq_true rfl, Nat.le_of_ble_eq_true rfl⟩ (fun w1 H locs h9 w => ?_)
  obtain ⟨va', mb', f', h9⟩ := h9
  have w := w.jn (L1 := [[((o 0), .inr (1, [.ref va', .int 0, .int mb', .int (nI 0)]))], [(va', .inl (G.2.1 3, cp, .inl f'))]]) (L' := [[((o 0), .inr (1, [.ref va', .int 0, .int mb', .int (nI 0)]))], [(va', .inl (G.2.1 3, cp, .inl f'))]]) h9 2 [0, 1] rfl rfl rfl
  exact evN F w hr hlocks ⟨va', mb', f', rfl⟩ (Nat.le_of_ble_eq_true rfl) (Nat.le_of_ble_eq_true rfl) dJ4_setLength_d00df_5
set_option maxRecDepth 100000 in
set_option maxHeartbeats 4000000 in
theorem t_J4_length_8abf5 {G : cG} (g : GOK G) {o : Nat → Nat} {va cp n : Nat} {mb : Int32} {f : Nat → Int32} : CI G yJ4_length_8abf5 cJ4_length_8abf5 1 .int 1 20 [.ref (o 0)] (fl [wSb G.2.1 o (va, cp, n, mb, f)]) (fl [wSb G.2.1 o (va, cp, n, mb, f)]) (nI n) := by
  refine CI.of g (by decide) rfl (Nat.le_of_ble_eq_true rfl) ?_
  intro p l e s m below meth c A ls F hr hlocks w hl
  generalize ([.ref (o 0)] : List Value).toArray = args
  have hl : lv_has ls 1 [(0, .ref (o 0))] := hl
  have w : Wd G A s.heap (fl [wSb G.2.1 o (va, cp, n, mb, f)]) _ _ := w
  have w : Wd G A s.heap (fl [[((o 0), .inr (1, [.ref va, .int 0, .int mb, .int (nI n)]))], [(va, .inl (G.2.1 3, cp, .inl f))]]) _ _ := w
  refine lv_aload_n F.x F.b dJ4_length_8abf5_0 rfl (lv_at hl 0 rfl) ?_
  refine kSUi F w (LC := [[((o 0), .inr (1, [.ref va, .int 0, .int mb, .int (nI n)]))], [(va, .inl (G.2.1 3, cp, .inl f))]]) (LR := []) (As := []) (rest := []) (t_J5_length_8abf5 F.1 (o := o) (va := va) (cp := cp) (n := n) (mb := mb) (f := f)) m_J5_length_8abf5 (List.mem_of_getElem? (i := 955) (by decide +kernel)) (List.mem_of_getElem? (i := 960) (by decide +kernel)) (List.mem_of_getElem? (i := 956) (by decide +kernel)) (List.mem_of_getElem? (i := 258) (by decide +kernel)) (by decide) (ci := 1) (q0 := 0) rfl rfl 2 [0, 1] rfl rfl rfl ⟨Nat.le_of_ble_eq_true rfl, Nat.le_of_ble_eq_true rfl⟩ rfl hl.1 rfl (Nat.le_of_ble_eq_true rfl) dJ4_length_8abf5_1 ⟨Nat.le_of_ble_eq_true rfl, Nat.le_of_ble_eq_true rfl⟩ (fun H locs w => ?_)
  have w := w.jn (L1 := [[((o 0), .inr (1, [.ref va, .int 0, .int mb, .int (nI n)]))], [(va, .inl (G.2.1 3, cp, .inl f))]]) (L' := [[((o 0), .inr (1, [.ref va, .int 0, .int mb, .int (nI n)]))], [(va, .inl (G.2.1 3, cp, .inl f))]]) rfl 2 [0, 1] rfl rfl rfl
  have w : Wd G A s.heap (fl [[((o 0), .inr (1, [.ref va, .int 0, .int mb, .int (nI n)]))], [(va, .inl (G.2.1 3, cp, .inl f))]]) _ _ := w
  exact ei F w hr hlocks rfl rfl rfl dJ4_length_8abf5_4
set_option maxRecDepth 100000 in
set_option maxHeartbeats 4000000 in
theorem t_J5_charAt_5068e {G : cG} (g : GOK G) {o : Nat → Nat} {va cp n i ch : Nat} {mb : Int32} {f : Nat → Int32} {ks kv : Nat → Nat} (hSG : SG G ks kv) (hi : i < n) (hnc : n ≤ cp) (hc35 : cp < 35) (hch : ch < 128) (hfi : f i = nI ch) : CI G yJ5_charAt_5068e cJ5_charAt_5068e 5 .char 2 43 [.ref (o 0), .int (nI i)] (fl [wSb G.2.1 o (va, cp, n, mb, f)]) (fl [wSb G.2.1 o (va, cp, n, mb, f)]) (nI ch) := by
  refine CI.of g (by decide) rfl (Nat.le_of_ble_eq_true rfl) ?_
  intro p l e s m below meth c A ls F hr hlocks w hl
  generalize ([.ref (o 0), .int (nI i)] : List Value).toArray = args
  have hl : lv_has ls 5 [(0, .ref (o 0)), (1, .int (nI i))] := hl
  have w : Wd G A s.heap (fl [wSb G.2.1 o (va, cp, n, mb, f)]) _ _ := w
  have w : Wd G A s.heap (fl [[((o 0), .inr (1, [.ref va, .int 0, .int mb, .int (nI n)]))], [(va, .inl (G.2.1 3, cp, .inl f))]]) _ _ := w
  refine lv_aload_n F.x F.b dJ5_charAt_5068e_0 rfl (lv_at hl 0 rfl) ?_
  refine rg F w clB 0 rfl 1 (by decide) q246 rfl (v := .int 0) rfl dJ5_charAt_5068e_1 ?_
  refine lv_istore_n (lv' := [(2, .int 0), (0, .ref (o 0)), (1, .int (nI i))]) F.x F.b dJ5_charAt_5068e_4 rfl hl (by decide) rfl (fun ls hl => ?_)
  refine lv_aload_n F.x F.b dJ5_charAt_5068e_5 rfl (lv_at hl 1 rfl) ?_
  refine rg F w clB 0 rfl 0 (by decide) q245 rfl (v := .ref va) rfl dJ5_charAt_5068e_6 ?_
  refine lv_astore_n (lv' := [(3, .ref va), (2, .int 0), (0, .ref (o 0)), (1, .int (nI i))]) F.x F.b dJ5_charAt_5068e_9 rfl hl (by decide) rfl (fun ls hl => ?_)
  refine lv_aload_n F.x F.b dJ5_charAt_5068e_10 rfl (lv_at hl 2 rfl) ?_
  refine rg F w clB 0 rfl 3 (by decide) q249 rfl (v := .int (nI n)) rfl dJ5_charAt_5068e_11 ?_
  refine lv_aload_n F.x F.b dJ5_charAt_5068e_14 rfl (lv_at hl 0 rfl) ?_
  refine rl F w 1 3 rfl rfl (v := (nI cp)) rfl dJ5_charAt_5068e_15 ?_
  refine lv_iload_n F.x F.b dJ5_charAt_5068e_16 rfl (lv_at hl 1 rfl) ?_
  refine lv_ishr F.x F.b dJ5_charAt_5068e_17 ?_
  rw [sb_shr0]
  refine va_mmin F.x F.b (F.ml.trans hl.1.symm) F.o (F.t _ (List.mem_of_getElem? (i := 1265) (by decide +kernel)) rfl _) (F.t _ (List.mem_of_getElem? (i := 344) (by decide +kernel)) rfl _) (F.t _ (List.mem_of_getElem? (i := 34) (by decide +kernel)) rfl _) (F.t _ (List.mem_of_getElem? (i := 345) (by decide +kernel)) rfl _) (by decide) (Nat.le_of_ble_eq_true rfl) (Nat.le_of_ble_eq_true rfl) (Nat.le_of_ble_eq_true rfl) dJ5_charAt_5068e_18 ?_
  rw [show (if ((nI cp) : Int32) < (nI n) then (nI cp) else (nI n) : Int32) = (nI n) from (if_neg (nI_nlt (a := cp) (b := n) hnc (by omega)))]
  refine lv_istore (lv' := [(4, .int (nI n)), (3, .ref va), (2, .int 0), (0, .ref (o 0)), (1, .int (nI i))]) F.x F.b dJ5_charAt_5068e_21 hl (by decide) rfl (fun ls hl => ?_)
  refine lv_iload_n F.x F.b dJ5_charAt_5068e_23 rfl (lv_at hl 4 rfl) ?_
  refine lv_iload F.x F.b dJ5_charAt_5068e_24 (lv_at hl 0 rfl) ?_
  refine kSBn F w (LC := []) (LR := [[((o 0), .inr (1, [.ref va, .int 0, .int mb, .int (nI n)]))], [(va, .inl (G.2.1 3, cp, .inl f))]]) (As := [.int (nI i), .int (nI n)]) (rest := []) (t_J0_checkIndex F.1 hSG (nI_pos (n := i) (by omega)) (nI_lt (a := i) (b := n) hi (by omega))).toN m_J0_checkIndex_df160 v_J0_checkIndex_df160 (List.mem_of_getElem? (i := 1266) (by decide +kernel)) 2 [0, 1] rfl rfl rfl ⟨Nat.le_of_ble_eq_true rfl, Nat.le_of_ble_eq_true rfl⟩ rfl hl.1 rfl (Nat.le_of_ble_eq_true rfl) dJ5_charAt_5068e_26 ⟨Nat.le_of_ble_eq_true rfl, Nat.le_of_ble_eq_true rfl⟩ (fun w1 H locs h9 w => ?_)
  subst h9
  have w : Wd G A s.heap (fl [[((o 0), .inr (1, [.ref va, .int 0, .int mb, .int (nI n)]))], [(va, .inl (G.2.1 3, cp, .inl f))]]) _ _ := w
  refine lv_iload_n F.x F.b dJ5_charAt_5068e_29 rfl (lv_at hl 2 rfl) ?_
  refine lv_if_ne (tgt := 42) F.x F.b dJ5_charAt_5068e_30 (by decide) (fun c9 => absurd (by decide) c9) (fun _ => ?_)
  refine lv_aload_n F.x F.b dJ5_charAt_5068e_33 rfl (lv_at hl 1 rfl) ?_
  refine lv_iload_n F.x F.b dJ5_charAt_5068e_34 rfl (lv_at hl 4 rfl) ?_
  refine rbV F w 1 rfl (ib_nI (by omega) (by omega)) (v := nI ch) (by rw [nI_clamp (by omega)]; exact hfi) dJ5_charAt_5068e_35 ?_
  refine lv_sipush (v := 255) F.x F.b dJ5_charAt_5068e_36 (by decide) ?_
  refine lv_iand F.x F.b dJ5_charAt_5068e_39 ?_
  rw [show (((nI ch) &&& 255) : Int32) = (nI ch) from (ch_nar ch hch).2.2.1]
  refine lv_i2c (v := (nI ch)) F.x F.b dJ5_charAt_5068e_40 (ch_nar ch hch).2.2.2.1 ?_
  exact ei F w hr hlocks (ch_nar ch hch).2.2.2.2 rfl rfl dJ5_charAt_5068e_41
set_option maxRecDepth 100000 in
set_option maxHeartbeats 4000000 in
theorem t_J4_charAt_5068e {G : cG} (g : GOK G) {o : Nat → Nat} {va cp n i ch : Nat} {mb : Int32} {f : Nat → Int32} {ks kv : Nat → Nat} (hSG : SG G ks kv) (hi : i < n) (hnc : n ≤ cp) (hc35 : cp < 35) (hch : ch < 128) (hfi : f i = nI ch) : CI G yJ4_charAt_5068e cJ4_charAt_5068e 2 .char 3 67 [.ref (o 0), .int (nI i)] (fl [wSb G.2.1 o (va, cp, n, mb, f)]) (fl [wSb G.2.1 o (va, cp, n, mb, f)]) (nI ch) := by
  refine CI.of g (by decide) rfl (Nat.le_of_ble_eq_true rfl) ?_
  intro p l e s m below meth c A ls F hr hlocks w hl
  generalize ([.ref (o 0), .int (nI i)] : List Value).toArray = args
  have hl : lv_has ls 2 [(0, .ref (o 0)), (1, .int (nI i))] := hl
  have w : Wd G A s.heap (fl [wSb G.2.1 o (va, cp, n, mb, f)]) _ _ := w
  have w : Wd G A s.heap (fl [[((o 0), .inr (1, [.ref va, .int 0, .int mb, .int (nI n)]))], [(va, .inl (G.2.1 3, cp, .inl f))]]) _ _ := w
  refine lv_aload_n F.x F.b dJ4_charAt_5068e_0 rfl (lv_at hl 0 rfl) ?_
  refine lv_iload_n F.x F.b dJ4_charAt_5068e_1 rfl (lv_at hl 1 rfl) ?_
  refine kSUi F w (LC := [[((o 0), .inr (1, [.ref va, .int 0, .int mb, .int (nI n)]))], [(va, .inl (G.2.1 3, cp, .inl f))]]) (LR := []) (As := [.int (nI i)]) (rest := []) (t_J5_charAt_5068e F.1 (o := o) (va := va) (mb := mb) hSG hi hnc hc35 hch hfi) m_J5_charAt_5068e (List.mem_of_getElem? (i := 1263) (by decide +kernel)) (List.mem_of_getElem? (i := 1262) (by decide +kernel)) (List.mem_of_getElem? (i := 1523) (by decide +kernel)) (List.mem_of_getElem? (i := 258) (by decide +kernel)) (by decide) (ci := 1) (q0 := 0) rfl rfl 2 [0, 1] rfl rfl rfl ⟨Nat.le_of_ble_eq_true rfl, Nat.le_of_ble_eq_true rfl⟩ rfl hl.1 rfl (Nat.le_of_ble_eq_true rfl) dJ4_charAt_5068e_2 ⟨Nat.le_of_ble_eq_true rfl, Nat.le_of_ble_eq_true rfl⟩ (fun H locs w => ?_)
  have w := w.jn (L1 := [[((o 0), .inr (1, [.ref va, .int 0, .int mb, .int (nI n)]))], [(va, .inl (G.2.1 3, cp, .inl f))]]) (L' := [[((o 0), .inr (1, [.ref va, .int 0, .int mb, .int (nI n)]))], [(va, .inl (G.2.1 3, cp, .inl f))]]) rfl 2 [0, 1] rfl rfl rfl
  have w : Wd G A s.heap (fl [[((o 0), .inr (1, [.ref va, .int 0, .int mb, .int (nI n)]))], [(va, .inl (G.2.1 3, cp, .inl f))]]) _ _ := w
  exact ei F w hr hlocks (ch_nar ch hch).2.2.2.2 rfl rfl dJ4_charAt_5068e_5
set_option maxRecDepth 100000 in
set_option maxHeartbeats 4000000 in
theorem t_J5_init_d00df {G : cG} (g : GOK G) {o : Nat → Nat} {ks kv : Nat → Nat} (hSG : SG G ks kv) : CN G yJ5_init_d00df cJ5_init_d00df 2 1 12 1 16 [.ref (o 0), .int 16] (fl [[(o 0, .inr (1, [.null, .int 0, .int 0, .int 0]))]]) (fun w' => ∃ va', w' = fl [wSb G.2.1 o (va', 16, 0, 0, fun _ => 0)]) := by
  refine CN.of g (by decide) rfl (Nat.le_of_ble_eq_true rfl) ?_
  intro p l e s m below meth c A ls hnm F hr hlocks w hl
  generalize ([.ref (o 0), .int 16] : List Value).toArray = args
  have hl : lv_has ls 2 [(0, .ref (o 0)), (1, .int 16)] := hl
  have w : Wd G A s.heap (fl [[(o 0, .inr (1, [.null, .int 0, .int 0, .int 0]))]]) _ _ := w
  have w : Wd G A s.heap (fl [[((o 0), .inr (1, [.null, .int 0, .int 0, .int 0]))]]) _ _ := w
  refine lv_aload_n F.x F.b dJ5_init_d00df_0 rfl (lv_at hl 0 rfl) ?_
  refine roI F q235 (List.mem_of_getElem? (i := 51) (by decide +kernel)) (List.mem_of_getElem? (i := 52) (by decide +kernel)) (by decide +kernel) hl.1 ⟨Nat.le_of_ble_eq_true rfl, Nat.le_of_ble_eq_true rfl⟩ dJ5_init_d00df_1 ?_
  refine va_gets F.x F.b (F.cs hSG) w.2.2 F.o (F.t _ (List.mem_of_getElem? (i := 236) (by decide +kernel)) rfl _) (fun _ h => h) dJ5_init_d00df_4 ?_
  refine lv_if_eq (tgt := 25) F.x F.b dJ5_init_d00df_7 (by decide) (fun c9 => absurd c9 (by decide)) (fun _ => ?_)
  refine lv_aload_n F.x F.b dJ5_init_d00df_10 rfl (lv_at hl 0 rfl) ?_
  refine lv_iload_n F.x F.b dJ5_init_d00df_11 rfl (lv_at hl 1 rfl) ?_
  refine rnA F w (atype := .byte) (ty := .byte) 3 rfl (List.mem_of_getElem? (i := 259) (by decide +kernel)) (by decide +kernel) rfl (16, .inl (fun _ => 0)) (fun _ => rfl) (by decide) (N' := 16) (by decide) (Nat.le_of_ble_eq_true rfl) (Nat.le_of_ble_eq_true rfl) (Nat.le_of_ble_eq_true rfl) dJ5_init_d00df_12 (fun z1 H w => ?_)
  have w : Wd G A s.heap (fl [[((o 0), .inr (1, [.null, .int 0, .int 0, .int 0]))], [(z1, .inl (G.2.1 3, 16, .inl (fun _ => 0)))]]) _ _ := w
  refine rp F w (ws' := fl [[((o 0), .inr (1, [.ref z1, .int 0, .int 0, .int 0]))], [(z1, .inl (G.2.1 3, 16, .inl (fun _ => 0)))]]) clB 0 rfl 0 (by decide) q245 rfl rfl rfl rfl (Nat.le_of_ble_eq_true rfl) rfl dJ5_init_d00df_14 (fun H locs w => ?_)
  refine lv_aload_n F.x F.b dJ5_init_d00df_17 rfl (lv_at hl 0 rfl) ?_
  refine lv_iconst (v := 0) F.x F.b dJ5_init_d00df_18 (by decide) ?_
  refine rp F w (ws' := fl [[((o 0), .inr (1, [.ref z1, .int 0, .int 0, .int 0]))], [(z1, .inl (G.2.1 3, 16, .inl (fun _ => 0)))]]) clB 0 rfl 1 (by decide) q246 rfl rfl rfl rfl (Nat.le_of_ble_eq_true rfl) rfl dJ5_init_d00df_19 (fun H locs w => ?_)
  refine lv_goto (tgt := 38) F.x F.b dJ5_init_d00df_22 (by decide) ?_
  exact evN F w hr hlocks ⟨z1, rfl⟩ (Nat.le_of_ble_eq_true rfl) (Nat.le_of_ble_eq_true rfl) dJ5_init_d00df_38
set_option maxRecDepth 100000 in
set_option maxHeartbeats 4000000 in
theorem t_J4_init_da8c8 {G : cG} (g : GOK G) {o : Nat → Nat} {ks kv : Nat → Nat} (hSG : SG G ks kv) : CN G yJ4_init_da8c8 cJ4_init_da8c8 1 2 33 1 16 [.ref (o 0)] (fl [[(o 0, .inr (1, [.null, .int 0, .int 0, .int 0]))]]) (fun w' => ∃ va', w' = fl [wSb G.2.1 o (va', 16, 0, 0, fun _ => 0)]) := by
  refine CN.of g (by decide) rfl (Nat.le_of_ble_eq_true rfl) ?_
  intro p l e s m below meth c A ls hnm F hr hlocks w hl
  generalize ([.ref (o 0)] : List Value).toArray = args
  have hl : lv_has ls 1 [(0, .ref (o 0))] := hl
  have w : Wd G A s.heap (fl [[(o 0, .inr (1, [.null, .int 0, .int 0, .int 0]))]]) _ _ := w
  have w : Wd G A s.heap (fl [[((o 0), .inr (1, [.null, .int 0, .int 0, .int 0]))]]) _ _ := w
  refine lv_aload_n F.x F.b dJ4_init_da8c8_0 rfl (lv_at hl 0 rfl) ?_
  refine lv_bipush (v := 16) F.x F.b dJ4_init_da8c8_1 (by decide) ?_
  refine kCI F w (LC := [[((o 0), .inr (1, [.null, .int 0, .int 0, .int 0]))]]) (LR := []) (As := [.int 16]) (rest := []) (t_J5_init_d00df F.1 hSG) m_J5_init_d00df v_J5_init_d00df rfl q232 1 [0] rfl rfl rfl ⟨Nat.le_of_ble_eq_true rfl, Nat.le_of_ble_eq_true rfl⟩ rfl hl.1 rfl (Nat.le_of_ble_eq_true rfl) dJ4_init_da8c8_3 ⟨Nat.le_of_ble_eq_true rfl, Nat.le_of_ble_eq_true rfl⟩ (fun w1 H locs h9 w => ?_)
  obtain ⟨va', h9⟩ := h9
  have w := w.jn (L1 := [wSb G.2.1 o (va', 16, 0, 0, fun _ => 0)]) (L' := [wSb G.2.1 o (va', 16, 0, 0, fun _ => 0)]) h9 1 [0] rfl rfl rfl
  exact evN F w hr hlocks ⟨va', rfl⟩ (Nat.le_of_ble_eq_true rfl) (Nat.le_of_ble_eq_true rfl) dJ4_init_da8c8_6

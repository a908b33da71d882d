/-! TEXT CONSTANTS: the literals of the class' and of the model's texts; String.length and charAt over them -/
def bytS : List (List Int32) := [[108, 111, 116, 32, 37, 35, 42, 35, 64, 35], [115, 101, 97, 108, 32, 35], [111, 112, 101, 110, 32, 35], [119, 101, 116, 32, 35], [113, 117, 101, 117, 101, 32, 35], [114, 101, 108, 101, 97, 115, 101, 32, 35], [109, 111, 118, 101, 32, 35, 64, 35], [97, 117, 100, 105, 116], [115, 116, 101, 112, 32, 35, 61, 35], [98, 111, 110, 100, 32, 35], [100, 97, 121], [108, 111, 116, 32], [42], [64], [115, 116, 101, 112, 32], [61], [115, 101, 97, 108, 32], [111, 112, 101, 110, 32], [119, 101, 116, 32], [113, 117, 101, 117, 101, 32], [114, 101, 108, 101, 97, 115, 101, 32], [109, 111, 118, 101, 32], [98, 111, 110, 100, 32]]
def lenS : List Nat := bytS.map List.length
def refS : List (String × Nat × String × Nat) := [("CustomsShed$CommandText", 36, "lot %#*#@#", 0), ("CustomsShed$CommandText", 38, "seal #", 1), ("CustomsShed$CommandText", 40, "open #", 2), ("CustomsShed$CommandText", 42, "wet #", 3), ("CustomsShed$CommandText", 44, "queue #", 4), ("CustomsShed$CommandText", 46, "release #", 5), ("CustomsShed$CommandText", 48, "move #@#", 6), ("CustomsShed$CommandText", 50, "audit", 7), ("CustomsShed$CommandText", 52, "step #=#", 8), ("CustomsShed$CommandText", 54, "bond #", 9), ("CustomsShed$CommandText", 56, "day", 10)]
theorem lenS_ok : ∀ i, i < 11 → lenS.getD i 0 = (bytS.getD i []).length ∧ lenS.getD i 0 < 100 := by decide +kernel
theorem bytS_ok : ∀ i, i < 11 → ∀ k, k < lenS.getD i 0 → ((((bytS.getD i []).getD k 0) &&& 255).toUInt32 % 65536).toInt32 = (bytS.getD i []).getD k 0 := by decide +kernel
/-- what is known of the texts for ever -/
def SGF (G : cG) (ks kv : Nat → Nat) (U : State) (H : Heap) : Prop := vk_S 11 lenS bytS ks kv (fun q => G.2.2.1 ≤ q) U H ∧ va_Z "java/lang/String" "COMPACT_STRINGS" "Z" (.int 1) (fun q => G.2.2.1 ≤ q) U H ∧ va_Zq "jdk/internal/util/Preconditions" "SIOOBE_FORMATTER" "Ljava/util/function/BiFunction;" (fun q => G.2.2.1 ≤ q) U H ∧ ∀ r ∈ refS, vk_R r.1 r.2.1 r.2.2.1 (ks r.2.2.2) U
def SG (G : cG) (ks kv : Nat → Nat) : Prop := ∀ (U : State) (H : Heap), G.2.2.2 U H → SGF G ks kv U H
/-- length, and the letter at a place -/
def sLen (i : Nat) : Int32 := Int32.ofNat (lenS.getD i 0)
def sAt (i : Nat) (k : Int32) : Int32 := (bytS.getD i []).getD k.toNatClampNeg 0
theorem m_J0_isLatin1_aae02 : YM yJ0_isLatin1_aae02 cJ0_isLatin1_aae02 1 (some .boolean) 0 := ⟨⟨List.mem_of_getElem? (i := 1013) (by decide +kernel), by decide +kernel⟩, (List.mem_of_getElem? (i := 24) (by decide +kernel)), ⟨by decide, by decide⟩, by decide +kernel⟩
theorem v_J0_isLatin1_aae02 : YV yJ0_isLatin1_aae02 := ⟨(List.mem_of_getElem? (i := 1011) (by decide +kernel)), List.mem_of_getElem? (i := 1012) (by decide +kernel)⟩
theorem m_J0_coder_7d493 : YM yJ0_coder_7d493 cJ0_coder_7d493 1 (some .byte) 0 := ⟨⟨List.mem_of_getElem? (i := 875) (by decide +kernel), by decide +kernel⟩, (List.mem_of_getElem? (i := 24) (by decide +kernel)), ⟨by decide, by decide⟩, by decide +kernel⟩
theorem v_J0_coder_7d493 : YV yJ0_coder_7d493 := ⟨(List.mem_of_getElem? (i := 873) (by decide +kernel)), List.mem_of_getElem? (i := 874) (by decide +kernel)⟩
theorem m_J0_length_8abf5 : YM yJ0_length_8abf5 cJ0_length_8abf5 1 (some .int) 0 := ⟨⟨List.mem_of_getElem? (i := 871) (by decide +kernel), by decide +kernel⟩, (List.mem_of_getElem? (i := 24) (by decide +kernel)), ⟨by decide, by decide⟩, by decide +kernel⟩
theorem v_J0_length_8abf5 : YV yJ0_length_8abf5 := ⟨(List.mem_of_getElem? (i := 869) (by decide +kernel)), List.mem_of_getElem? (i := 870) (by decide +kernel)⟩
theorem m_J0_charAt_5068e : YM yJ0_charAt_5068e cJ0_charAt_5068e 2 (some .char) 1 := ⟨⟨List.mem_of_getElem? (i := 1009) (by decide +kernel), by decide +kernel⟩, (List.mem_of_getElem? (i := 24) (by decide +kernel)), ⟨by decide, by decide⟩, by decide +kernel⟩
theorem v_J0_charAt_5068e : YV yJ0_charAt_5068e := ⟨(List.mem_of_getElem? (i := 1007) (by decide +kernel)), List.mem_of_getElem? (i := 1008) (by decide +kernel)⟩
theorem m_J0_checkIndex_df160 : YM yJ0_checkIndex_df160 cJ0_checkIndex_df160 2 (none) 2 := ⟨⟨List.mem_of_getElem? (i := 1019) (by decide +kernel), by decide +kernel⟩, (List.mem_of_getElem? (i := 24) (by decide +kernel)), ⟨by decide, by decide⟩, by decide +kernel⟩
theorem v_J0_checkIndex_df160 : YS yJ0_checkIndex_df160 := (List.mem_of_getElem? (i := 1018) (by decide +kernel))
theorem m_J1_charAt_3b067 : YM yJ1_charAt_3b067 cJ1_charAt_3b067 2 (some .char) 2 := ⟨⟨List.mem_of_getElem? (i := 1016) (by decide +kernel), by decide +kernel⟩, (List.mem_of_getElem? (i := 38) (by decide +kernel)), ⟨by decide, by decide⟩, by decide +kernel⟩
theorem v_J1_charAt_3b067 : YS yJ1_charAt_3b067 := (List.mem_of_getElem? (i := 1015) (by decide +kernel))
theorem m_J3_checkIndex_8e157 : YM yJ3_checkIndex_8e157 cJ3_checkIndex_8e157 3 (some .int) 3 := ⟨⟨List.mem_of_getElem? (i := 1022) (by decide +kernel), by decide +kernel⟩, (List.mem_of_getElem? (i := 37) (by decide +kernel)), ⟨by decide, by decide⟩, by decide +kernel⟩
theorem v_J3_checkIndex_8e157 : YS yJ3_checkIndex_8e157 := (List.mem_of_getElem? (i := 1021) (by decide +kernel))
section STR
variable {G : cG} {p : Program} {l : Launch} {e : Env} {R : Room} {s : State} {m : MethodId} {args : Array Value} {below : List Frame} {meth : Method} {c : Code} {H : Heap} {locs : List Loc} {cells slots : Nat} {Q : State → Prop} {cc : ByteArray} {nL : Nat} {own : String} {A : Nat → Prop} {ws : va_W} {pc : Nat} {ls : Array Slot} {rest : List Value} {ks kv : Nat → Nat}
theorem Fx.sg (F : Fx G p s m c cc nL own A) (h : SG G ks kv) : SGF G ks kv s s.heap := h s s.heap F.2.2.2.2.2.1.2.2
theorem Fx.vk (F : Fx G p s m c cc nL own A) (h : SG G ks kv) : vk_S 11 lenS bytS ks kv A s s.heap := vk_S.narrow (F.sg h).1 (fun q hq => F.z q hq)
theorem Fx.cs (F : Fx G p s m c cc nL own A) (h : SG G ks kv) : va_Z "java/lang/String" "COMPACT_STRINGS" "Z" (.int 1) A s s.heap := va_Z.narrow (F.sg h).2.1 (fun q hq => F.z q hq)
theorem Fx.sf (F : Fx G p s m c cc nL own A) (h : SG G ks kv) : va_Zq "jdk/internal/util/Preconditions" "SIOOBE_FORMATTER" "Ljava/util/function/BiFunction;" A s s.heap := va_Zq.narrow (F.sg h).2.2.1 (fun q hq => F.z q hq)
theorem Fx.rf (F : Fx G p s m c cc nL own A) (h : SG G ks kv) {o : String} {k : Nat} {t : String} {i : Nat} (j : Nat) (hj : refS[j]? = some (o, k, t, i)) : vk_R o k t (ks i) s := (F.sg h).2.2.2 _ (List.mem_of_getElem? hj)
/-- CALL on a text constant, int answer -/
theorem kKi (F : Fx G p s m c cc nL own A) (w : Wd G A s.heap ws H locs) (h : SG G ks kv) {y : MethodName} {b : ByteArray} {n k idx fr lo i : Nat} {ret : FieldType} {As : List Value} {r : Int32} (hi : i < 11)
    (hc : CI G y b n ret fr lo (.ref (ks i) :: As) [] [] r) (Y : YM y b n (some ret) k) (V : YV y) (hl : Cond.methodLink own idx y ∈ lw_tbl) (hy : y.cls = "java/lang/String")
    (hRm : fr + 1 ≤ R.frames ∧ 8 + (n + 11) + lo ≤ R.locals) (hlen : As.length = k) (hls : ls.size = nL) {st0 : List Value} (hst : st0 = As.reverse ++ .ref (ks i) :: rest) (hrm : (rest.map fun v => v.category).sum ≤ 8) (hdg : decode cc pc = .ok (.invokevirtual idx, 3)) (hf : cells ≤ R.cells ∧ slots ≤ R.slots)
    (kk : ∀ (H1 : Heap) (locs1 : List Loc), Wd G A s.heap ws H1 locs1 → W p l e R s m args below meth c H1 locs1 cells slots Q (F0 m (pc + 3) ls (.int r :: rest))) : W p l e R s m args below meth c H locs cells slots Q (F0 m pc ls st0) := by
  subst hst
  have hFc : ∀ q, va_A [] H.size q → A q := fun q h => h.elim (fun ⟨k, e, h1⟩ => by simp at h1) (fun h1 => F.fA q (Nat.le_trans w.2.2.1 h1))
  refine va_calli (va_runV (As := As) (rest := rest) (nL := nL) (Ts := []) ⟨F.x, F.b, F.ml, F.o, fun _ h => nomatch h⟩ (hc l H.size) ⟨Y.B F.t (F.t _ hl rfl _) hRm, F.t _ V.1 rfl _, F.t _ V.2 rfl _⟩ ⟨fun a U g mk q => ⟨q.1, PreB.calling F.1 U g mk a q.2⟩, ?_, fun U hU hW => ⟨rfl, F.pre w [] rfl rfl hU hW⟩⟩ rfl hlen hls rfl (lv_room hrm) hdg ⟨hf.1, hf.2⟩) w.2.2 (fun q _ h => hFc q h) hFc (fun r' u t H1 locs1 ht hvm hw hB hz1 hk1 hS => ?_)
  · rw [hy]
    exact vk_recv (F.vk h) hi w.2.2
  · subst hw
    refine kk H1 locs1 ⟨?_, w.2.1, hS⟩
    exact w.1.kept (fun k x hx => hk1 x.1 ((w.1 k x hx).lt) (fun h => h.elim (fun ⟨k, e, h1⟩ => by simp at h1) (fun h1 => absurd ((w.1 k x hx).lt) (by omega))))
/-- CALL, invokestatic, no answer, no cell used -/
theorem kSv (F : Fx G p s m c cc nL own A) (w : Wd G A s.heap ws H locs) {y : MethodName} {b : ByteArray} {n k idx fr lo : Nat} {As : List Value}
    (hc : CV G y b n fr lo As [] []) (Y : YM y b n none k) (V : YS y) (hl : Cond.methodLink own idx y ∈ lw_tbl)
    (hRm : fr + 1 ≤ R.frames ∧ 8 + (n + 11) + lo ≤ R.locals) (hlen : As.length = k) (hls : ls.size = nL) {st0 : List Value} (hst : st0 = As.reverse ++ rest) (hrm : (rest.map fun v => v.category).sum ≤ 8) (hdg : decode cc pc = .ok (.invokestatic idx, 3)) (hf : cells ≤ R.cells ∧ slots ≤ R.slots)
    (kk : ∀ (H1 : Heap) (locs1 : List Loc), Wd G A s.heap ws H1 locs1 → W p l e R s m args below meth c H1 locs1 cells slots Q (F0 m (pc + 3) ls rest)) : W p l e R s m args below meth c H locs cells slots Q (F0 m pc ls st0) := by
  subst hst
  have hFc : ∀ q, va_A [] H.size q → A q := fun q h => h.elim (fun ⟨k, e, h1⟩ => by simp at h1) (fun h1 => F.fA q (Nat.le_trans w.2.2.1 h1))
  refine va_callv (va_runS (As := As) (rest := rest) (nL := nL) (Ts := []) ⟨F.x, F.b, F.ml, F.o, fun _ h => nomatch h⟩ (hc l H.size) ⟨Y.B F.t (F.t _ hl rfl _) hRm, F.t _ V rfl _⟩ ⟨fun a U g mk q => ⟨q.1, PreB.calling F.1 U g mk a q.2⟩, fun U hU hW => ⟨rfl, F.pre w [] rfl rfl hU hW⟩⟩ rfl hlen hls rfl (lv_room hrm) hdg ⟨hf.1, hf.2⟩) w.2.2 (fun q _ h => hFc q h) hFc (fun u t H1 locs1 ht hvm hw hB hz1 hk1 hS => ?_)
  refine kk H1 locs1 ⟨?_, w.2.1, hS⟩
  exact w.1.kept (fun k x hx => hk1 x.1 ((w.1 k x hx).lt) (fun h => h.elim (fun ⟨k, e, h1⟩ => by simp at h1) (fun h1 => absurd ((w.1 k x hx).lt) (by omega))))
end STR
set_option maxHeartbeats 4000000 in
theorem t_J0_isLatin1 {G : cG} (g : GOK G) {ks kv : Nat → Nat} (hSG : SG G ks kv) {i : Nat} (hi : i < 11) : CI G yJ0_isLatin1_aae02 cJ0_isLatin1_aae02 1 .boolean 0 0 [.ref (ks i)] [] [] 1 := by
  refine CI.of g (by decide) rfl (Nat.le_of_ble_eq_true rfl) ?_
  intro p l e s m below meth c A ls F hr hlocks w hl
  generalize ([.ref (ks i)] : List Value).toArray = args
  have hl : lv_has ls 1 [(0, .ref (ks i))] := hl
  obtain ⟨-, hco, hva, hby⟩ := (F.vk hSG).1 i hi
  refine va_gets F.x F.b (F.cs hSG) w.2.2 F.o (F.t _ (List.mem_of_getElem? (i := 876) (by decide +kernel)) rfl _) (fun _ h => h) dJ0_isLatin1_aae02_0 ?_
  refine lv_if_eq (tgt := 17) F.x F.b dJ0_isLatin1_aae02_3 (by decide) (fun c9 => absurd c9 (by decide)) (fun _ => ?_)
  refine lv_aload_n F.x F.b dJ0_isLatin1_aae02_6 rfl (lv_at hl 0 rfl) ?_
  refine vk_getf F.x F.b hco w.2.2 F.o (F.t _ (List.mem_of_getElem? (i := 994) (by decide +kernel)) rfl _) (fun _ h => h) dJ0_isLatin1_aae02_7 ?_
  refine lv_if_ne (tgt := 17) F.x F.b dJ0_isLatin1_aae02_10 (by decide) (fun c9 => absurd rfl c9) (fun _ => ?_)
  refine lv_iconst (v := 1) F.x F.b dJ0_isLatin1_aae02_13 (by decide) ?_
  refine lv_goto (tgt := 18) F.x F.b dJ0_isLatin1_aae02_14 (by decide) ?_
  exact ei F w hr hlocks rfl rfl rfl dJ0_isLatin1_aae02_18
set_option maxHeartbeats 4000000 in
theorem t_J0_coder {G : cG} (g : GOK G) {ks kv : Nat → Nat} (hSG : SG G ks kv) {i : Nat} (hi : i < 11) : CI G yJ0_coder_7d493 cJ0_coder_7d493 1 .byte 0 0 [.ref (ks i)] [] [] 0 := by
  refine CI.of g (by decide) rfl (Nat.le_of_ble_eq_true rfl) ?_
  intro p l e s m below meth c A ls F hr hlocks w hl
  generalize ([.ref (ks i)] : List Value).toArray = args
  have hl : lv_has ls 1 [(0, .ref (ks i))] := hl
  obtain ⟨-, hco, hva, hby⟩ := (F.vk hSG).1 i hi
  refine va_gets F.x F.b (F.cs hSG) w.2.2 F.o (F.t _ (List.mem_of_getElem? (i := 876) (by decide +kernel)) rfl _) (fun _ h => h) dJ0_coder_7d493_0 ?_
  refine lv_if_eq (tgt := 13) F.x F.b dJ0_coder_7d493_3 (by decide) (fun c9 => absurd c9 (by decide)) (fun _ => ?_)
  refine lv_aload_n F.x F.b dJ0_coder_7d493_6 rfl (lv_at hl 0 rfl) ?_
  refine vk_getf F.x F.b hco w.2.2 F.o (F.t _ (List.mem_of_getElem? (i := 994) (by decide +kernel)) rfl _) (fun _ h => h) dJ0_coder_7d493_7 ?_
  refine lv_goto (tgt := 14) F.x F.b dJ0_coder_7d493_10 (by decide) ?_
  exact ei F w hr hlocks rfl rfl rfl dJ0_coder_7d493_14
set_option maxHeartbeats 4000000 in
theorem t_J0_length {G : cG} (g : GOK G) {ks kv : Nat → Nat} (hSG : SG G ks kv) {i : Nat} (hi : i < 11) : CI G yJ0_length_8abf5 cJ0_length_8abf5 1 .int 1 20 [.ref (ks i)] [] [] (sLen i) := by
  refine CI.of g (by decide) rfl (Nat.le_of_ble_eq_true rfl) ?_
  intro p l e s m below meth c A ls F hr hlocks w hl
  generalize ([.ref (ks i)] : List Value).toArray = args
  have hl : lv_has ls 1 [(0, .ref (ks i))] := hl
  obtain ⟨-, hco, hva, hby⟩ := (F.vk hSG).1 i hi
  refine lv_aload_n F.x F.b dJ0_length_8abf5_0 rfl (lv_at hl 0 rfl) ?_
  refine vk_getf F.x F.b hva w.2.2 F.o (F.t _ (List.mem_of_getElem? (i := 993) (by decide +kernel)) rfl _) (fun _ h => h) dJ0_length_8abf5_1 ?_
  refine va_tlen F.x F.b hby w.2.2 (v := sLen i) rfl dJ0_length_8abf5_4 ?_
  refine lv_aload_n F.x F.b dJ0_length_8abf5_5 rfl (lv_at hl 0 rfl) ?_
  refine kKi F w hSG (As := []) (rest := [.int (sLen i)]) hi (t_J0_coder F.1 hSG hi) m_J0_coder_7d493 v_J0_coder_7d493 (List.mem_of_getElem? (i := 872) (by decide +kernel)) rfl ⟨Nat.le_of_ble_eq_true rfl, Nat.le_of_ble_eq_true rfl⟩ rfl hl.1 rfl (Nat.le_of_ble_eq_true rfl) dJ0_length_8abf5_6 ⟨Nat.le_of_ble_eq_true rfl, Nat.le_of_ble_eq_true rfl⟩ (fun H locs w => ?_)
  refine lv_ishr F.x F.b dJ0_length_8abf5_9 ?_
  exact ei F w hr hlocks rfl (sb_shr0 _) rfl dJ0_length_8abf5_10
set_option maxHeartbeats 4000000 in
theorem t_J3_checkIndex {G : cG} (g : GOK G) {x n : Int32} (h0 : ¬ x < 0) (h1 : x < n) (v : Value) (hv : v.category = 1) : CI G yJ3_checkIndex_8e157 cJ3_checkIndex_8e157 3 .int 0 0 [.int x, .int n, v] [] [] x := by
  refine CI.of g (by decide) rfl (by cases v <;> first | exact Nat.le_of_ble_eq_true rfl | cases hv) ?_
  intro p l e s m below meth c A ls F hr hlocks w hl
  generalize ([.int x, .int n, v] : List Value).toArray = args
  have hl : lv_has ls 3 [(0, .int x), (1, .int n), (2, v)] := hl
  refine lv_iload_n F.x F.b dJ3_checkIndex_8e157_0 rfl (lv_at hl 0 rfl) ?_
  refine lv_if_lt (tgt := 9) F.x F.b dJ3_checkIndex_8e157_1 (by decide) (fun c9 => absurd c9 h0) (fun _ => ?_)
  refine lv_iload_n F.x F.b dJ3_checkIndex_8e157_4 rfl (lv_at hl 0 rfl) ?_
  refine lv_iload_n F.x F.b dJ3_checkIndex_8e157_5 rfl (lv_at hl 1 rfl) ?_
  refine lv_icmp_lt (tgt := 16) F.x F.b dJ3_checkIndex_8e157_6 (by decide) (fun _ => ?_) (fun c9 => absurd h1 c9)
  refine lv_iload_n F.x F.b dJ3_checkIndex_8e157_16 rfl (lv_at hl 0 rfl) ?_
  exact ei F w hr hlocks rfl rfl rfl dJ3_checkIndex_8e157_17
set_option maxHeartbeats 4000000 in
theorem t_J0_checkIndex {G : cG} (g : GOK G) {ks kv : Nat → Nat} (hSG : SG G ks kv) {x n : Int32} (h0 : ¬ x < 0) (h1 : x < n) : CV G yJ0_checkIndex_df160 cJ0_checkIndex_df160 2 1 22 [.int x, .int n] [] [] := by
  refine CV.of g (by decide) rfl (Nat.le_of_ble_eq_true rfl) ?_
  intro p l e s m below meth c A ls F hr hlocks w hl
  generalize ([.int x, .int n] : List Value).toArray = args
  have hl : lv_has ls 2 [(0, .int x), (1, .int n)] := hl
  refine lv_iload_n F.x F.b dJ0_checkIndex_df160_0 rfl (lv_at hl 0 rfl) ?_
  refine lv_iload_n F.x F.b dJ0_checkIndex_df160_1 rfl (lv_at hl 1 rfl) ?_
  have go : ∀ v : Value, v.category = 1 → va_Z "jdk/internal/util/Preconditions" "SIOOBE_FORMATTER" "Ljava/util/function/BiFunction;" v A s s.heap → W p l e { frames := 1, cells := 0, slots := 0, locals := 22 } s m args below meth c s.heap [] 0 0 (QV G A [] below args s) (F0 m (1 + 1) ls [.int n, .int x]) := by
    intro v hc hv
    refine va_gets F.x F.b hv w.2.2 F.o (F.t _ (List.mem_of_getElem? (i := 854) (by decide +kernel)) rfl _) (fun _ h => h) dJ0_checkIndex_df160_2 ?_
    refine kSi F w (t_J3_checkIndex F.1 h0 h1 v hc) m_J3_checkIndex_8e157 v_J3_checkIndex_8e157 (List.mem_of_getElem? (i := 1020) (by decide +kernel)) (As := [.int x, .int n, v]) (rest := []) ⟨Nat.le_of_ble_eq_true rfl, Nat.le_of_ble_eq_true rfl⟩ rfl hl.1 rfl (Nat.le_of_ble_eq_true rfl) dJ0_checkIndex_df160_5 ⟨Nat.le_of_ble_eq_true rfl, Nat.le_of_ble_eq_true rfl⟩ (fun H locs w => ?_)
    refine lv_pop F.x F.b dJ0_checkIndex_df160_8 rfl ?_
    exact ev F w hr hlocks rfl dJ0_checkIndex_df160_9
  rcases F.sf hSG with h | ⟨t, h⟩
  · exact go .null rfl h
  · exact go (.ref t) rfl h
set_option maxHeartbeats 4000000 in
theorem t_J1_charAt {G : cG} (g : GOK G) {ks kv : Nat → Nat} (hSG : SG G ks kv) {i : Nat} (hi : i < 11) {x : Int32} (hx : ib x (lenS.getD i 0) = true) : CI G yJ1_charAt_3b067 cJ1_charAt_3b067 2 .char 2 43 [.ref (kv i), .int x] [] [] (sAt i x) := by
  refine CI.of g (by decide) rfl (Nat.le_of_ble_eq_true rfl) ?_
  intro p l e s m below meth c A ls F hr hlocks w hl
  generalize ([.ref (kv i), .int x] : List Value).toArray = args
  have hl : lv_has ls 2 [(0, .ref (kv i)), (1, .int x)] := hl
  obtain ⟨-, hco, hva, hby⟩ := (F.vk hSG).1 i hi
  have hL := (lenS_ok i hi).2
  have hin := ib_in hx
  obtain ⟨j, hj, rfl⟩ := vp_in_of hin (by omega)
  refine lv_iload_n F.x F.b dJ1_charAt_3b067_0 rfl (lv_at hl 1 rfl) ?_
  refine lv_aload_n F.x F.b dJ1_charAt_3b067_1 rfl (lv_at hl 0 rfl) ?_
  refine va_tlen F.x F.b hby w.2.2 (v := sLen i) rfl dJ1_charAt_3b067_2 ?_
  refine kSv F w (t_J0_checkIndex F.1 hSG (nI_pos (by omega)) (nI_lt hj (by omega))) m_J0_checkIndex_df160 v_J0_checkIndex_df160 (List.mem_of_getElem? (i := 1017) (by decide +kernel)) (As := [.int (nI j), .int (sLen i)]) (rest := []) ⟨Nat.le_of_ble_eq_true rfl, Nat.le_of_ble_eq_true rfl⟩ rfl hl.1 rfl (Nat.le_of_ble_eq_true rfl) dJ1_charAt_3b067_3 ⟨Nat.le_of_ble_eq_true rfl, Nat.le_of_ble_eq_true rfl⟩ (fun H locs w => ?_)
  refine lv_aload_n F.x F.b dJ1_charAt_3b067_6 rfl (lv_at hl 0 rfl) ?_
  refine lv_iload_n F.x F.b dJ1_charAt_3b067_7 rfl (lv_at hl 1 rfl) ?_
  refine va_tb F.x F.b hby w.2.2 hin rfl dJ1_charAt_3b067_8 ?_
  refine lv_sipush (v := 255) F.x F.b dJ1_charAt_3b067_9 (by decide) ?_
  refine lv_iand F.x F.b dJ1_charAt_3b067_12 ?_
  refine lv_i2c F.x F.b dJ1_charAt_3b067_13 rfl ?_
  refine ei F w hr hlocks (pk_nc _) ?_ rfl dJ1_charAt_3b067_14
  have e1 : (nI j).toNatClampNeg = j := nI_clamp (by omega)
  show ((((bytS.getD i []).getD (nI j).toNatClampNeg 0) &&& 255).toUInt32 % 65536).toInt32 = (bytS.getD i []).getD (nI j).toNatClampNeg 0
  rw [e1]
  exact bytS_ok i hi j hj
set_option maxHeartbeats 4000000 in
theorem t_J0_charAt {G : cG} (g : GOK G) {ks kv : Nat → Nat} (hSG : SG G ks kv) {i : Nat} (hi : i < 11) {x : Int32} (hx : ib x (lenS.getD i 0) = true) : CI G yJ0_charAt_5068e cJ0_charAt_5068e 2 .char 3 64 [.ref (ks i), .int x] [] [] (sAt i x) := by
  refine CI.of g (by decide) rfl (Nat.le_of_ble_eq_true rfl) ?_
  intro p l e s m below meth c A ls F hr hlocks w hl
  generalize ([.ref (ks i), .int x] : List Value).toArray = args
  have hl : lv_has ls 2 [(0, .ref (ks i)), (1, .int x)] := hl
  obtain ⟨-, hco, hva, hby⟩ := (F.vk hSG).1 i hi
  refine lv_aload_n F.x F.b dJ0_charAt_5068e_0 rfl (lv_at hl 0 rfl) ?_
  refine kKi F w hSG (As := []) (rest := []) hi (t_J0_isLatin1 F.1 hSG hi) m_J0_isLatin1_aae02 v_J0_isLatin1_aae02 (List.mem_of_getElem? (i := 1010) (by decide +kernel)) rfl ⟨Nat.le_of_ble_eq_true rfl, Nat.le_of_ble_eq_true rfl⟩ rfl hl.1 rfl (Nat.le_of_ble_eq_true rfl) dJ0_charAt_5068e_1 ⟨Nat.le_of_ble_eq_true rfl, Nat.le_of_ble_eq_true rfl⟩ (fun H locs w => ?_)
  refine lv_if_eq (tgt := 16) F.x F.b dJ0_charAt_5068e_4 (by decide) (fun c9 => absurd c9 (by decide)) (fun _ => ?_)
  refine lv_aload_n F.x F.b dJ0_charAt_5068e_7 rfl (lv_at hl 0 rfl) ?_
  refine vk_getf F.x F.b hva w.2.2 F.o (F.t _ (List.mem_of_getElem? (i := 993) (by decide +kernel)) rfl _) (fun _ h => h) dJ0_charAt_5068e_8 ?_
  refine lv_iload_n F.x F.b dJ0_charAt_5068e_11 rfl (lv_at hl 1 rfl) ?_
  refine kSi F w (t_J1_charAt F.1 hSG hi hx) m_J1_charAt_3b067 v_J1_charAt_3b067 (List.mem_of_getElem? (i := 1014) (by decide +kernel)) (As := [.ref (kv i), .int x]) (rest := []) ⟨Nat.le_of_ble_eq_true rfl, Nat.le_of_ble_eq_true rfl⟩ rfl hl.1 rfl (Nat.le_of_ble_eq_true rfl) dJ0_charAt_5068e_12 ⟨Nat.le_of_ble_eq_true rfl, Nat.le_of_ble_eq_true rfl⟩ (fun H locs w => ?_)
  refine ei F w hr hlocks ?_ rfl rfl dJ0_charAt_5068e_15
  have hL := (lenS_ok i hi).2
  obtain ⟨j, hj, rfl⟩ := vp_in_of (ib_in hx) (by omega)
  have h := bytS_ok i hi j hj
  have e1 : (nI j).toNatClampNeg = j := nI_clamp (by omega)
  show narrow .char (.int ((bytS.getD i []).getD (nI j).toNatClampNeg 0)) = .int ((bytS.getD i []).getD (nI j).toNatClampNeg 0)
  rw [e1, ← h]
  exact pk_nc _

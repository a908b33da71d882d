/-! printed by wip/p61/tools/gen99u.py: does -/
theorem q792 : Cond.classLink RL 259 RJ4 ∈ lw_tbl := List.mem_of_getElem? (i := 792) (by decide +kernel)
theorem q793 : Cond.methodLink RL 261 yJ4_init_da8c8 ∈ lw_tbl := List.mem_of_getElem? (i := 793) (by decide +kernel)
theorem q1002 : Cond.methodLink RL 281 yL_runs ∈ lw_tbl := List.mem_of_getElem? (i := 1002) (by decide +kernel)
theorem m_J4_toString_0e30d : YM yJ4_toString_0e30d cJ4_toString_0e30d 1 (some (.object "java/lang/String")) 0 := ⟨⟨List.mem_of_getElem? (i := 940) (by decide +kernel), by decide +kernel⟩, List.mem_of_getElem? (i := 23) (by decide +kernel), ⟨by decide, by decide⟩, by decide +kernel⟩
theorem v_J4_toString_0e30d : YV yJ4_toString_0e30d := ⟨(List.mem_of_getElem? (i := 938) (by decide +kernel)), List.mem_of_getElem? (i := 939) (by decide +kernel)⟩
theorem m_L_runs : YM yL_runs cL_runs 4 (some (.int)) 2 := ⟨⟨List.mem_of_getElem? (i := 1004) (by decide +kernel), by decide +kernel⟩, List.mem_of_getElem? (i := 14) (by decide +kernel), ⟨by decide, by decide⟩, by decide +kernel⟩
theorem v_L_runs : YS yL_runs := (List.mem_of_getElem? (i := 1003) (by decide +kernel))
theorem m_J4_append_15ec4 : YM yJ4_append_15ec4 cJ4_append_15ec4 2 (some (.object "java/lang/StringBuilder")) 1 := ⟨⟨List.mem_of_getElem? (i := 798) (by decide +kernel), by decide +kernel⟩, List.mem_of_getElem? (i := 23) (by decide +kernel), ⟨by decide, by decide⟩, by decide +kernel⟩
theorem v_J4_append_15ec4 : YV yJ4_append_15ec4 := ⟨(List.mem_of_getElem? (i := 796) (by decide +kernel)), List.mem_of_getElem? (i := 797) (by decide +kernel)⟩
def Rf (r : Int32) : Prop := r = -75 ∨ r = -76 ∨ r = -77 ∨ r = -78 ∨ r = -79
theorem cdE_rf (E : String) : Rf (cdE E) := by
  unfold cdE
  split
  · exact Or.inl rfl
  · split
    · exact Or.inr (Or.inr (Or.inl rfl))
    · split
      · exact Or.inr (Or.inr (Or.inr (Or.inl rfl)))
      · split
        · exact Or.inr (Or.inr (Or.inr (Or.inr rfl)))
        · exact Or.inr (Or.inl rfl)
/-- what a refused release tells -/
def NoF (kd : Nat) (id : Int32) (S : Mem) (c t : Nat) (r : Int32) : Prop := 43 < kd → (r = -75 ∧ ∀ p, p < c → S.2 0 p ≠ id) ∨ (r = -76 ∧ ∃ p, p < c ∧ S.2 0 p = id ∧ nv (S.1 3) < owe S t p)
/-- what a change tells, by its kind -/
def YeF (kd e : Nat) (id : Int32) (S S' : Mem) (r c t q c' q' : Nat) : Prop :=
  (kd ≤ 43 → S'.1 4 = S.1 4) ∧ (kd ≤ 43 → kd ≠ 9 → kd ≠ 10 → S'.1 3 = S.1 3) ∧ (13 ≤ kd → kd ≤ 15 → 1 ≤ e ∧ f_X4_letPass S (nI e) = some (nI r, S') ∧ r + c' = c ∧ S'.1 6 = S.1 6 + nI r) ∧
  (kd = 8 ∨ kd = 11 → q ≠ 0 ∧ q' = q - 1 ∧ S.2 9 0 = nI r ∧ ∃ p, p < c' ∧ S'.2 0 p = nI r ∧ S'.2 5 p = 0) ∧
  (43 < kd → c' = c - 1 ∧ (∀ p', p' < c' → S'.2 0 p' ≠ id) ∧ ∃ p, p < c ∧ S.2 0 p = id ∧ owe S t p ≤ nv (S.1 3) ∧ r = owe S t p ∧ S'.1 3 = S.1 3 - nI r ∧ S'.1 4 = S.1 4 + nI r)
section YEF
variable {kd e r c t q c' q' p : Nat} {id : Int32} {S S' : Mem}
theorem yeF_two (e3 : S'.1 3 = S.1 3) (e4 : S'.1 4 = S.1 4) (h : kd < 8 ∨ kd = 12 ∨ (16 ≤ kd ∧ kd ≤ 43)) : YeF kd e id S S' r c t q c' q' :=
  ⟨fun _ => e4, fun _ _ _ => e3, fun _ _ => absurd h (by omega), fun _ => absurd h (by omega), fun _ => absurd h (by omega)⟩
theorem yeF_dep (e4 : S'.1 4 = S.1 4) (h : kd = 9 ∨ kd = 10) : YeF kd e id S S' r c t q c' q' :=
  ⟨fun _ => e4, fun _ _ _ => absurd h (by omega), fun _ _ => absurd h (by omega), fun _ => absurd h (by omega), fun _ => absurd h (by omega)⟩
theorem yeF_aud (m : Mild S S') (h : kd = 8 ∨ kd = 11) (q0 : q ≠ 0) (e5 : S.2 9 0 = nI r) (hp : p < c') (e6 : S'.2 0 p = nI r) (e7 : S'.2 5 p = 0) : YeF kd e id S S' r c t q c' (q - 1) :=
  ⟨fun _ => m.2.2.2.1, fun _ _ _ => m.2.2.1, fun _ _ => absurd h (by omega), fun _ => ⟨q0, rfl, e5, p, hp, e6, e7⟩, fun _ => absurd h (by omega)⟩
theorem yeF_pass (h : 13 ≤ kd ∧ kd ≤ 15) (e0 : 1 ≤ e) (e1 : f_X4_letPass S (nI e) = some (nI r, S')) (ec : r + c' = c) (e6 : S'.1 6 = S.1 6 + nI r) (e3 : S'.1 3 = S.1 3) (e4 : S'.1 4 = S.1 4) : YeF kd e id S S' r c t q c' q' :=
  ⟨fun _ => e4, fun _ _ _ => e3, fun _ _ => ⟨e0, e1, ec, e6⟩, fun _ => absurd h (by omega), fun _ => absurd h (by omega)⟩
theorem yeF_rel (h : 44 ≤ kd) (hp : p < c) (hid : S.2 0 p = id) (hle : owe S t p ≤ nv (S.1 3)) (e3 : S'.1 3 = S.1 3 - nI (owe S t p)) (e4 : S'.1 4 = S.1 4 + nI (owe S t p)) (e5 : ∀ p', p' < c - 1 → S'.2 0 p' ≠ id) : YeF kd e id S S' (owe S t p) c t q (c - 1) q' :=
  ⟨fun _ => absurd h (by omega), fun _ => absurd h (by omega), fun _ _ => absurd h (by omega), fun _ => absurd h (by omega), fun _ => ⟨rfl, e5, p, hp, hid, hle, rfl, e3, e4⟩⟩
end YEF
section RKW
variable {p : Program} {l : Launch} {e : Env} {R : Room} {s : State} {m : MethodId} {args : Array Value} {below : List Frame} {meth : Method} {c : Code} {H : Heap} {locs : List Loc} {cells slots : Nat} {Q : State → Prop} {cc : ByteArray} {pc : Nat} {ls : Array Slot} {rest : List Value}
/-- ldc_w of a text -/
theorem rKw (hexec : p.tables.exec = Jvm.exec) (hb : c.code = cc) {own tx : String} {index q : Nat} (hown : s.vm.findClass own = some m.cls) (hZ : vk_R own index tx q s) (hdg : decode cc pc = .ok (.ldc_w index, 3))
    (k : W p l e R s m args below meth c H locs cells slots Q (F0 m (pc + 3) ls (.ref q :: rest))) : W p l e R s m args below meth c H locs cells slots Q (F0 m pc ls rest) := by
  intro T hT X
  obtain ⟨t, a1, b1⟩ := k T hT X
  exact ⟨t, X.ldcStringW hexec hown (text := tx) (a := q) hZ.1 hZ.2 (g := F0 m pc ls rest) rfl (by rw [hb]; exact hdg) t a1, b1⟩
end RKW
theorem txT {a v n : Nat} (ha : a < 100) (hv : v < 4) (hv1 : 1 ≤ v) (hn : n = (txL v a).length) : ∀ C : Mem, FD C (txL v a) n → ∃ (t : Nat → Int32) (sm : Nat), CT C t n ∧ LT t n sm := by
  subst hn
  exact fun C hC => FD.ct ha hv hv1 hC
theorem txL_len {a v : Nat} (hv : v ≠ 3) : (([] ++ chU.getD 0 []) ++ dgN a).length + (([] ++ chU.getD v []) ++ dgN a).length = (txL v a).length := by
  rw [txL, if_neg hv, ← List.length_append]
  rfl
theorem txL_len3 {a : Nat} : (([] ++ chU.getD 0 []) ++ dgN a).length + lenU.getD 3 0 = (txL 3 a).length := by
  rw [txL, if_pos rfl, List.length_append (as := chU.getD 0 [] ++ dgN a)]
  rfl
theorem Gd.owe31 {N : Nat} {S : Mem} {c t q p : Nat} (h : Gd N S c t q) (hp : p < c) : owe S t p < 2 ^ 31 := by
  have := h.oweLe hp
  omega
theorem ts_236 : ∀ kd < 48, (kd < 8) → ¬ (nI kd).toInt < 0 ∧ ¬ 43 < (nI kd).toInt ∧ (#[189, 189, 189, 189, 189, 189, 189, 189, 250, 255, 255, 250, 266, 273, 273, 273, 280, 280, 280, 311, 325, 325, 325, 325, 325, 325, 266, 332, 332, 332, 332, 332, 339, 339, 339, 339, 339, 348, 443, 443, 443, 443, 443, 443] : Array Int)[((nI kd).toInt - 0).toNat]? = some 189 := by decide +kernel
theorem ts_297 : ∀ kd < 48, (kd = 8 ∨ kd = 11) → ¬ (nI kd).toInt < 0 ∧ ¬ 43 < (nI kd).toInt ∧ (#[189, 189, 189, 189, 189, 189, 189, 189, 250, 255, 255, 250, 266, 273, 273, 273, 280, 280, 280, 311, 325, 325, 325, 325, 325, 325, 266, 332, 332, 332, 332, 332, 339, 339, 339, 339, 339, 348, 443, 443, 443, 443, 443, 443] : Array Int)[((nI kd).toInt - 0).toNat]? = some 250 := by decide +kernel
theorem ts_302 : ∀ kd < 48, (kd = 9 ∨ kd = 10) → ¬ (nI kd).toInt < 0 ∧ ¬ 43 < (nI kd).toInt ∧ (#[189, 189, 189, 189, 189, 189, 189, 189, 250, 255, 255, 250, 266, 273, 273, 273, 280, 280, 280, 311, 325, 325, 325, 325, 325, 325, 266, 332, 332, 332, 332, 332, 339, 339, 339, 339, 339, 348, 443, 443, 443, 443, 443, 443] : Array Int)[((nI kd).toInt - 0).toNat]? = some 255 := by decide +kernel
theorem ts_313 : ∀ kd < 48, (kd = 12 ∨ kd = 26) → ¬ (nI kd).toInt < 0 ∧ ¬ 43 < (nI kd).toInt ∧ (#[189, 189, 189, 189, 189, 189, 189, 189, 250, 255, 255, 250, 266, 273, 273, 273, 280, 280, 280, 311, 325, 325, 325, 325, 325, 325, 266, 332, 332, 332, 332, 332, 339, 339, 339, 339, 339, 348, 443, 443, 443, 443, 443, 443] : Array Int)[((nI kd).toInt - 0).toNat]? = some 266 := by decide +kernel
theorem ts_320 : ∀ kd < 48, (13 ≤ kd ∧ kd ≤ 15) → ¬ (nI kd).toInt < 0 ∧ ¬ 43 < (nI kd).toInt ∧ (#[189, 189, 189, 189, 189, 189, 189, 189, 250, 255, 255, 250, 266, 273, 273, 273, 280, 280, 280, 311, 325, 325, 325, 325, 325, 325, 266, 332, 332, 332, 332, 332, 339, 339, 339, 339, 339, 348, 443, 443, 443, 443, 443, 443] : Array Int)[((nI kd).toInt - 0).toNat]? = some 273 := by decide +kernel
theorem ts_327 : ∀ kd < 48, (16 ≤ kd ∧ kd ≤ 18) → ¬ (nI kd).toInt < 0 ∧ ¬ 43 < (nI kd).toInt ∧ (#[189, 189, 189, 189, 189, 189, 189, 189, 250, 255, 255, 250, 266, 273, 273, 273, 280, 280, 280, 311, 325, 325, 325, 325, 325, 325, 266, 332, 332, 332, 332, 332, 339, 339, 339, 339, 339, 348, 443, 443, 443, 443, 443, 443] : Array Int)[((nI kd).toInt - 0).toNat]? = some 280 := by decide +kernel
theorem ts_358 : ∀ kd < 48, (kd = 19) → ¬ (nI kd).toInt < 0 ∧ ¬ 43 < (nI kd).toInt ∧ (#[189, 189, 189, 189, 189, 189, 189, 189, 250, 255, 255, 250, 266, 273, 273, 273, 280, 280, 280, 311, 325, 325, 325, 325, 325, 325, 266, 332, 332, 332, 332, 332, 339, 339, 339, 339, 339, 348, 443, 443, 443, 443, 443, 443] : Array Int)[((nI kd).toInt - 0).toNat]? = some 311 := by decide +kernel
theorem ts_372 : ∀ kd < 48, (20 ≤ kd ∧ kd ≤ 25) → ¬ (nI kd).toInt < 0 ∧ ¬ 43 < (nI kd).toInt ∧ (#[189, 189, 189, 189, 189, 189, 189, 189, 250, 255, 255, 250, 266, 273, 273, 273, 280, 280, 280, 311, 325, 325, 325, 325, 325, 325, 266, 332, 332, 332, 332, 332, 339, 339, 339, 339, 339, 348, 443, 443, 443, 443, 443, 443] : Array Int)[((nI kd).toInt - 0).toNat]? = some 325 := by decide +kernel
theorem ts_379 : ∀ kd < 48, (27 ≤ kd ∧ kd ≤ 31) → ¬ (nI kd).toInt < 0 ∧ ¬ 43 < (nI kd).toInt ∧ (#[189, 189, 189, 189, 189, 189, 189, 189, 250, 255, 255, 250, 266, 273, 273, 273, 280, 280, 280, 311, 325, 325, 325, 325, 325, 325, 266, 332, 332, 332, 332, 332, 339, 339, 339, 339, 339, 348, 443, 443, 443, 443, 443, 443] : Array Int)[((nI kd).toInt - 0).toNat]? = some 332 := by decide +kernel
theorem ts_386 : ∀ kd < 48, (32 ≤ kd ∧ kd ≤ 36) → ¬ (nI kd).toInt < 0 ∧ ¬ 43 < (nI kd).toInt ∧ (#[189, 189, 189, 189, 189, 189, 189, 189, 250, 255, 255, 250, 266, 273, 273, 273, 280, 280, 280, 311, 325, 325, 325, 325, 325, 325, 266, 332, 332, 332, 332, 332, 339, 339, 339, 339, 339, 348, 443, 443, 443, 443, 443, 443] : Array Int)[((nI kd).toInt - 0).toNat]? = some 339 := by decide +kernel
theorem ts_395 : ∀ kd < 48, (kd = 37) → ¬ (nI kd).toInt < 0 ∧ ¬ 43 < (nI kd).toInt ∧ (#[189, 189, 189, 189, 189, 189, 189, 189, 250, 255, 255, 250, 266, 273, 273, 273, 280, 280, 280, 311, 325, 325, 325, 325, 325, 325, 266, 332, 332, 332, 332, 332, 339, 339, 339, 339, 339, 348, 443, 443, 443, 443, 443, 443] : Array Int)[((nI kd).toInt - 0).toNat]? = some 348 := by decide +kernel
theorem ts_490 : ∀ kd < 48, (38 ≤ kd ∧ kd ≤ 43) → ¬ (nI kd).toInt < 0 ∧ ¬ 43 < (nI kd).toInt ∧ (#[189, 189, 189, 189, 189, 189, 189, 189, 250, 255, 255, 250, 266, 273, 273, 273, 280, 280, 280, 311, 325, 325, 325, 325, 325, 325, 266, 332, 332, 332, 332, 332, 339, 339, 339, 339, 339, 348, 443, 443, 443, 443, 443, 443] : Array Int)[((nI kd).toInt - 0).toNat]? = some 443 := by decide +kernel
theorem ts_497 : ∀ kd < 48, 44 ≤ kd → 43 < (nI kd).toInt := by decide +kernel
set_option maxRecDepth 100000 in
set_option maxHeartbeats 4000000 in
theorem w_does {G : cG} (g : GOK G) (gM : MG G) (hNC : NcG G) {ks kv : Nat → Nat} (hSG : SG G ks kv) {uk uv : Nat → Nat} (hUG : SG2 G uk uv) (pv : PV G) (pv2 : PV2 G) (hCB : CBC G) {d1 d2 : Nat} (hD : DGs G d1 d2) {b L : Nat} {xs : Nat → Int32} (hXS : XS G b L xs) {ad : Nat → Nat → Nat} {svx : Value} {K S C : Mem} {cu ct : Nat} {hs : hS} {N c t q k kd a e : Nat} (h : Gd N S c t q) (hN : N < 2 ^ 30) (k1 : cu < 9) (k2 : ct ≤ 8) (hC0 : C.1 0 = nI 0) (hk : k < 2 ^ 29) (hkd48 : kd < 48) (ha : a < 100) (he30 : e ≤ 30) : CX G yL_does cL_does 9 .int 10 220 60 700 [.ref b, .int (nI k), .int (nI kd), .ref ((ad 0) 0), .int (nI a), .int (nI e)] (fl [wXo G.2.1 (ad 0) (xF ad) svx K, wSh G.2.1 (ad 1) S, wTe G.2.1 (ad 4) C, wHo G.2.1 (ad 3) cu ct hs, hsL G.2.1 hs]) (fun r9 w1 => (∃ (K9 S9 C9 : Mem) (hs9 : hS), Rf r9 ∧ NoF kd (nI a) S c t r9 ∧ Same S9 S c t q ∧ HF cu hs hs9 ∧ C9.1 0 = nI 0 ∧ w1 = fl [wXo G.2.1 (ad 0) (xF ad) svx K9, wSh G.2.1 (ad 1) S9, wTe G.2.1 (ad 4) C9, wHo G.2.1 (ad 3) cu ct hs9, hsL G.2.1 hs9]) ∨ ∃ (r : Nat) (K9 S9 C9 : Mem) (c9 t9 q9 : Nat) (b9 : Nat → Nat) (P9 : Mem), r9 = nI r ∧ r < 2 ^ 31 ∧ Gd (N + 1) S9 c9 t9 q9 ∧ CpS S P9 ∧ YeF kd e (nI a) S S9 r c t q c9 q9 ∧ C9.1 0 = nI 0 ∧ w1 = fl [wXo G.2.1 (ad 0) (xF ad) svx K9, wSh G.2.1 (ad 1) S9, wTe G.2.1 (ad 4) C9, wHo G.2.1 (ad 3) (nxt cu) (cap ct) (hput hs cu (b9, P9)), hsL G.2.1 (hput hs cu (b9, P9))]) NX := by
  refine CX.of g (by decide) rfl (Nat.le_of_ble_eq_true rfl) ?_
  intro p l e0 s m below meth cm A ls hst htab F hr hlocks w hl
  generalize ([.ref b, .int (nI k), .int (nI kd), .ref ((ad 0) 0), .int (nI a), .int (nI e)] : List Value).toArray = args
  have hl : lv_has ls 9 [(5, .int (nI e)), (4, .int (nI a)), (3, .ref ((ad 0) 0)), (2, .int (nI kd)), (1, .int (nI k)), (0, .ref b)] := lv_sub hl [5, 4, 3, 2, 1, 0] rfl
  have w : Wd G A s.heap (fl [wXo G.2.1 (ad 0) (xF ad) svx K, wSh G.2.1 (ad 1) S, wTe G.2.1 (ad 4) C, wHo G.2.1 (ad 3) cu ct hs, hsL G.2.1 hs]) _ _ := w
  have hc16 := h.c16
  obtain ⟨PP, hPP⟩ : ∃ PP : Int32 → va_W → Prop, PP = (fun r9 w1 => (∃ (K9 S9 C9 : Mem) (hs9 : hS), Rf r9 ∧ NoF kd (nI a) S c t r9 ∧ Same S9 S c t q ∧ HF cu hs hs9 ∧ C9.1 0 = nI 0 ∧ w1 = fl [wXo G.2.1 (ad 0) (xF ad) svx K9, wSh G.2.1 (ad 1) S9, wTe G.2.1 (ad 4) C9, wHo G.2.1 (ad 3) cu ct hs9, hsL G.2.1 hs9]) ∨ ∃ (r : Nat) (K9 S9 C9 : Mem) (c9 t9 q9 : Nat) (b9 : Nat → Nat) (P9 : Mem), r9 = nI r ∧ r < 2 ^ 31 ∧ Gd (N + 1) S9 c9 t9 q9 ∧ CpS S P9 ∧ YeF kd e (nI a) S S9 r c t q c9 q9 ∧ C9.1 0 = nI 0 ∧ w1 = fl [wXo G.2.1 (ad 0) (xF ad) svx K9, wSh G.2.1 (ad 1) S9, wTe G.2.1 (ad 4) C9, wHo G.2.1 (ad 3) (nxt cu) (cap ct) (hput hs cu (b9, P9)), hsL G.2.1 (hput hs cu (b9, P9))]) := ⟨_, rfl⟩
  rw [← hPP]
  have K281 : ∀ (bay : Int32) (x v : Nat), kd < 8 → ∀ (qy ch : Int32) (H : Heap) (locs : List Loc) (ls : Array Slot), Wd G A s.heap (fl [wXo G.2.1 (ad 0) (xF ad) svx K, wSh G.2.1 (ad 1) S, wTe G.2.1 (ad 4) C, wHo G.2.1 (ad 3) cu ct hs, hsL G.2.1 hs]) H locs → lv_has ls 9 [(8, .int bay), (7, .int (nI x)), (6, .int (nI v)), (5, .int (nI e)), (4, .int (nI a)), (3, .ref ((ad 0) 0)), (2, .int (nI kd)), (1, .int (nI k)), (0, .ref b)] → W p l e0 { frames := 10, cells := 60, slots := 700, locals := 220 } s m args below meth cm H locs 0 0 (XI G A PP NX 60 700 below args s) (F0 m 281 ls [.int qy, .int ch, .ref ((ad 0) 0)]) := by
    intro bay x v hkd qy ch H locs ls w hl
    refine lv_iconst (v := 1) F.x F.b dL_does_281 (by decide) ?_
    refine lv_iload F.x F.b dL_does_282 (lv_at hl 1 rfl) ?_
    refine lv_bipush (v := 11) F.x F.b dL_does_284 (by decide) ?_
    refine lv_idiv F.x F.b dL_does_286 (by decide) ?_
    refine lv_bipush (v := 99) F.x F.b dL_does_287 (by decide) ?_
    refine lv_irem F.x F.b dL_does_289 (by decide) ?_
    refine lv_iadd F.x F.b dL_does_290 ?_
    refine lv_iload F.x F.b dL_does_291 (lv_at hl 0 rfl) ?_
    rcases g_add h hN ch qy (1 + (((nI x) / 11) - ((nI x) / 11) / 99 * 99)) bay with ⟨E, hE, e1⟩ | ⟨r, S', c', t', q', hr9, e1, g', e3, e4⟩
    · refine kLi F w hst (LC := [wXo G.2.1 (ad 0) (xF ad) svx K, wSh G.2.1 (ad 1) S, wHo G.2.1 (ad 3) cu ct hs, hsL G.2.1 hs]) (LR := [wTe G.2.1 (ad 4) C]) (As := [.ref ((ad 0) 0), .int ch, .int qy, .int (1 + (((nI x) / 11) - ((nI x) / 11) / 99 * 99)), .int bay]) (rest := []) (l_addLot_no F.1 gM hNC k1 h.copies e1 hE) mh_addLot vh_addLot (List.mem_of_getElem? (i := 607) (by decide +kernel)) 5 [0, 1, 3, 4, 2] rfl rfl rfl ⟨Nat.le_of_ble_eq_true rfl, Nat.le_of_ble_eq_true rfl⟩ rfl hl.1 rfl (Nat.le_of_ble_eq_true rfl) dL_does_293 ⟨Nat.le_of_ble_eq_true rfl, Nat.le_of_ble_eq_true rfl⟩ (fun r9 w1 H locs h9 w => ?_)
      obtain ⟨rfl, b9, P9, hP, h9⟩ := h9
      have w := w.jn (L1 := [wXo G.2.1 (ad 0) (xF ad) svx K, wSh G.2.1 (ad 1) S, wHo G.2.1 (ad 3) cu ct (hput hs cu (b9, P9)), hsL G.2.1 (hput hs cu (b9, P9))]) (L' := [wXo G.2.1 (ad 0) (xF ad) svx K, wSh G.2.1 (ad 1) S, wTe G.2.1 (ad 4) C, wHo G.2.1 (ad 3) cu ct (hput hs cu (b9, P9)), hsL G.2.1 (hput hs cu (b9, P9))]) h9 5 [0, 1, 4, 2, 3] rfl rfl rfl
      exact eiX F w hr hlocks rfl (hPP ▸ Or.inl ⟨K, S, C, _, cdE_rf _, (fun z => absurd z (by omega)), sameRf S, (HF.rf cu hs).put _, hC0, rfl⟩) (Nat.le_of_ble_eq_true rfl) (Nat.le_of_ble_eq_true rfl) dL_does_296
    · refine kLi F w hst (LC := [wXo G.2.1 (ad 0) (xF ad) svx K, wSh G.2.1 (ad 1) S, wHo G.2.1 (ad 3) cu ct hs, hsL G.2.1 hs]) (LR := [wTe G.2.1 (ad 4) C]) (As := [.ref ((ad 0) 0), .int ch, .int qy, .int (1 + (((nI x) / 11) - ((nI x) / 11) / 99 * 99)), .int bay]) (rest := []) (l_addLot_ok F.1 k1 h.copies k2 hr9 e1) mh_addLot vh_addLot (List.mem_of_getElem? (i := 607) (by decide +kernel)) 5 [0, 1, 3, 4, 2] rfl rfl rfl ⟨Nat.le_of_ble_eq_true rfl, Nat.le_of_ble_eq_true rfl⟩ rfl hl.1 rfl (Nat.le_of_ble_eq_true rfl) dL_does_293 ⟨Nat.le_of_ble_eq_true rfl, Nat.le_of_ble_eq_true rfl⟩ (fun r9 w1 H locs h9 w => ?_)
      obtain ⟨rfl, b9, P9, hP, h9⟩ := h9
      have w := w.jn (L1 := [wXo G.2.1 (ad 0) (xF ad) svx K, wSh G.2.1 (ad 1) S', wHo G.2.1 (ad 3) (nxt cu) (cap ct) (hput hs cu (b9, P9)), hsL G.2.1 (hput hs cu (b9, P9))]) (L' := [wXo G.2.1 (ad 0) (xF ad) svx K, wSh G.2.1 (ad 1) S', wTe G.2.1 (ad 4) C, wHo G.2.1 (ad 3) (nxt cu) (cap ct) (hput hs cu (b9, P9)), hsL G.2.1 (hput hs cu (b9, P9))]) h9 5 [0, 1, 4, 2, 3] rfl rfl rfl
      exact eiX F w hr hlocks rfl (hPP ▸ Or.inr ⟨r, K, S', C, _, _, _, b9, P9, rfl, hr9, g', hP, (yeF_two e3 e4 (by omega)), hC0, rfl⟩) (Nat.le_of_ble_eq_true rfl) (Nat.le_of_ble_eq_true rfl) dL_does_296
  have K261 : ∀ (bay : Int32) (x v : Nat), kd < 8 → ∀ (ch : Int32) (H : Heap) (locs : List Loc) (ls : Array Slot), Wd G A s.heap (fl [wXo G.2.1 (ad 0) (xF ad) svx K, wSh G.2.1 (ad 1) S, wTe G.2.1 (ad 4) C, wHo G.2.1 (ad 3) cu ct hs, hsL G.2.1 hs]) H locs → lv_has ls 9 [(8, .int bay), (7, .int (nI x)), (6, .int (nI v)), (5, .int (nI e)), (4, .int (nI a)), (3, .ref ((ad 0) 0)), (2, .int (nI kd)), (1, .int (nI k)), (0, .ref b)] → W p l e0 { frames := 10, cells := 60, slots := 700, locals := 220 } s m args below meth cm H locs 0 0 (XI G A PP NX 60 700 below args s) (F0 m 261 ls [.int ch, .ref ((ad 0) 0)]) := by
    intro bay x v hkd ch H locs ls w hl
    refine lv_iload F.x F.b dL_does_261 (lv_at hl 1 rfl) ?_
    refine lv_bipush (v := 7) F.x F.b dL_does_263 (by decide) ?_
    refine lv_idiv F.x F.b dL_does_265 (by decide) ?_
    refine lv_iload F.x F.b dL_does_266 (lv_at hl 2 rfl) ?_
    refine lv_iconst (v := 3) F.x F.b dL_does_268 (by decide) ?_
    refine lv_irem F.x F.b dL_does_269 (by decide) ?_
    rcases Decidable.em (((nI v) - (nI v) / 3 * 3) = 0) with z | z
    · refine lv_if_ne (tgt := 278) F.x F.b dL_does_270 (by decide) (fun c9 => absurd z c9) (fun _ => ?_)
      refine lv_bipush (v := 101) F.x F.b dL_does_273 (by decide) ?_
      refine lv_goto (tgt := 280) F.x F.b dL_does_275 (by decide) ?_
      refine lv_irem F.x F.b dL_does_280 (by decide) ?_
      exact K281 bay x v hkd _ _ H locs ls w (lv_sub hl [0, 1, 2, 3, 4, 5, 6, 7, 8] rfl)
    · refine lv_if_ne (tgt := 278) F.x F.b dL_does_270 (by decide) (fun _ => ?_) (fun c9 => absurd c9 z)
      refine lv_bipush (v := 6) F.x F.b dL_does_278 (by decide) ?_
      refine lv_irem F.x F.b dL_does_280 (by decide) ?_
      exact K281 bay x v hkd _ _ H locs ls w (lv_sub hl [0, 1, 2, 3, 4, 5, 6, 7, 8] rfl)
  have K349 : ∀ (bay : Int32) (x v : Nat), (16 ≤ kd ∧ kd ≤ 18) → ∀ (y : Int32) (H : Heap) (locs : List Loc) (ls : Array Slot), Wd G A s.heap (fl [wXo G.2.1 (ad 0) (xF ad) svx K, wSh G.2.1 (ad 1) S, wTe G.2.1 (ad 4) C, wHo G.2.1 (ad 3) cu ct hs, hsL G.2.1 hs]) H locs → lv_has ls 9 [(8, .int bay), (7, .int (nI x)), (6, .int (nI v)), (5, .int (nI e)), (4, .int (nI a)), (3, .ref ((ad 0) 0)), (2, .int (nI kd)), (1, .int (nI k)), (0, .ref b)] → W p l e0 { frames := 10, cells := 60, slots := 700, locals := 220 } s m args below meth cm H locs 0 0 (XI G A PP NX 60 700 below args s) (F0 m 349 ls [.int y, .ref ((ad 0) 0)]) := by
    intro bay x v hkd y H locs ls w hl
    refine lv_iload F.x F.b dL_does_349 (lv_at hl 2 rfl) ?_
    refine lv_bipush (v := 70) F.x F.b dL_does_351 (by decide) ?_
    refine lv_irem F.x F.b dL_does_353 (by decide) ?_
    rcases g_step h y ((nI v) - (nI v) / 70 * 70) with ⟨E, hE, e1⟩ | ⟨r, S', t', q', hr9, e1, g', m9⟩
    · refine kLi F w hst (LC := [wXo G.2.1 (ad 0) (xF ad) svx K, wSh G.2.1 (ad 1) S, wHo G.2.1 (ad 3) cu ct hs, hsL G.2.1 hs]) (LR := [wTe G.2.1 (ad 4) C]) (As := [.ref ((ad 0) 0), .int y, .int ((nI v) - (nI v) / 70 * 70)]) (rest := []) (l_addStep_no F.1 gM hNC k1 h.copies e1 hE) mh_addStep vh_addStep (List.mem_of_getElem? (i := 732) (by decide +kernel)) 5 [0, 1, 3, 4, 2] rfl rfl rfl ⟨Nat.le_of_ble_eq_true rfl, Nat.le_of_ble_eq_true rfl⟩ rfl hl.1 rfl (Nat.le_of_ble_eq_true rfl) dL_does_354 ⟨Nat.le_of_ble_eq_true rfl, Nat.le_of_ble_eq_true rfl⟩ (fun r9 w1 H locs h9 w => ?_)
      obtain ⟨rfl, b9, P9, hP, h9⟩ := h9
      have w := w.jn (L1 := [wXo G.2.1 (ad 0) (xF ad) svx K, wSh G.2.1 (ad 1) S, wHo G.2.1 (ad 3) cu ct (hput hs cu (b9, P9)), hsL G.2.1 (hput hs cu (b9, P9))]) (L' := [wXo G.2.1 (ad 0) (xF ad) svx K, wSh G.2.1 (ad 1) S, wTe G.2.1 (ad 4) C, wHo G.2.1 (ad 3) cu ct (hput hs cu (b9, P9)), hsL G.2.1 (hput hs cu (b9, P9))]) h9 5 [0, 1, 4, 2, 3] rfl rfl rfl
      exact eiX F w hr hlocks rfl (hPP ▸ Or.inl ⟨K, S, C, _, cdE_rf _, (fun z => absurd z (by omega)), sameRf S, (HF.rf cu hs).put _, hC0, rfl⟩) (Nat.le_of_ble_eq_true rfl) (Nat.le_of_ble_eq_true rfl) dL_does_357
    · refine kLi F w hst (LC := [wXo G.2.1 (ad 0) (xF ad) svx K, wSh G.2.1 (ad 1) S, wHo G.2.1 (ad 3) cu ct hs, hsL G.2.1 hs]) (LR := [wTe G.2.1 (ad 4) C]) (As := [.ref ((ad 0) 0), .int y, .int ((nI v) - (nI v) / 70 * 70)]) (rest := []) (l_addStep_ok F.1 k1 h.copies k2 hr9 e1) mh_addStep vh_addStep (List.mem_of_getElem? (i := 732) (by decide +kernel)) 5 [0, 1, 3, 4, 2] rfl rfl rfl ⟨Nat.le_of_ble_eq_true rfl, Nat.le_of_ble_eq_true rfl⟩ rfl hl.1 rfl (Nat.le_of_ble_eq_true rfl) dL_does_354 ⟨Nat.le_of_ble_eq_true rfl, Nat.le_of_ble_eq_true rfl⟩ (fun r9 w1 H locs h9 w => ?_)
      obtain ⟨rfl, b9, P9, hP, h9⟩ := h9
      have w := w.jn (L1 := [wXo G.2.1 (ad 0) (xF ad) svx K, wSh G.2.1 (ad 1) S', wHo G.2.1 (ad 3) (nxt cu) (cap ct) (hput hs cu (b9, P9)), hsL G.2.1 (hput hs cu (b9, P9))]) (L' := [wXo G.2.1 (ad 0) (xF ad) svx K, wSh G.2.1 (ad 1) S', wTe G.2.1 (ad 4) C, wHo G.2.1 (ad 3) (nxt cu) (cap ct) (hput hs cu (b9, P9)), hsL G.2.1 (hput hs cu (b9, P9))]) h9 5 [0, 1, 4, 2, 3] rfl rfl rfl
      exact eiX F w hr hlocks rfl (hPP ▸ Or.inr ⟨r, K, S', C, _, _, _, b9, P9, rfl, hr9, g', hP, (yeF_two m9.2.2.1 m9.2.2.2.1 (by omega)), hC0, rfl⟩) (Nat.le_of_ble_eq_true rfl) (Nat.le_of_ble_eq_true rfl) dL_does_357
  have K483 : kd = 37 → ∀ (bay : Int32) (x v : Nat) (v9 : Nat), v9 < 4 → 1 ≤ v9 → ∀ (cells slots : Nat) (z1 va nn : Nat) (mb : Int32) (f : Nat → Int32) (H : Heap) (locs : List Loc) (ls : Array Slot), Tx (va, 16, nn, mb, f) (txL v9 a) → cells ≤ 30 → slots ≤ 400 → Wd G A s.heap (fl [wSb G.2.1 (fun _ => z1) (va, 16, nn, mb, f), wXo G.2.1 (ad 0) (xF ad) svx K, wSh G.2.1 (ad 1) S, wTe G.2.1 (ad 4) C, wHo G.2.1 (ad 3) cu ct hs, hsL G.2.1 hs]) H locs → lv_has ls 9 [(8, .int bay), (7, .int (nI x)), (6, .int (nI v)), (5, .int (nI e)), (4, .int (nI a)), (3, .ref ((ad 0) 0)), (2, .int (nI kd)), (1, .int (nI k)), (0, .ref b)] → W p l e0 { frames := 10, cells := 60, slots := 700, locals := 220 } s m args below meth cm H locs cells slots (XI G A PP NX 60 700 below args s) (F0 m 483 ls [.ref z1, .ref ((ad 0) 0)]) := by
    intro hkd bay x v v9 hv9 hv1 cells slots z1 va nn mb f H locs ls hT9 hc9 hs9 w hl
    have hle9 : nn ≤ 16 := by have h1 : nn = _ := hT9.2.1; have h2 := hT9.2.2.1; rw [← h1] at h2; exact h2
    refine kVr F w (LC := [wSb G.2.1 (fun _ => z1) (va, 16, nn, mb, f)]) (LR := [wXo G.2.1 (ad 0) (xF ad) svx K, wSh G.2.1 (ad 1) S, wTe G.2.1 (ad 4) C, wHo G.2.1 (ad 3) cu ct hs, hsL G.2.1 hs]) (As := []) (rest := [.ref ((ad 0) 0)]) (t_J4_toString_0e30d F.1 (o := fun _ => z1) (va := va) (cp := 16) (n := nn) (mb := mb) (f := f) hSG hCB hle9 (by decide) hT9.fz) m_J4_toString_0e30d v_J4_toString_0e30d (List.mem_of_getElem? (i := 937) (by decide +kernel)) (ci := 1) (q0 := 0) rfl rfl rfl 6 [0, 1, 2, 3, 4, 5] rfl rfl rfl ⟨Nat.le_of_ble_eq_true rfl, Nat.le_of_ble_eq_true rfl⟩ rfl hl.1 rfl (Nat.le_of_ble_eq_true rfl) dL_does_483 ⟨by show _ ≤ 60; omega, by show _ ≤ 700; omega⟩ (fun a9 w1 H locs h9 w => ?_)
    obtain ⟨sv9, f9, h9, hk9⟩ := h9
    have w := w.jn (L1 := [wSb G.2.1 (fun _ => z1) (va, 16, nn, mb, f), wSt G.2.1 a9 sv9 nn f9]) (L' := [wSb G.2.1 (fun _ => z1) (va, 16, nn, mb, f), wSt G.2.1 a9 sv9 nn f9, wXo G.2.1 (ad 0) (xF ad) svx K, wSh G.2.1 (ad 1) S, wTe G.2.1 (ad 4) C, wHo G.2.1 (ad 3) cu ct hs, hsL G.2.1 hs]) h9 7 [0, 1, 2, 3, 4, 5, 6] rfl rfl rfl
    refine kBi F w hst (LC := [wSt G.2.1 a9 sv9 nn f9, wXo G.2.1 (ad 0) (xF ad) svx K, wSh G.2.1 (ad 1) S, wTe G.2.1 (ad 4) C, wHo G.2.1 (ad 3) cu ct hs, hsL G.2.1 hs]) (LR := [wSb G.2.1 (fun _ => z1) (va, 16, nn, mb, f)]) (As := [.ref ((ad 0) 0), .ref a9]) (rest := []) (w_runs F.1 gM hNC hSG (so := a9) (sv := sv9) (n := nn) (fs := f9) (Ls := txL v9 a) h k1 k2 hC0 hle9 (hT9.bx hk9) (txT ha hv9 hv1 hT9.2.1)) m_L_runs v_L_runs q1002 7 [1, 2, 3, 4, 5, 6, 0] rfl rfl rfl ⟨Nat.le_of_ble_eq_true rfl, Nat.le_of_ble_eq_true rfl⟩ rfl hl.1 rfl (Nat.le_of_ble_eq_true rfl) dL_does_486 ⟨by show _ ≤ 60; omega, by show _ ≤ 700; omega⟩ (fun r9 w1 H locs h9 w => ?_)
    obtain ⟨K9, C9, hC9, ⟨hr9, S9, hs9, hS9, hF9, h9⟩ | ⟨mm, S9, t9, q9, b9, P9, hmm, rfl, g9, m9, hP9, h9⟩⟩ := h9
    · have w := w.jn (L1 := [wSt G.2.1 a9 sv9 nn f9, wXo G.2.1 (ad 0) (xF ad) svx K9, wSh G.2.1 (ad 1) S9, wTe G.2.1 (ad 4) C9, wHo G.2.1 (ad 3) cu ct hs9, hsL G.2.1 hs9]) (L' := [wSt G.2.1 a9 sv9 nn f9, wXo G.2.1 (ad 0) (xF ad) svx K9, wSh G.2.1 (ad 1) S9, wTe G.2.1 (ad 4) C9, wHo G.2.1 (ad 3) cu ct hs9, hsL G.2.1 hs9, wSb G.2.1 (fun _ => z1) (va, 16, nn, mb, f)]) h9 7 [0, 1, 2, 3, 4, 5, 6] rfl rfl rfl
      have w := w.re (L' := [wXo G.2.1 (ad 0) (xF ad) svx K9, wSh G.2.1 (ad 1) S9, wTe G.2.1 (ad 4) C9, wHo G.2.1 (ad 3) cu ct hs9, hsL G.2.1 hs9, wSt G.2.1 a9 sv9 nn f9, wSb G.2.1 (fun _ => z1) (va, 16, nn, mb, f)]) 7 [1, 2, 3, 4, 5, 0, 6] rfl rfl rfl
      have w : Wd G A s.heap (fl ([wXo G.2.1 (ad 0) (xF ad) svx K9, wSh G.2.1 (ad 1) S9, wTe G.2.1 (ad 4) C9, wHo G.2.1 (ad 3) cu ct hs9, hsL G.2.1 hs9] ++ [wSt G.2.1 a9 sv9 nn f9, wSb G.2.1 (fun _ => z1) (va, 16, nn, mb, f)])) _ _ := w
      have w := w.drop
      exact eiX F w hr hlocks rfl (hPP ▸ Or.inl ⟨K9, S9, C9, hs9, hr9.elim (fun z => Or.inr (Or.inr (Or.inr (Or.inl z)))) (fun z => Or.inr (Or.inl z)), (fun z => absurd z (by omega)), hS9, hF9, hC9, rfl⟩) (by omega) (by omega) dL_does_489
    · have w := w.jn (L1 := [wSt G.2.1 a9 sv9 nn f9, wXo G.2.1 (ad 0) (xF ad) svx K9, wSh G.2.1 (ad 1) S9, wTe G.2.1 (ad 4) C9, wHo G.2.1 (ad 3) (nxt cu) (cap ct) (hput hs cu (b9, P9)), hsL G.2.1 (hput hs cu (b9, P9))]) (L' := [wSt G.2.1 a9 sv9 nn f9, wXo G.2.1 (ad 0) (xF ad) svx K9, wSh G.2.1 (ad 1) S9, wTe G.2.1 (ad 4) C9, wHo G.2.1 (ad 3) (nxt cu) (cap ct) (hput hs cu (b9, P9)), hsL G.2.1 (hput hs cu (b9, P9)), wSb G.2.1 (fun _ => z1) (va, 16, nn, mb, f)]) h9 7 [0, 1, 2, 3, 4, 5, 6] rfl rfl rfl
      have w := w.re (L' := [wXo G.2.1 (ad 0) (xF ad) svx K9, wSh G.2.1 (ad 1) S9, wTe G.2.1 (ad 4) C9, wHo G.2.1 (ad 3) (nxt cu) (cap ct) (hput hs cu (b9, P9)), hsL G.2.1 (hput hs cu (b9, P9)), wSt G.2.1 a9 sv9 nn f9, wSb G.2.1 (fun _ => z1) (va, 16, nn, mb, f)]) 7 [1, 2, 3, 4, 5, 0, 6] rfl rfl rfl
      have w : Wd G A s.heap (fl ([wXo G.2.1 (ad 0) (xF ad) svx K9, wSh G.2.1 (ad 1) S9, wTe G.2.1 (ad 4) C9, wHo G.2.1 (ad 3) (nxt cu) (cap ct) (hput hs cu (b9, P9)), hsL G.2.1 (hput hs cu (b9, P9))] ++ [wSt G.2.1 a9 sv9 nn f9, wSb G.2.1 (fun _ => z1) (va, 16, nn, mb, f)])) _ _ := w
      have w := w.drop
      exact eiX F w hr hlocks rfl (hPP ▸ Or.inr ⟨mm, K9, S9, C9, c, t9, q9, b9, P9, rfl, by omega, g9.mono (Nat.le_succ N), hP9, (yeF_two m9.2.2.1 m9.2.2.2.1 (by omega)), hC9, rfl⟩) (by omega) (by omega) dL_does_489
  have K395 : kd = 37 → ∀ (bay : Int32) (x v : Nat), ∀ (H : Heap) (locs : List Loc) (ls : Array Slot), Wd G A s.heap (fl [wXo G.2.1 (ad 0) (xF ad) svx K, wSh G.2.1 (ad 1) S, wTe G.2.1 (ad 4) C, wHo G.2.1 (ad 3) cu ct hs, hsL G.2.1 hs]) H locs → lv_has ls 9 [(8, .int bay), (7, .int (nI x)), (6, .int (nI v)), (5, .int (nI e)), (4, .int (nI a)), (3, .ref ((ad 0) 0)), (2, .int (nI kd)), (1, .int (nI k)), (0, .ref b)] → W p l e0 { frames := 10, cells := 60, slots := 700, locals := 220 } s m args below meth cm H locs 0 0 (XI G A PP NX 60 700 below args s) (F0 m 395 ls []) := by
    intro hkd bay x v H locs ls w hl
    refine lv_aload_n F.x F.b dL_does_395 rfl (lv_at hl 5 rfl) ?_
    refine rn F w clB q792 (List.mem_of_getElem? (i := 228) (by decide +kernel)) (List.mem_of_getElem? (i := 23) (by decide +kernel)) [.null, .int 0, .int 0, .int 0] (fun j hj => by rcases (show j = 0 ∨ j = 1 ∨ j = 2 ∨ j = 3 by omega) with rfl | rfl | rfl | rfl <;> rfl) (Nat.le_of_ble_eq_true rfl) (Nat.le_of_ble_eq_true rfl) dL_does_396 (fun z1 H w => ?_)
    have w : Wd G A s.heap (fl [wXo G.2.1 (ad 0) (xF ad) svx K, wSh G.2.1 (ad 1) S, wTe G.2.1 (ad 4) C, wHo G.2.1 (ad 3) cu ct hs, hsL G.2.1 hs, [(z1, .inr (1, [.null, .int 0, .int 0, .int 0]))]]) _ _ := w
    refine lv_dup F.x F.b dL_does_399 rfl ?_
    have w := w.re (L' := [[(z1, .inr (1, [.null, .int 0, .int 0, .int 0]))], wXo G.2.1 (ad 0) (xF ad) svx K, wSh G.2.1 (ad 1) S, wTe G.2.1 (ad 4) C, wHo G.2.1 (ad 3) cu ct hs, hsL G.2.1 hs]) 6 [5, 0, 1, 2, 3, 4] rfl rfl rfl
    refine kCI F w (LC := [[(z1, .inr (1, [.null, .int 0, .int 0, .int 0]))]]) (LR := [wXo G.2.1 (ad 0) (xF ad) svx K, wSh G.2.1 (ad 1) S, wTe G.2.1 (ad 4) C, wHo G.2.1 (ad 3) cu ct hs, hsL G.2.1 hs]) (As := []) (rest := [.ref z1, .ref ((ad 0) 0)]) (t_J4_init_da8c8 F.1 (o := fun _ => z1) hSG) m_J4_init_da8c8 v_J4_init_da8c8 rfl q793 6 [0, 1, 2, 3, 4, 5] rfl rfl rfl ⟨Nat.le_of_ble_eq_true rfl, Nat.le_of_ble_eq_true rfl⟩ rfl hl.1 rfl (Nat.le_of_ble_eq_true rfl) dL_does_400 ⟨Nat.le_of_ble_eq_true rfl, Nat.le_of_ble_eq_true rfl⟩ (fun w1 H locs h9 w => ?_)
    obtain ⟨qa, h9⟩ := h9
    have w := w.jn (L1 := [wSb G.2.1 (fun _ => z1) (qa, 16, 0, 0, (fun _ => 0))]) (L' := [wSb G.2.1 (fun _ => z1) (qa, 16, 0, 0, (fun _ => 0)), wXo G.2.1 (ad 0) (xF ad) svx K, wSh G.2.1 (ad 1) S, wTe G.2.1 (ad 4) C, wHo G.2.1 (ad 3) cu ct hs, hsL G.2.1 hs]) h9 6 [0, 1, 2, 3, 4, 5] rfl rfl rfl
    refine rKw F.x F.b F.o (F.ur hUG 0 rfl) dL_does_403 ?_
    refine kVr F w (LC := [wSb G.2.1 (fun _ => z1) (qa, 16, 0, 0, (fun _ => 0))]) (LR := [wXo G.2.1 (ad 0) (xF ad) svx K, wSh G.2.1 (ad 1) S, wTe G.2.1 (ad 4) C, wHo G.2.1 (ad 3) cu ct hs, hsL G.2.1 hs]) (As := [.ref (uk 0)]) (rest := [.ref ((ad 0) 0)]) (t_J4_append_15ec4_U F.1 (o := fun _ => z1) (va := qa) (cp := 16) (n := 0) (mb := 0) (f := (fun _ => 0)) hSG hUG (i := 0) (by decide) pv pv2 (Tx.nil (Or.inl rfl)) (by decide +kernel)) m_J4_append_15ec4 v_J4_append_15ec4 (List.mem_of_getElem? (i := 795) (by decide +kernel)) (ci := 1) (q0 := 0) rfl rfl rfl 6 [0, 1, 2, 3, 4, 5] rfl rfl rfl ⟨Nat.le_of_ble_eq_true rfl, Nat.le_of_ble_eq_true rfl⟩ rfl hl.1 rfl (Nat.le_of_ble_eq_true rfl) dL_does_406 ⟨Nat.le_of_ble_eq_true rfl, Nat.le_of_ble_eq_true rfl⟩ (fun a9 w1 H locs h9 w => ?_)
    obtain ⟨e9, pa, pf, h9, pT⟩ := h9
    have w := w.jn (L1 := [wSb G.2.1 (fun _ => z1) (pa, 16, (0 + lenU.getD 0 0), 0, pf)]) (L' := [wSb G.2.1 (fun _ => z1) (pa, 16, (0 + lenU.getD 0 0), 0, pf), wXo G.2.1 (ad 0) (xF ad) svx K, wSh G.2.1 (ad 1) S, wTe G.2.1 (ad 4) C, wHo G.2.1 (ad 3) cu ct hs, hsL G.2.1 hs]) h9 6 [0, 1, 2, 3, 4, 5] rfl rfl rfl
    obtain rfl : z1 = a9 := e9.symm
    refine lv_iload F.x F.b dL_does_409 (lv_at hl 4 rfl) ?_
    refine kVr F w (LC := [wSb G.2.1 (fun _ => z1) (pa, 16, (0 + lenU.getD 0 0), 0, pf)]) (LR := [wXo G.2.1 (ad 0) (xF ad) svx K, wSh G.2.1 (ad 1) S, wTe G.2.1 (ad 4) C, wHo G.2.1 (ad 3) cu ct hs, hsL G.2.1 hs]) (As := [.int (nI a)]) (rest := [.ref ((ad 0) 0)]) (t_J4_append_bf812 F.1 (o := fun _ => z1) (va := pa) (cp := 16) (n := (0 + lenU.getD 0 0)) (mb := 0) (f := pf) hSG hD pv pT ha (by decide +kernel)) m_J4_append_bf812 v_J4_append_bf812 (List.mem_of_getElem? (i := 911) (by decide +kernel)) (ci := 1) (q0 := 0) rfl rfl rfl 6 [0, 1, 2, 3, 4, 5] rfl rfl rfl ⟨Nat.le_of_ble_eq_true rfl, Nat.le_of_ble_eq_true rfl⟩ rfl hl.1 rfl (Nat.le_of_ble_eq_true rfl) dL_does_411 ⟨Nat.le_of_ble_eq_true rfl, Nat.le_of_ble_eq_true rfl⟩ (fun a9 w1 H locs h9 w => ?_)
    obtain ⟨e9, ga, gn, gf, h9, gT⟩ := h9
    have w := w.jn (L1 := [wSb G.2.1 (fun _ => z1) (ga, 16, gn, 0, gf)]) (L' := [wSb G.2.1 (fun _ => z1) (ga, 16, gn, 0, gf), wXo G.2.1 (ad 0) (xF ad) svx K, wSh G.2.1 (ad 1) S, wTe G.2.1 (ad 4) C, wHo G.2.1 (ad 3) cu ct hs, hsL G.2.1 hs]) h9 6 [0, 1, 2, 3, 4, 5] rfl rfl rfl
    obtain rfl : z1 = a9 := e9.symm
    refine lv_iload F.x F.b dL_does_414 (lv_at hl 2 rfl) ?_
    refine lv_iconst (v := 3) F.x F.b dL_does_416 (by decide) ?_
    refine lv_irem F.x F.b dL_does_417 (by decide) ?_
    have hrl : gn = _ := gT.2.1
    rcases Decidable.em (((nI v) - (nI v) / 3 * 3) = 0) with z | z
    · refine lv_if_ne (tgt := 445) F.x F.b dL_does_418 (by decide) (fun c9 => absurd z c9) (fun _ => ?_)
      refine rn F w clB q792 (List.mem_of_getElem? (i := 228) (by decide +kernel)) (List.mem_of_getElem? (i := 23) (by decide +kernel)) [.null, .int 0, .int 0, .int 0] (fun j hj => by rcases (show j = 0 ∨ j = 1 ∨ j = 2 ∨ j = 3 by omega) with rfl | rfl | rfl | rfl <;> rfl) (Nat.le_of_ble_eq_true rfl) (Nat.le_of_ble_eq_true rfl) dL_does_421 (fun z102 H w => ?_)
      have w : Wd G A s.heap (fl [wSb G.2.1 (fun _ => z1) (ga, 16, gn, 0, gf), wXo G.2.1 (ad 0) (xF ad) svx K, wSh G.2.1 (ad 1) S, wTe G.2.1 (ad 4) C, wHo G.2.1 (ad 3) cu ct hs, hsL G.2.1 hs, [(z102, .inr (1, [.null, .int 0, .int 0, .int 0]))]]) _ _ := w
      refine lv_dup F.x F.b dL_does_424 rfl ?_
      have w := w.re (L' := [[(z102, .inr (1, [.null, .int 0, .int 0, .int 0]))], wSb G.2.1 (fun _ => z1) (ga, 16, gn, 0, gf), wXo G.2.1 (ad 0) (xF ad) svx K, wSh G.2.1 (ad 1) S, wTe G.2.1 (ad 4) C, wHo G.2.1 (ad 3) cu ct hs, hsL G.2.1 hs]) 7 [6, 0, 1, 2, 3, 4, 5] rfl rfl rfl
      refine kCI F w (LC := [[(z102, .inr (1, [.null, .int 0, .int 0, .int 0]))]]) (LR := [wSb G.2.1 (fun _ => z1) (ga, 16, gn, 0, gf), wXo G.2.1 (ad 0) (xF ad) svx K, wSh G.2.1 (ad 1) S, wTe G.2.1 (ad 4) C, wHo G.2.1 (ad 3) cu ct hs, hsL G.2.1 hs]) (As := []) (rest := [.ref z102, .ref z1, .ref ((ad 0) 0)]) (t_J4_init_da8c8 F.1 (o := fun _ => z102) hSG) m_J4_init_da8c8 v_J4_init_da8c8 rfl q793 7 [0, 1, 2, 3, 4, 5, 6] rfl rfl rfl ⟨Nat.le_of_ble_eq_true rfl, Nat.le_of_ble_eq_true rfl⟩ rfl hl.1 rfl (Nat.le_of_ble_eq_true rfl) dL_does_425 ⟨Nat.le_of_ble_eq_true rfl, Nat.le_of_ble_eq_true rfl⟩ (fun w1 H locs h9 w => ?_)
      obtain ⟨qb, h9⟩ := h9
      have w := w.jn (L1 := [wSb G.2.1 (fun _ => z102) (qb, 16, 0, 0, (fun _ => 0))]) (L' := [wSb G.2.1 (fun _ => z102) (qb, 16, 0, 0, (fun _ => 0)), wSb G.2.1 (fun _ => z1) (ga, 16, gn, 0, gf), wXo G.2.1 (ad 0) (xF ad) svx K, wSh G.2.1 (ad 1) S, wTe G.2.1 (ad 4) C, wHo G.2.1 (ad 3) cu ct hs, hsL G.2.1 hs]) h9 7 [0, 1, 2, 3, 4, 5, 6] rfl rfl rfl
      refine rKw F.x F.b F.o (F.ur hUG 1 rfl) dL_does_428 ?_
      refine kVr F w (LC := [wSb G.2.1 (fun _ => z102) (qb, 16, 0, 0, (fun _ => 0))]) (LR := [wSb G.2.1 (fun _ => z1) (ga, 16, gn, 0, gf), wXo G.2.1 (ad 0) (xF ad) svx K, wSh G.2.1 (ad 1) S, wTe G.2.1 (ad 4) C, wHo G.2.1 (ad 3) cu ct hs, hsL G.2.1 hs]) (As := [.ref (uk 1)]) (rest := [.ref z1, .ref ((ad 0) 0)]) (t_J4_append_15ec4_U F.1 (o := fun _ => z102) (va := qb) (cp := 16) (n := 0) (mb := 0) (f := (fun _ => 0)) hSG hUG (i := 1) (by decide) pv pv2 (Tx.nil (Or.inl rfl)) (by decide +kernel)) m_J4_append_15ec4 v_J4_append_15ec4 (List.mem_of_getElem? (i := 795) (by decide +kernel)) (ci := 1) (q0 := 0) rfl rfl rfl 7 [0, 1, 2, 3, 4, 5, 6] rfl rfl rfl ⟨Nat.le_of_ble_eq_true rfl, Nat.le_of_ble_eq_true rfl⟩ rfl hl.1 rfl (Nat.le_of_ble_eq_true rfl) dL_does_431 ⟨Nat.le_of_ble_eq_true rfl, Nat.le_of_ble_eq_true rfl⟩ (fun a9 w1 H locs h9 w => ?_)
      obtain ⟨e9, sa, sf, h9, sT⟩ := h9
      have w := w.jn (L1 := [wSb G.2.1 (fun _ => z102) (sa, 16, (0 + lenU.getD 1 0), 0, sf)]) (L' := [wSb G.2.1 (fun _ => z102) (sa, 16, (0 + lenU.getD 1 0), 0, sf), wSb G.2.1 (fun _ => z1) (ga, 16, gn, 0, gf), wXo G.2.1 (ad 0) (xF ad) svx K, wSh G.2.1 (ad 1) S, wTe G.2.1 (ad 4) C, wHo G.2.1 (ad 3) cu ct hs, hsL G.2.1 hs]) h9 7 [0, 1, 2, 3, 4, 5, 6] rfl rfl rfl
      obtain rfl : z102 = a9 := e9.symm
      refine lv_iload F.x F.b dL_does_434 (lv_at hl 4 rfl) ?_
      refine kVr F w (LC := [wSb G.2.1 (fun _ => z102) (sa, 16, (0 + lenU.getD 1 0), 0, sf)]) (LR := [wSb G.2.1 (fun _ => z1) (ga, 16, gn, 0, gf), wXo G.2.1 (ad 0) (xF ad) svx K, wSh G.2.1 (ad 1) S, wTe G.2.1 (ad 4) C, wHo G.2.1 (ad 3) cu ct hs, hsL G.2.1 hs]) (As := [.int (nI a)]) (rest := [.ref z1, .ref ((ad 0) 0)]) (t_J4_append_bf812 F.1 (o := fun _ => z102) (va := sa) (cp := 16) (n := (0 + lenU.getD 1 0)) (mb := 0) (f := sf) hSG hD pv sT ha (by decide +kernel)) m_J4_append_bf812 v_J4_append_bf812 (List.mem_of_getElem? (i := 911) (by decide +kernel)) (ci := 1) (q0 := 0) rfl rfl rfl 7 [0, 1, 2, 3, 4, 5, 6] rfl rfl rfl ⟨Nat.le_of_ble_eq_true rfl, Nat.le_of_ble_eq_true rfl⟩ rfl hl.1 rfl (Nat.le_of_ble_eq_true rfl) dL_does_436 ⟨Nat.le_of_ble_eq_true rfl, Nat.le_of_ble_eq_true rfl⟩ (fun a9 w1 H locs h9 w => ?_)
      obtain ⟨e9, ta, tn, tf, h9, tT⟩ := h9
      have w := w.jn (L1 := [wSb G.2.1 (fun _ => z102) (ta, 16, tn, 0, tf)]) (L' := [wSb G.2.1 (fun _ => z102) (ta, 16, tn, 0, tf), wSb G.2.1 (fun _ => z1) (ga, 16, gn, 0, gf), wXo G.2.1 (ad 0) (xF ad) svx K, wSh G.2.1 (ad 1) S, wTe G.2.1 (ad 4) C, wHo G.2.1 (ad 3) cu ct hs, hsL G.2.1 hs]) h9 7 [0, 1, 2, 3, 4, 5, 6] rfl rfl rfl
      obtain rfl : z102 = a9 := e9.symm
      have htl : tn = _ := tT.2.1
      have hsum := txL_len (a := a) (v := 1) (by decide)
      have hsum2 := (txL_ok ha (v := 1) (by decide) (by decide)).1
      have hsum3 : gn + tn ≤ 16 := by rw [hrl, htl]; exact Nat.le_trans (Nat.le_of_eq hsum) hsum2
      refine kVr F w (LC := [wSb G.2.1 (fun _ => z102) (ta, 16, tn, 0, tf)]) (LR := [wSb G.2.1 (fun _ => z1) (ga, 16, gn, 0, gf), wXo G.2.1 (ad 0) (xF ad) svx K, wSh G.2.1 (ad 1) S, wTe G.2.1 (ad 4) C, wHo G.2.1 (ad 3) cu ct hs, hsL G.2.1 hs]) (As := []) (rest := [.ref z1, .ref ((ad 0) 0)]) (t_J4_toString_0e30d F.1 (o := fun _ => z102) (va := ta) (cp := 16) (n := tn) (mb := 0) (f := tf) hSG hCB (by omega) (by decide) tT.fz) m_J4_toString_0e30d v_J4_toString_0e30d (List.mem_of_getElem? (i := 937) (by decide +kernel)) (ci := 1) (q0 := 0) rfl rfl rfl 7 [0, 1, 2, 3, 4, 5, 6] rfl rfl rfl ⟨Nat.le_of_ble_eq_true rfl, Nat.le_of_ble_eq_true rfl⟩ rfl hl.1 rfl (Nat.le_of_ble_eq_true rfl) dL_does_439 ⟨Nat.le_of_ble_eq_true rfl, Nat.le_of_ble_eq_true rfl⟩ (fun a9 w1 H locs h9 w => ?_)
      obtain ⟨sv9, f9, h9, hk9⟩ := h9
      have w := w.jn (L1 := [wSb G.2.1 (fun _ => z102) (ta, 16, tn, 0, tf), wSt G.2.1 a9 sv9 tn f9]) (L' := [wSb G.2.1 (fun _ => z102) (ta, 16, tn, 0, tf), wSt G.2.1 a9 sv9 tn f9, wSb G.2.1 (fun _ => z1) (ga, 16, gn, 0, gf), wXo G.2.1 (ad 0) (xF ad) svx K, wSh G.2.1 (ad 1) S, wTe G.2.1 (ad 4) C, wHo G.2.1 (ad 3) cu ct hs, hsL G.2.1 hs]) h9 8 [0, 1, 2, 3, 4, 5, 6, 7] rfl rfl rfl
      refine lv_goto (tgt := 480) F.x F.b dL_does_442 (by decide) ?_
      have w := w.re (L' := [wSb G.2.1 (fun _ => z1) (ga, 16, gn, 0, gf), wSt G.2.1 a9 sv9 tn f9, wXo G.2.1 (ad 0) (xF ad) svx K, wSh G.2.1 (ad 1) S, wTe G.2.1 (ad 4) C, wHo G.2.1 (ad 3) cu ct hs, hsL G.2.1 hs, wSb G.2.1 (fun _ => z102) (ta, 16, tn, 0, tf)]) 8 [2, 1, 3, 4, 5, 6, 7, 0] rfl rfl rfl
      refine kVr F w (LC := [wSb G.2.1 (fun _ => z1) (ga, 16, gn, 0, gf), wSt G.2.1 a9 sv9 tn f9]) (LR := [wXo G.2.1 (ad 0) (xF ad) svx K, wSh G.2.1 (ad 1) S, wTe G.2.1 (ad 4) C, wHo G.2.1 (ad 3) cu ct hs, hsL G.2.1 hs, wSb G.2.1 (fun _ => z102) (ta, 16, tn, 0, tf)]) (As := [.ref a9]) (rest := [.ref ((ad 0) 0)]) (t_J4_append_15ec4_S F.1 (o := fun _ => z1) (so := a9) (sv := sv9) (tn := tn) (fs := f9) (va := ga) (cp := 16) (n := gn) (mb := 0) (f := gf) hSG pv pv2 gT hsum3 (tT.bx hk9)) m_J4_append_15ec4 v_J4_append_15ec4 (List.mem_of_getElem? (i := 795) (by decide +kernel)) (ci := 1) (q0 := 0) rfl rfl rfl 8 [0, 1, 2, 3, 4, 5, 6, 7] rfl rfl rfl ⟨Nat.le_of_ble_eq_true rfl, Nat.le_of_ble_eq_true rfl⟩ rfl hl.1 rfl (Nat.le_of_ble_eq_true rfl) dL_does_480 ⟨Nat.le_of_ble_eq_true rfl, Nat.le_of_ble_eq_true rfl⟩ (fun a8 w1 H locs h9 w => ?_)
      obtain ⟨e9, ua, uf, h9, uT⟩ := h9
      have w := w.jn (L1 := [wSb G.2.1 (fun _ => z1) (ua, 16, (gn + tn), 0, uf), wSt G.2.1 a9 sv9 tn f9]) (L' := [wSb G.2.1 (fun _ => z1) (ua, 16, (gn + tn), 0, uf), wSt G.2.1 a9 sv9 tn f9, wXo G.2.1 (ad 0) (xF ad) svx K, wSh G.2.1 (ad 1) S, wTe G.2.1 (ad 4) C, wHo G.2.1 (ad 3) cu ct hs, hsL G.2.1 hs, wSb G.2.1 (fun _ => z102) (ta, 16, tn, 0, tf)]) h9 8 [0, 1, 2, 3, 4, 5, 6, 7] rfl rfl rfl
      obtain rfl : z1 = a8 := e9.symm
      have w := w.re (L' := [wSb G.2.1 (fun _ => z1) (ua, 16, (gn + tn), 0, uf), wXo G.2.1 (ad 0) (xF ad) svx K, wSh G.2.1 (ad 1) S, wTe G.2.1 (ad 4) C, wHo G.2.1 (ad 3) cu ct hs, hsL G.2.1 hs, wSt G.2.1 a9 sv9 tn f9, wSb G.2.1 (fun _ => z102) (ta, 16, tn, 0, tf)]) 8 [0, 2, 3, 4, 5, 6, 1, 7] rfl rfl rfl
      have w : Wd G A s.heap (fl ([wSb G.2.1 (fun _ => z1) (ua, 16, (gn + tn), 0, uf), wXo G.2.1 (ad 0) (xF ad) svx K, wSh G.2.1 (ad 1) S, wTe G.2.1 (ad 4) C, wHo G.2.1 (ad 3) cu ct hs, hsL G.2.1 hs] ++ [wSt G.2.1 a9 sv9 tn f9, wSb G.2.1 (fun _ => z102) (ta, 16, tn, 0, tf)])) _ _ := w
      have w := w.drop
      exact K483 hkd bay x v 1 (by decide) (by decide) _ _ z1 ua (gn + tn) 0 uf H locs ls uT (by decide) (by decide) w (lv_sub hl [0, 1, 2, 3, 4, 5, 6, 7, 8] rfl)
    · refine lv_if_ne (tgt := 445) F.x F.b dL_does_418 (by decide) (fun _ => ?_) (fun c9 => absurd c9 z)
      refine lv_iload F.x F.b dL_does_445 (lv_at hl 2 rfl) ?_
      refine lv_iconst (v := 3) F.x F.b dL_does_447 (by decide) ?_
      refine lv_irem F.x F.b dL_does_448 (by decide) ?_
      refine lv_iconst (v := 1) F.x F.b dL_does_449 (by decide) ?_
      rcases Decidable.em (((nI v) - (nI v) / 3 * 3) = 1) with y | y
      · refine lv_icmp_ne (tgt := 477) F.x F.b dL_does_450 (by decide) (fun c9 => absurd y c9) (fun _ => ?_)
        refine rn F w clB q792 (List.mem_of_getElem? (i := 228) (by decide +kernel)) (List.mem_of_getElem? (i := 23) (by decide +kernel)) [.null, .int 0, .int 0, .int 0] (fun j hj => by rcases (show j = 0 ∨ j = 1 ∨ j = 2 ∨ j = 3 by omega) with rfl | rfl | rfl | rfl <;> rfl) (Nat.le_of_ble_eq_true rfl) (Nat.le_of_ble_eq_true rfl) dL_does_453 (fun z202 H w => ?_)
        have w : Wd G A s.heap (fl [wSb G.2.1 (fun _ => z1) (ga, 16, gn, 0, gf), wXo G.2.1 (ad 0) (xF ad) svx K, wSh G.2.1 (ad 1) S, wTe G.2.1 (ad 4) C, wHo G.2.1 (ad 3) cu ct hs, hsL G.2.1 hs, [(z202, .inr (1, [.null, .int 0, .int 0, .int 0]))]]) _ _ := w
        refine lv_dup F.x F.b dL_does_456 rfl ?_
        have w := w.re (L' := [[(z202, .inr (1, [.null, .int 0, .int 0, .int 0]))], wSb G.2.1 (fun _ => z1) (ga, 16, gn, 0, gf), wXo G.2.1 (ad 0) (xF ad) svx K, wSh G.2.1 (ad 1) S, wTe G.2.1 (ad 4) C, wHo G.2.1 (ad 3) cu ct hs, hsL G.2.1 hs]) 7 [6, 0, 1, 2, 3, 4, 5] rfl rfl rfl
        refine kCI F w (LC := [[(z202, .inr (1, [.null, .int 0, .int 0, .int 0]))]]) (LR := [wSb G.2.1 (fun _ => z1) (ga, 16, gn, 0, gf), wXo G.2.1 (ad 0) (xF ad) svx K, wSh G.2.1 (ad 1) S, wTe G.2.1 (ad 4) C, wHo G.2.1 (ad 3) cu ct hs, hsL G.2.1 hs]) (As := []) (rest := [.ref z202, .ref z1, .ref ((ad 0) 0)]) (t_J4_init_da8c8 F.1 (o := fun _ => z202) hSG) m_J4_init_da8c8 v_J4_init_da8c8 rfl q793 7 [0, 1, 2, 3, 4, 5, 6] rfl rfl rfl ⟨Nat.le_of_ble_eq_true rfl, Nat.le_of_ble_eq_true rfl⟩ rfl hl.1 rfl (Nat.le_of_ble_eq_true rfl) dL_does_457 ⟨Nat.le_of_ble_eq_true rfl, Nat.le_of_ble_eq_true rfl⟩ (fun w1 H locs h9 w => ?_)
        obtain ⟨qb, h9⟩ := h9
        have w := w.jn (L1 := [wSb G.2.1 (fun _ => z202) (qb, 16, 0, 0, (fun _ => 0))]) (L' := [wSb G.2.1 (fun _ => z202) (qb, 16, 0, 0, (fun _ => 0)), wSb G.2.1 (fun _ => z1) (ga, 16, gn, 0, gf), wXo G.2.1 (ad 0) (xF ad) svx K, wSh G.2.1 (ad 1) S, wTe G.2.1 (ad 4) C, wHo G.2.1 (ad 3) cu ct hs, hsL G.2.1 hs]) h9 7 [0, 1, 2, 3, 4, 5, 6] rfl rfl rfl
        refine rKw F.x F.b F.o (F.ur hUG 2 rfl) dL_does_460 ?_
        refine kVr F w (LC := [wSb G.2.1 (fun _ => z202) (qb, 16, 0, 0, (fun _ => 0))]) (LR := [wSb G.2.1 (fun _ => z1) (ga, 16, gn, 0, gf), wXo G.2.1 (ad 0) (xF ad) svx K, wSh G.2.1 (ad 1) S, wTe G.2.1 (ad 4) C, wHo G.2.1 (ad 3) cu ct hs, hsL G.2.1 hs]) (As := [.ref (uk 2)]) (rest := [.ref z1, .ref ((ad 0) 0)]) (t_J4_append_15ec4_U F.1 (o := fun _ => z202) (va := qb) (cp := 16) (n := 0) (mb := 0) (f := (fun _ => 0)) hSG hUG (i := 2) (by decide) pv pv2 (Tx.nil (Or.inl rfl)) (by decide +kernel)) m_J4_append_15ec4 v_J4_append_15ec4 (List.mem_of_getElem? (i := 795) (by decide +kernel)) (ci := 1) (q0 := 0) rfl rfl rfl 7 [0, 1, 2, 3, 4, 5, 6] rfl rfl rfl ⟨Nat.le_of_ble_eq_true rfl, Nat.le_of_ble_eq_true rfl⟩ rfl hl.1 rfl (Nat.le_of_ble_eq_true rfl) dL_does_463 ⟨Nat.le_of_ble_eq_true rfl, Nat.le_of_ble_eq_true rfl⟩ (fun a9 w1 H locs h9 w => ?_)
        obtain ⟨e9, sa, sf, h9, sT⟩ := h9
        have w := w.jn (L1 := [wSb G.2.1 (fun _ => z202) (sa, 16, (0 + lenU.getD 2 0), 0, sf)]) (L' := [wSb G.2.1 (fun _ => z202) (sa, 16, (0 + lenU.getD 2 0), 0, sf), wSb G.2.1 (fun _ => z1) (ga, 16, gn, 0, gf), wXo G.2.1 (ad 0) (xF ad) svx K, wSh G.2.1 (ad 1) S, wTe G.2.1 (ad 4) C, wHo G.2.1 (ad 3) cu ct hs, hsL G.2.1 hs]) h9 7 [0, 1, 2, 3, 4, 5, 6] rfl rfl rfl
        obtain rfl : z202 = a9 := e9.symm
        refine lv_iload F.x F.b dL_does_466 (lv_at hl 4 rfl) ?_
        refine kVr F w (LC := [wSb G.2.1 (fun _ => z202) (sa, 16, (0 + lenU.getD 2 0), 0, sf)]) (LR := [wSb G.2.1 (fun _ => z1) (ga, 16, gn, 0, gf), wXo G.2.1 (ad 0) (xF ad) svx K, wSh G.2.1 (ad 1) S, wTe G.2.1 (ad 4) C, wHo G.2.1 (ad 3) cu ct hs, hsL G.2.1 hs]) (As := [.int (nI a)]) (rest := [.ref z1, .ref ((ad 0) 0)]) (t_J4_append_bf812 F.1 (o := fun _ => z202) (va := sa) (cp := 16) (n := (0 + lenU.getD 2 0)) (mb := 0) (f := sf) hSG hD pv sT ha (by decide +kernel)) m_J4_append_bf812 v_J4_append_bf812 (List.mem_of_getElem? (i := 911) (by decide +kernel)) (ci := 1) (q0 := 0) rfl rfl rfl 7 [0, 1, 2, 3, 4, 5, 6] rfl rfl rfl ⟨Nat.le_of_ble_eq_true rfl, Nat.le_of_ble_eq_true rfl⟩ rfl hl.1 rfl (Nat.le_of_ble_eq_true rfl) dL_does_468 ⟨Nat.le_of_ble_eq_true rfl, Nat.le_of_ble_eq_true rfl⟩ (fun a9 w1 H locs h9 w => ?_)
        obtain ⟨e9, ta, tn, tf, h9, tT⟩ := h9
        have w := w.jn (L1 := [wSb G.2.1 (fun _ => z202) (ta, 16, tn, 0, tf)]) (L' := [wSb G.2.1 (fun _ => z202) (ta, 16, tn, 0, tf), wSb G.2.1 (fun _ => z1) (ga, 16, gn, 0, gf), wXo G.2.1 (ad 0) (xF ad) svx K, wSh G.2.1 (ad 1) S, wTe G.2.1 (ad 4) C, wHo G.2.1 (ad 3) cu ct hs, hsL G.2.1 hs]) h9 7 [0, 1, 2, 3, 4, 5, 6] rfl rfl rfl
        obtain rfl : z202 = a9 := e9.symm
        have htl : tn = _ := tT.2.1
        have hsum := txL_len (a := a) (v := 2) (by decide)
        have hsum2 := (txL_ok ha (v := 2) (by decide) (by decide)).1
        have hsum3 : gn + tn ≤ 16 := by rw [hrl, htl]; exact Nat.le_trans (Nat.le_of_eq hsum) hsum2
        refine kVr F w (LC := [wSb G.2.1 (fun _ => z202) (ta, 16, tn, 0, tf)]) (LR := [wSb G.2.1 (fun _ => z1) (ga, 16, gn, 0, gf), wXo G.2.1 (ad 0) (xF ad) svx K, wSh G.2.1 (ad 1) S, wTe G.2.1 (ad 4) C, wHo G.2.1 (ad 3) cu ct hs, hsL G.2.1 hs]) (As := []) (rest := [.ref z1, .ref ((ad 0) 0)]) (t_J4_toString_0e30d F.1 (o := fun _ => z202) (va := ta) (cp := 16) (n := tn) (mb := 0) (f := tf) hSG hCB (by omega) (by decide) tT.fz) m_J4_toString_0e30d v_J4_toString_0e30d (List.mem_of_getElem? (i := 937) (by decide +kernel)) (ci := 1) (q0 := 0) rfl rfl rfl 7 [0, 1, 2, 3, 4, 5, 6] rfl rfl rfl ⟨Nat.le_of_ble_eq_true rfl, Nat.le_of_ble_eq_true rfl⟩ rfl hl.1 rfl (Nat.le_of_ble_eq_true rfl) dL_does_471 ⟨Nat.le_of_ble_eq_true rfl, Nat.le_of_ble_eq_true rfl⟩ (fun a9 w1 H locs h9 w => ?_)
        obtain ⟨sv9, f9, h9, hk9⟩ := h9
        have w := w.jn (L1 := [wSb G.2.1 (fun _ => z202) (ta, 16, tn, 0, tf), wSt G.2.1 a9 sv9 tn f9]) (L' := [wSb G.2.1 (fun _ => z202) (ta, 16, tn, 0, tf), wSt G.2.1 a9 sv9 tn f9, wSb G.2.1 (fun _ => z1) (ga, 16, gn, 0, gf), wXo G.2.1 (ad 0) (xF ad) svx K, wSh G.2.1 (ad 1) S, wTe G.2.1 (ad 4) C, wHo G.2.1 (ad 3) cu ct hs, hsL G.2.1 hs]) h9 8 [0, 1, 2, 3, 4, 5, 6, 7] rfl rfl rfl
        refine lv_goto (tgt := 480) F.x F.b dL_does_474 (by decide) ?_
        have w := w.re (L' := [wSb G.2.1 (fun _ => z1) (ga, 16, gn, 0, gf), wSt G.2.1 a9 sv9 tn f9, wXo G.2.1 (ad 0) (xF ad) svx K, wSh G.2.1 (ad 1) S, wTe G.2.1 (ad 4) C, wHo G.2.1 (ad 3) cu ct hs, hsL G.2.1 hs, wSb G.2.1 (fun _ => z202) (ta, 16, tn, 0, tf)]) 8 [2, 1, 3, 4, 5, 6, 7, 0] rfl rfl rfl
        refine kVr F w (LC := [wSb G.2.1 (fun _ => z1) (ga, 16, gn, 0, gf), wSt G.2.1 a9 sv9 tn f9]) (LR := [wXo G.2.1 (ad 0) (xF ad) svx K, wSh G.2.1 (ad 1) S, wTe G.2.1 (ad 4) C, wHo G.2.1 (ad 3) cu ct hs, hsL G.2.1 hs, wSb G.2.1 (fun _ => z202) (ta, 16, tn, 0, tf)]) (As := [.ref a9]) (rest := [.ref ((ad 0) 0)]) (t_J4_append_15ec4_S F.1 (o := fun _ => z1) (so := a9) (sv := sv9) (tn := tn) (fs := f9) (va := ga) (cp := 16) (n := gn) (mb := 0) (f := gf) hSG pv pv2 gT hsum3 (tT.bx hk9)) m_J4_append_15ec4 v_J4_append_15ec4 (List.mem_of_getElem? (i := 795) (by decide +kernel)) (ci := 1) (q0 := 0) rfl rfl rfl 8 [0, 1, 2, 3, 4, 5, 6, 7] rfl rfl rfl ⟨Nat.le_of_ble_eq_true rfl, Nat.le_of_ble_eq_true rfl⟩ rfl hl.1 rfl (Nat.le_of_ble_eq_true rfl) dL_does_480 ⟨Nat.le_of_ble_eq_true rfl, Nat.le_of_ble_eq_true rfl⟩ (fun a8 w1 H locs h9 w => ?_)
        obtain ⟨e9, ua, uf, h9, uT⟩ := h9
        have w := w.jn (L1 := [wSb G.2.1 (fun _ => z1) (ua, 16, (gn + tn), 0, uf), wSt G.2.1 a9 sv9 tn f9]) (L' := [wSb G.2.1 (fun _ => z1) (ua, 16, (gn + tn), 0, uf), wSt G.2.1 a9 sv9 tn f9, wXo G.2.1 (ad 0) (xF ad) svx K, wSh G.2.1 (ad 1) S, wTe G.2.1 (ad 4) C, wHo G.2.1 (ad 3) cu ct hs, hsL G.2.1 hs, wSb G.2.1 (fun _ => z202) (ta, 16, tn, 0, tf)]) h9 8 [0, 1, 2, 3, 4, 5, 6, 7] rfl rfl rfl
        obtain rfl : z1 = a8 := e9.symm
        have w := w.re (L' := [wSb G.2.1 (fun _ => z1) (ua, 16, (gn + tn), 0, uf), wXo G.2.1 (ad 0) (xF ad) svx K, wSh G.2.1 (ad 1) S, wTe G.2.1 (ad 4) C, wHo G.2.1 (ad 3) cu ct hs, hsL G.2.1 hs, wSt G.2.1 a9 sv9 tn f9, wSb G.2.1 (fun _ => z202) (ta, 16, tn, 0, tf)]) 8 [0, 2, 3, 4, 5, 6, 1, 7] rfl rfl rfl
        have w : Wd G A s.heap (fl ([wSb G.2.1 (fun _ => z1) (ua, 16, (gn + tn), 0, uf), wXo G.2.1 (ad 0) (xF ad) svx K, wSh G.2.1 (ad 1) S, wTe G.2.1 (ad 4) C, wHo G.2.1 (ad 3) cu ct hs, hsL G.2.1 hs] ++ [wSt G.2.1 a9 sv9 tn f9, wSb G.2.1 (fun _ => z202) (ta, 16, tn, 0, tf)])) _ _ := w
        have w := w.drop
        exact K483 hkd bay x v 2 (by decide) (by decide) _ _ z1 ua (gn + tn) 0 uf H locs ls uT (by decide) (by decide) w (lv_sub hl [0, 1, 2, 3, 4, 5, 6, 7, 8] rfl)
      · refine lv_icmp_ne (tgt := 477) F.x F.b dL_does_450 (by decide) (fun _ => ?_) (fun c9 => absurd c9 y)
        refine rKw F.x F.b F.o (F.ur hUG 3 rfl) dL_does_477 ?_
        have hsum := txL_len3 (a := a)
        have hsum2 := (txL_ok ha (v := 3) (by decide) (by decide)).1
        have hsum3 : gn + lenU.getD 3 0 ≤ 16 := by rw [hrl]; exact Nat.le_trans (Nat.le_of_eq hsum) hsum2
        refine kVr F w (LC := [wSb G.2.1 (fun _ => z1) (ga, 16, gn, 0, gf)]) (LR := [wXo G.2.1 (ad 0) (xF ad) svx K, wSh G.2.1 (ad 1) S, wTe G.2.1 (ad 4) C, wHo G.2.1 (ad 3) cu ct hs, hsL G.2.1 hs]) (As := [.ref (uk 3)]) (rest := [.ref ((ad 0) 0)]) (t_J4_append_15ec4_U F.1 (o := fun _ => z1) (va := ga) (cp := 16) (n := gn) (mb := 0) (f := gf) hSG hUG (i := 3) (by decide) pv pv2 gT hsum3) m_J4_append_15ec4 v_J4_append_15ec4 (List.mem_of_getElem? (i := 795) (by decide +kernel)) (ci := 1) (q0 := 0) rfl rfl rfl 6 [0, 1, 2, 3, 4, 5] rfl rfl rfl ⟨Nat.le_of_ble_eq_true rfl, Nat.le_of_ble_eq_true rfl⟩ rfl hl.1 rfl (Nat.le_of_ble_eq_true rfl) dL_does_480 ⟨Nat.le_of_ble_eq_true rfl, Nat.le_of_ble_eq_true rfl⟩ (fun a9 w1 H locs h9 w => ?_)
        obtain ⟨e9, ua, uf, h9, uT⟩ := h9
        have w := w.jn (L1 := [wSb G.2.1 (fun _ => z1) (ua, 16, (gn + lenU.getD 3 0), 0, uf)]) (L' := [wSb G.2.1 (fun _ => z1) (ua, 16, (gn + lenU.getD 3 0), 0, uf), wXo G.2.1 (ad 0) (xF ad) svx K, wSh G.2.1 (ad 1) S, wTe G.2.1 (ad 4) C, wHo G.2.1 (ad 3) cu ct hs, hsL G.2.1 hs]) h9 6 [0, 1, 2, 3, 4, 5] rfl rfl rfl
        obtain rfl : z1 = a9 := e9.symm
        exact K483 hkd bay x v 3 (by decide) (by decide) _ _ z1 ua (gn + lenU.getD 3 0) 0 uf H locs ls uT (by decide) (by decide) w (lv_sub hl [0, 1, 2, 3, 4, 5, 6, 7, 8] rfl)
  have K46 : ∀ (bay : Int32) (x v : Nat), ∀ (H : Heap) (locs : List Loc) (ls : Array Slot), Wd G A s.heap (fl [wXo G.2.1 (ad 0) (xF ad) svx K, wSh G.2.1 (ad 1) S, wTe G.2.1 (ad 4) C, wHo G.2.1 (ad 3) cu ct hs, hsL G.2.1 hs]) H locs → lv_has ls 9 [(8, .int bay), (7, .int (nI x)), (6, .int (nI v)), (5, .int (nI e)), (4, .int (nI a)), (3, .ref ((ad 0) 0)), (2, .int (nI kd)), (1, .int (nI k)), (0, .ref b)] → W p l e0 { frames := 10, cells := 60, slots := 700, locals := 220 } s m args below meth cm H locs 0 0 (XI G A PP NX 60 700 below args s) (F0 m 46 ls []) := by
    intro bay x v H locs ls w hl
    refine lv_iload_n F.x F.b dL_does_46 rfl (lv_at hl 6 rfl) ?_
    rcases (show (kd < 8) ∨ (kd = 8 ∨ kd = 11) ∨ (kd = 9 ∨ kd = 10) ∨ (kd = 12 ∨ kd = 26) ∨ (13 ≤ kd ∧ kd ≤ 15) ∨ (16 ≤ kd ∧ kd ≤ 18) ∨ (kd = 19) ∨ (20 ≤ kd ∧ kd ≤ 25) ∨ (27 ≤ kd ∧ kd ≤ 31) ∨ (32 ≤ kd ∧ kd ≤ 36) ∨ (kd = 37) ∨ (38 ≤ kd ∧ kd ≤ 43) ∨ (44 ≤ kd) by omega) with hk | hk | hk | hk | hk | hk | hk | hk | hk | hk | hk | hk | hk
    · refine lv_tableIn (tgt := 236) F.x F.b dL_does_47 (ts_236 kd hkd48 hk).1 (ts_236 kd hkd48 hk).2.1 (ts_236 kd hkd48 hk).2.2 (by decide) ?_
      refine lv_aload_n F.x F.b dL_does_236 rfl (lv_at hl 5 rfl) ?_
      refine lv_bipush (v := 97) F.x F.b dL_does_237 (by decide) ?_
      refine lv_iload F.x F.b dL_does_239 (lv_at hl 2 rfl) ?_
      refine lv_bipush (v := 6) F.x F.b dL_does_241 (by decide) ?_
      refine lv_irem F.x F.b dL_does_243 (by decide) ?_
      refine lv_iload F.x F.b dL_does_244 (lv_at hl 2 rfl) ?_
      refine lv_bipush (v := 29) F.x F.b dL_does_246 (by decide) ?_
      refine lv_irem F.x F.b dL_does_248 (by decide) ?_
      rcases Decidable.em (((nI v) - (nI v) / 29 * 29) = 0) with z | z
      · refine lv_if_ne (tgt := 257) F.x F.b dL_does_249 (by decide) (fun c9 => absurd z c9) (fun _ => ?_)
        refine lv_bipush (v := 6) F.x F.b dL_does_252 (by decide) ?_
        refine lv_goto (tgt := 258) F.x F.b dL_does_254 (by decide) ?_
        refine lv_irem F.x F.b dL_does_258 (by decide) ?_
        refine lv_iadd F.x F.b dL_does_259 ?_
        refine lv_i2c (v := ((97 + (((nI v) - (nI v) / 6 * 6) - ((nI v) - (nI v) / 6 * 6) / 6 * 6)).toUInt32 % 65536).toInt32) F.x F.b dL_does_260 rfl ?_
        exact K261 bay x v hk _ H locs ls w (lv_sub hl [0, 1, 2, 3, 4, 5, 6, 7, 8] rfl)
      · refine lv_if_ne (tgt := 257) F.x F.b dL_does_249 (by decide) (fun _ => ?_) (fun c9 => absurd c9 z)
        refine lv_iconst (v := 5) F.x F.b dL_does_257 (by decide) ?_
        refine lv_irem F.x F.b dL_does_258 (by decide) ?_
        refine lv_iadd F.x F.b dL_does_259 ?_
        refine lv_i2c (v := ((97 + (((nI v) - (nI v) / 6 * 6) - ((nI v) - (nI v) / 6 * 6) / 5 * 5)).toUInt32 % 65536).toInt32) F.x F.b dL_does_260 rfl ?_
        exact K261 bay x v hk _ H locs ls w (lv_sub hl [0, 1, 2, 3, 4, 5, 6, 7, 8] rfl)
    · refine lv_tableIn (tgt := 297) F.x F.b dL_does_47 (ts_297 kd hkd48 hk).1 (ts_297 kd hkd48 hk).2.1 (ts_297 kd hkd48 hk).2.2 (by decide) ?_
      refine lv_aload_n F.x F.b dL_does_297 rfl (lv_at hl 5 rfl) ?_
      rcases g_audit h hN with ⟨q0, e1⟩ | ⟨r, S', t', pp, hr9, e1, g', m9, q0, e5, hp, e6, e7⟩
      · refine kLi F w hst (LC := [wXo G.2.1 (ad 0) (xF ad) svx K, wSh G.2.1 (ad 1) S, wHo G.2.1 (ad 3) cu ct hs, hsL G.2.1 hs]) (LR := [wTe G.2.1 (ad 4) C]) (As := [.ref ((ad 0) 0)]) (rest := []) (l_audit_no F.1 gM hNC k1 h.copies e1 (List.mem_singleton.mpr rfl)) mh_audit vh_audit (List.mem_of_getElem? (i := 687) (by decide +kernel)) 5 [0, 1, 3, 4, 2] rfl rfl rfl ⟨Nat.le_of_ble_eq_true rfl, Nat.le_of_ble_eq_true rfl⟩ rfl hl.1 rfl (Nat.le_of_ble_eq_true rfl) dL_does_298 ⟨Nat.le_of_ble_eq_true rfl, Nat.le_of_ble_eq_true rfl⟩ (fun r9 w1 H locs h9 w => ?_)
        obtain ⟨rfl, b9, P9, hP, h9⟩ := h9
        have w := w.jn (L1 := [wXo G.2.1 (ad 0) (xF ad) svx K, wSh G.2.1 (ad 1) S, wHo G.2.1 (ad 3) cu ct (hput hs cu (b9, P9)), hsL G.2.1 (hput hs cu (b9, P9))]) (L' := [wXo G.2.1 (ad 0) (xF ad) svx K, wSh G.2.1 (ad 1) S, wTe G.2.1 (ad 4) C, wHo G.2.1 (ad 3) cu ct (hput hs cu (b9, P9)), hsL G.2.1 (hput hs cu (b9, P9))]) h9 5 [0, 1, 4, 2, 3] rfl rfl rfl
        exact eiX F w hr hlocks rfl (hPP ▸ Or.inl ⟨K, S, C, _, cdE_rf _, (fun z => absurd z (by omega)), sameRf S, (HF.rf cu hs).put _, hC0, rfl⟩) (Nat.le_of_ble_eq_true rfl) (Nat.le_of_ble_eq_true rfl) dL_does_301
      · refine kLi F w hst (LC := [wXo G.2.1 (ad 0) (xF ad) svx K, wSh G.2.1 (ad 1) S, wHo G.2.1 (ad 3) cu ct hs, hsL G.2.1 hs]) (LR := [wTe G.2.1 (ad 4) C]) (As := [.ref ((ad 0) 0)]) (rest := []) (l_audit_ok F.1 k1 h.copies k2 hr9 e1) mh_audit vh_audit (List.mem_of_getElem? (i := 687) (by decide +kernel)) 5 [0, 1, 3, 4, 2] rfl rfl rfl ⟨Nat.le_of_ble_eq_true rfl, Nat.le_of_ble_eq_true rfl⟩ rfl hl.1 rfl (Nat.le_of_ble_eq_true rfl) dL_does_298 ⟨Nat.le_of_ble_eq_true rfl, Nat.le_of_ble_eq_true rfl⟩ (fun r9 w1 H locs h9 w => ?_)
        obtain ⟨rfl, b9, P9, hP, h9⟩ := h9
        have w := w.jn (L1 := [wXo G.2.1 (ad 0) (xF ad) svx K, wSh G.2.1 (ad 1) S', wHo G.2.1 (ad 3) (nxt cu) (cap ct) (hput hs cu (b9, P9)), hsL G.2.1 (hput hs cu (b9, P9))]) (L' := [wXo G.2.1 (ad 0) (xF ad) svx K, wSh G.2.1 (ad 1) S', wTe G.2.1 (ad 4) C, wHo G.2.1 (ad 3) (nxt cu) (cap ct) (hput hs cu (b9, P9)), hsL G.2.1 (hput hs cu (b9, P9))]) h9 5 [0, 1, 4, 2, 3] rfl rfl rfl
        exact eiX F w hr hlocks rfl (hPP ▸ Or.inr ⟨r, K, S', C, _, _, _, b9, P9, rfl, hr9, g', hP, (yeF_aud m9 hk q0 e5 hp e6 e7), hC0, rfl⟩) (Nat.le_of_ble_eq_true rfl) (Nat.le_of_ble_eq_true rfl) dL_does_301
    · refine lv_tableIn (tgt := 302) F.x F.b dL_does_47 (ts_302 kd hkd48 hk).1 (ts_302 kd hkd48 hk).2.1 (ts_302 kd hkd48 hk).2.2 (by decide) ?_
      refine lv_aload_n F.x F.b dL_does_302 rfl (lv_at hl 5 rfl) ?_
      refine lv_iload F.x F.b dL_does_303 (lv_at hl 1 rfl) ?_
      refine lv_sipush (v := 1001) F.x F.b dL_does_305 (by decide) ?_
      refine lv_irem F.x F.b dL_does_308 (by decide) ?_
      rcases g_coins h ((nI x) - (nI x) / 1001 * 1001) with ⟨E, hE, e1⟩ | ⟨r, S', t', q', hr9, e1, g', e4⟩
      · refine kLi F w hst (LC := [wXo G.2.1 (ad 0) (xF ad) svx K, wSh G.2.1 (ad 1) S, wHo G.2.1 (ad 3) cu ct hs, hsL G.2.1 hs]) (LR := [wTe G.2.1 (ad 4) C]) (As := [.ref ((ad 0) 0), .int ((nI x) - (nI x) / 1001 * 1001)]) (rest := []) (l_deposit_no F.1 gM hNC k1 h.copies e1 hE) mh_deposit vh_deposit (List.mem_of_getElem? (i := 699) (by decide +kernel)) 5 [0, 1, 3, 4, 2] rfl rfl rfl ⟨Nat.le_of_ble_eq_true rfl, Nat.le_of_ble_eq_true rfl⟩ rfl hl.1 rfl (Nat.le_of_ble_eq_true rfl) dL_does_309 ⟨Nat.le_of_ble_eq_true rfl, Nat.le_of_ble_eq_true rfl⟩ (fun r9 w1 H locs h9 w => ?_)
        obtain ⟨rfl, b9, P9, hP, h9⟩ := h9
        have w := w.jn (L1 := [wXo G.2.1 (ad 0) (xF ad) svx K, wSh G.2.1 (ad 1) S, wHo G.2.1 (ad 3) cu ct (hput hs cu (b9, P9)), hsL G.2.1 (hput hs cu (b9, P9))]) (L' := [wXo G.2.1 (ad 0) (xF ad) svx K, wSh G.2.1 (ad 1) S, wTe G.2.1 (ad 4) C, wHo G.2.1 (ad 3) cu ct (hput hs cu (b9, P9)), hsL G.2.1 (hput hs cu (b9, P9))]) h9 5 [0, 1, 4, 2, 3] rfl rfl rfl
        exact eiX F w hr hlocks rfl (hPP ▸ Or.inl ⟨K, S, C, _, cdE_rf _, (fun z => absurd z (by omega)), sameRf S, (HF.rf cu hs).put _, hC0, rfl⟩) (Nat.le_of_ble_eq_true rfl) (Nat.le_of_ble_eq_true rfl) dL_does_312
      · refine kLi F w hst (LC := [wXo G.2.1 (ad 0) (xF ad) svx K, wSh G.2.1 (ad 1) S, wHo G.2.1 (ad 3) cu ct hs, hsL G.2.1 hs]) (LR := [wTe G.2.1 (ad 4) C]) (As := [.ref ((ad 0) 0), .int ((nI x) - (nI x) / 1001 * 1001)]) (rest := []) (l_deposit_ok F.1 k1 h.copies k2 hr9 e1) mh_deposit vh_deposit (List.mem_of_getElem? (i := 699) (by decide +kernel)) 5 [0, 1, 3, 4, 2] rfl rfl rfl ⟨Nat.le_of_ble_eq_true rfl, Nat.le_of_ble_eq_true rfl⟩ rfl hl.1 rfl (Nat.le_of_ble_eq_true rfl) dL_does_309 ⟨Nat.le_of_ble_eq_true rfl, Nat.le_of_ble_eq_true rfl⟩ (fun r9 w1 H locs h9 w => ?_)
        obtain ⟨rfl, b9, P9, hP, h9⟩ := h9
        have w := w.jn (L1 := [wXo G.2.1 (ad 0) (xF ad) svx K, wSh G.2.1 (ad 1) S', wHo G.2.1 (ad 3) (nxt cu) (cap ct) (hput hs cu (b9, P9)), hsL G.2.1 (hput hs cu (b9, P9))]) (L' := [wXo G.2.1 (ad 0) (xF ad) svx K, wSh G.2.1 (ad 1) S', wTe G.2.1 (ad 4) C, wHo G.2.1 (ad 3) (nxt cu) (cap ct) (hput hs cu (b9, P9)), hsL G.2.1 (hput hs cu (b9, P9))]) h9 5 [0, 1, 4, 2, 3] rfl rfl rfl
        exact eiX F w hr hlocks rfl (hPP ▸ Or.inr ⟨r, K, S', C, _, _, _, b9, P9, rfl, hr9, g', hP, (yeF_dep e4 hk), hC0, rfl⟩) (Nat.le_of_ble_eq_true rfl) (Nat.le_of_ble_eq_true rfl) dL_does_312
    · refine lv_tableIn (tgt := 313) F.x F.b dL_does_47 (ts_313 kd hkd48 hk).1 (ts_313 kd hkd48 hk).2.1 (ts_313 kd hkd48 hk).2.2 (by decide) ?_
      refine lv_aload_n F.x F.b dL_does_313 rfl (lv_at hl 5 rfl) ?_
      refine lv_iload F.x F.b dL_does_314 (lv_at hl 4 rfl) ?_
      rcases g_seal h (nI a) with ⟨E, hE, e1⟩ | ⟨r, S', t', q', hr9, e1, g', m9⟩
      · refine kLi F w hst (LC := [wXo G.2.1 (ad 0) (xF ad) svx K, wSh G.2.1 (ad 1) S, wHo G.2.1 (ad 3) cu ct hs, hsL G.2.1 hs]) (LR := [wTe G.2.1 (ad 4) C]) (As := [.ref ((ad 0) 0), .int (nI a)]) (rest := []) (l_seal_no F.1 gM hNC k1 h.copies e1 hE) mh_seal vh_seal (List.mem_of_getElem? (i := 710) (by decide +kernel)) 5 [0, 1, 3, 4, 2] rfl rfl rfl ⟨Nat.le_of_ble_eq_true rfl, Nat.le_of_ble_eq_true rfl⟩ rfl hl.1 rfl (Nat.le_of_ble_eq_true rfl) dL_does_316 ⟨Nat.le_of_ble_eq_true rfl, Nat.le_of_ble_eq_true rfl⟩ (fun r9 w1 H locs h9 w => ?_)
        obtain ⟨rfl, b9, P9, hP, h9⟩ := h9
        have w := w.jn (L1 := [wXo G.2.1 (ad 0) (xF ad) svx K, wSh G.2.1 (ad 1) S, wHo G.2.1 (ad 3) cu ct (hput hs cu (b9, P9)), hsL G.2.1 (hput hs cu (b9, P9))]) (L' := [wXo G.2.1 (ad 0) (xF ad) svx K, wSh G.2.1 (ad 1) S, wTe G.2.1 (ad 4) C, wHo G.2.1 (ad 3) cu ct (hput hs cu (b9, P9)), hsL G.2.1 (hput hs cu (b9, P9))]) h9 5 [0, 1, 4, 2, 3] rfl rfl rfl
        exact eiX F w hr hlocks rfl (hPP ▸ Or.inl ⟨K, S, C, _, cdE_rf _, (fun z => absurd z (by omega)), sameRf S, (HF.rf cu hs).put _, hC0, rfl⟩) (Nat.le_of_ble_eq_true rfl) (Nat.le_of_ble_eq_true rfl) dL_does_319
      · refine kLi F w hst (LC := [wXo G.2.1 (ad 0) (xF ad) svx K, wSh G.2.1 (ad 1) S, wHo G.2.1 (ad 3) cu ct hs, hsL G.2.1 hs]) (LR := [wTe G.2.1 (ad 4) C]) (As := [.ref ((ad 0) 0), .int (nI a)]) (rest := []) (l_seal_ok F.1 k1 h.copies k2 hr9 e1) mh_seal vh_seal (List.mem_of_getElem? (i := 710) (by decide +kernel)) 5 [0, 1, 3, 4, 2] rfl rfl rfl ⟨Nat.le_of_ble_eq_true rfl, Nat.le_of_ble_eq_true rfl⟩ rfl hl.1 rfl (Nat.le_of_ble_eq_true rfl) dL_does_316 ⟨Nat.le_of_ble_eq_true rfl, Nat.le_of_ble_eq_true rfl⟩ (fun r9 w1 H locs h9 w => ?_)
        obtain ⟨rfl, b9, P9, hP, h9⟩ := h9
        have w := w.jn (L1 := [wXo G.2.1 (ad 0) (xF ad) svx K, wSh G.2.1 (ad 1) S', wHo G.2.1 (ad 3) (nxt cu) (cap ct) (hput hs cu (b9, P9)), hsL G.2.1 (hput hs cu (b9, P9))]) (L' := [wXo G.2.1 (ad 0) (xF ad) svx K, wSh G.2.1 (ad 1) S', wTe G.2.1 (ad 4) C, wHo G.2.1 (ad 3) (nxt cu) (cap ct) (hput hs cu (b9, P9)), hsL G.2.1 (hput hs cu (b9, P9))]) h9 5 [0, 1, 4, 2, 3] rfl rfl rfl
        exact eiX F w hr hlocks rfl (hPP ▸ Or.inr ⟨r, K, S', C, _, _, _, b9, P9, rfl, hr9, g', hP, (yeF_two m9.2.2.1 m9.2.2.2.1 (by omega)), hC0, rfl⟩) (Nat.le_of_ble_eq_true rfl) (Nat.le_of_ble_eq_true rfl) dL_does_319
    · refine lv_tableIn (tgt := 320) F.x F.b dL_does_47 (ts_320 kd hkd48 hk).1 (ts_320 kd hkd48 hk).2.1 (ts_320 kd hkd48 hk).2.2 (by decide) ?_
      refine lv_aload_n F.x F.b dL_does_320 rfl (lv_at hl 5 rfl) ?_
      refine lv_iload F.x F.b dL_does_321 (lv_at hl 3 rfl) ?_
      rcases g_pass h (e := e) he30 with ⟨q0, e1⟩ | ⟨S', g, c', q', e0, hg, e1, g', e6, ec, e3, e4⟩
      · refine kLi F w hst (LC := [wXo G.2.1 (ad 0) (xF ad) svx K, wSh G.2.1 (ad 1) S, wHo G.2.1 (ad 3) cu ct hs, hsL G.2.1 hs]) (LR := [wTe G.2.1 (ad 4) C]) (As := [.ref ((ad 0) 0), .int (nI e)]) (rest := []) (l_passDays_no F.1 gM hNC k1 h.copies e1 (List.mem_singleton.mpr rfl)) mh_passDays vh_passDays (List.mem_of_getElem? (i := 725) (by decide +kernel)) 5 [0, 1, 3, 4, 2] rfl rfl rfl ⟨Nat.le_of_ble_eq_true rfl, Nat.le_of_ble_eq_true rfl⟩ rfl hl.1 rfl (Nat.le_of_ble_eq_true rfl) dL_does_323 ⟨Nat.le_of_ble_eq_true rfl, Nat.le_of_ble_eq_true rfl⟩ (fun r9 w1 H locs h9 w => ?_)
        obtain ⟨rfl, b9, P9, hP, h9⟩ := h9
        have w := w.jn (L1 := [wXo G.2.1 (ad 0) (xF ad) svx K, wSh G.2.1 (ad 1) S, wHo G.2.1 (ad 3) cu ct (hput hs cu (b9, P9)), hsL G.2.1 (hput hs cu (b9, P9))]) (L' := [wXo G.2.1 (ad 0) (xF ad) svx K, wSh G.2.1 (ad 1) S, wTe G.2.1 (ad 4) C, wHo G.2.1 (ad 3) cu ct (hput hs cu (b9, P9)), hsL G.2.1 (hput hs cu (b9, P9))]) h9 5 [0, 1, 4, 2, 3] rfl rfl rfl
        exact eiX F w hr hlocks rfl (hPP ▸ Or.inl ⟨K, S, C, _, cdE_rf _, (fun z => absurd z (by omega)), sameRf S, (HF.rf cu hs).put _, hC0, rfl⟩) (Nat.le_of_ble_eq_true rfl) (Nat.le_of_ble_eq_true rfl) dL_does_326
      · refine kLi F w hst (LC := [wXo G.2.1 (ad 0) (xF ad) svx K, wSh G.2.1 (ad 1) S, wHo G.2.1 (ad 3) cu ct hs, hsL G.2.1 hs]) (LR := [wTe G.2.1 (ad 4) C]) (As := [.ref ((ad 0) 0), .int (nI e)]) (rest := []) (l_passDays_ok F.1 k1 h.copies k2 (by omega) e1) mh_passDays vh_passDays (List.mem_of_getElem? (i := 725) (by decide +kernel)) 5 [0, 1, 3, 4, 2] rfl rfl rfl ⟨Nat.le_of_ble_eq_true rfl, Nat.le_of_ble_eq_true rfl⟩ rfl hl.1 rfl (Nat.le_of_ble_eq_true rfl) dL_does_323 ⟨Nat.le_of_ble_eq_true rfl, Nat.le_of_ble_eq_true rfl⟩ (fun r9 w1 H locs h9 w => ?_)
        obtain ⟨rfl, b9, P9, hP, h9⟩ := h9
        have w := w.jn (L1 := [wXo G.2.1 (ad 0) (xF ad) svx K, wSh G.2.1 (ad 1) S', wHo G.2.1 (ad 3) (nxt cu) (cap ct) (hput hs cu (b9, P9)), hsL G.2.1 (hput hs cu (b9, P9))]) (L' := [wXo G.2.1 (ad 0) (xF ad) svx K, wSh G.2.1 (ad 1) S', wTe G.2.1 (ad 4) C, wHo G.2.1 (ad 3) (nxt cu) (cap ct) (hput hs cu (b9, P9)), hsL G.2.1 (hput hs cu (b9, P9))]) h9 5 [0, 1, 4, 2, 3] rfl rfl rfl
        exact eiX F w hr hlocks rfl (hPP ▸ Or.inr ⟨g, K, S', C, _, _, _, b9, P9, rfl, (by omega), (g'.mono (Nat.le_succ N)), hP, (yeF_pass hk e0 e1 ec e6 e3 e4), hC0, rfl⟩) (Nat.le_of_ble_eq_true rfl) (Nat.le_of_ble_eq_true rfl) dL_does_326
    · refine lv_tableIn (tgt := 327) F.x F.b dL_does_47 (ts_327 kd hkd48 hk).1 (ts_327 kd hkd48 hk).2.1 (ts_327 kd hkd48 hk).2.2 (by decide) ?_
      refine lv_aload_n F.x F.b dL_does_327 rfl (lv_at hl 5 rfl) ?_
      refine lv_iload F.x F.b dL_does_328 (lv_at hl 2 rfl) ?_
      refine lv_iconst (v := 3) F.x F.b dL_does_330 (by decide) ?_
      refine lv_irem F.x F.b dL_does_331 (by decide) ?_
      rcases Decidable.em (((nI v) - (nI v) / 3 * 3) = 0) with z | z
      · refine lv_if_ne (tgt := 340) F.x F.b dL_does_332 (by decide) (fun c9 => absurd z c9) (fun _ => ?_)
        refine lv_iload F.x F.b dL_does_335 (lv_at hl 1 rfl) ?_
        refine lv_goto (tgt := 349) F.x F.b dL_does_337 (by decide) ?_
        exact K349 bay x v hk _ H locs ls w (lv_sub hl [0, 1, 2, 3, 4, 5, 6, 7, 8] rfl)
      · refine lv_if_ne (tgt := 340) F.x F.b dL_does_332 (by decide) (fun _ => ?_) (fun c9 => absurd c9 z)
        refine lv_iload F.x F.b dL_does_340 (lv_at hl 1 rfl) ?_
        refine lv_bipush (v := 9) F.x F.b dL_does_342 (by decide) ?_
        refine lv_irem F.x F.b dL_does_344 (by decide) ?_
        refine lv_sipush (v := 200) F.x F.b dL_does_345 (by decide) ?_
        refine lv_imul F.x F.b dL_does_348 ?_
        exact K349 bay x v hk _ H locs ls w (lv_sub hl [0, 1, 2, 3, 4, 5, 6, 7, 8] rfl)
    · refine lv_tableIn (tgt := 358) F.x F.b dL_does_47 (ts_358 kd hkd48 hk).1 (ts_358 kd hkd48 hk).2.1 (ts_358 kd hkd48 hk).2.2 (by decide) ?_
      refine lv_aload_n F.x F.b dL_does_358 rfl (lv_at hl 5 rfl) ?_
      refine lv_iload F.x F.b dL_does_359 (lv_at hl 1 rfl) ?_
      refine lv_bipush (v := 9) F.x F.b dL_does_361 (by decide) ?_
      refine lv_irem F.x F.b dL_does_363 (by decide) ?_
      refine lv_sipush (v := 200) F.x F.b dL_does_364 (by decide) ?_
      refine lv_imul F.x F.b dL_does_367 ?_
      rcases g_unstep h (((nI x) - (nI x) / 9 * 9) * 200) with ⟨E, hE, e1⟩ | ⟨r, S', t', q', hr9, e1, g', m9⟩
      · refine kLi F w hst (LC := [wXo G.2.1 (ad 0) (xF ad) svx K, wSh G.2.1 (ad 1) S, wHo G.2.1 (ad 3) cu ct hs, hsL G.2.1 hs]) (LR := [wTe G.2.1 (ad 4) C]) (As := [.ref ((ad 0) 0), .int (((nI x) - (nI x) / 9 * 9) * 200)]) (rest := []) (l_removeStep_no F.1 gM hNC k1 h.copies e1 hE) mh_removeStep vh_removeStep (List.mem_of_getElem? (i := 747) (by decide +kernel)) 5 [0, 1, 3, 4, 2] rfl rfl rfl ⟨Nat.le_of_ble_eq_true rfl, Nat.le_of_ble_eq_true rfl⟩ rfl hl.1 rfl (Nat.le_of_ble_eq_true rfl) dL_does_368 ⟨Nat.le_of_ble_eq_true rfl, Nat.le_of_ble_eq_true rfl⟩ (fun r9 w1 H locs h9 w => ?_)
        obtain ⟨rfl, b9, P9, hP, h9⟩ := h9
        have w := w.jn (L1 := [wXo G.2.1 (ad 0) (xF ad) svx K, wSh G.2.1 (ad 1) S, wHo G.2.1 (ad 3) cu ct (hput hs cu (b9, P9)), hsL G.2.1 (hput hs cu (b9, P9))]) (L' := [wXo G.2.1 (ad 0) (xF ad) svx K, wSh G.2.1 (ad 1) S, wTe G.2.1 (ad 4) C, wHo G.2.1 (ad 3) cu ct (hput hs cu (b9, P9)), hsL G.2.1 (hput hs cu (b9, P9))]) h9 5 [0, 1, 4, 2, 3] rfl rfl rfl
        exact eiX F w hr hlocks rfl (hPP ▸ Or.inl ⟨K, S, C, _, cdE_rf _, (fun z => absurd z (by omega)), sameRf S, (HF.rf cu hs).put _, hC0, rfl⟩) (Nat.le_of_ble_eq_true rfl) (Nat.le_of_ble_eq_true rfl) dL_does_371
      · refine kLi F w hst (LC := [wXo G.2.1 (ad 0) (xF ad) svx K, wSh G.2.1 (ad 1) S, wHo G.2.1 (ad 3) cu ct hs, hsL G.2.1 hs]) (LR := [wTe G.2.1 (ad 4) C]) (As := [.ref ((ad 0) 0), .int (((nI x) - (nI x) / 9 * 9) * 200)]) (rest := []) (l_removeStep_ok F.1 k1 h.copies k2 hr9 e1) mh_removeStep vh_removeStep (List.mem_of_getElem? (i := 747) (by decide +kernel)) 5 [0, 1, 3, 4, 2] rfl rfl rfl ⟨Nat.le_of_ble_eq_true rfl, Nat.le_of_ble_eq_true rfl⟩ rfl hl.1 rfl (Nat.le_of_ble_eq_true rfl) dL_does_368 ⟨Nat.le_of_ble_eq_true rfl, Nat.le_of_ble_eq_true rfl⟩ (fun r9 w1 H locs h9 w => ?_)
        obtain ⟨rfl, b9, P9, hP, h9⟩ := h9
        have w := w.jn (L1 := [wXo G.2.1 (ad 0) (xF ad) svx K, wSh G.2.1 (ad 1) S', wHo G.2.1 (ad 3) (nxt cu) (cap ct) (hput hs cu (b9, P9)), hsL G.2.1 (hput hs cu (b9, P9))]) (L' := [wXo G.2.1 (ad 0) (xF ad) svx K, wSh G.2.1 (ad 1) S', wTe G.2.1 (ad 4) C, wHo G.2.1 (ad 3) (nxt cu) (cap ct) (hput hs cu (b9, P9)), hsL G.2.1 (hput hs cu (b9, P9))]) h9 5 [0, 1, 4, 2, 3] rfl rfl rfl
        exact eiX F w hr hlocks rfl (hPP ▸ Or.inr ⟨r, K, S', C, _, _, _, b9, P9, rfl, hr9, g', hP, (yeF_two m9.2.2.1 m9.2.2.2.1 (by omega)), hC0, rfl⟩) (Nat.le_of_ble_eq_true rfl) (Nat.le_of_ble_eq_true rfl) dL_does_371
    · refine lv_tableIn (tgt := 372) F.x F.b dL_does_47 (ts_372 kd hkd48 hk).1 (ts_372 kd hkd48 hk).2.1 (ts_372 kd hkd48 hk).2.2 (by decide) ?_
      refine lv_aload_n F.x F.b dL_does_372 rfl (lv_at hl 5 rfl) ?_
      refine lv_iload F.x F.b dL_does_373 (lv_at hl 4 rfl) ?_
      rcases g_open h (nI a) with ⟨E, hE, e1⟩ | ⟨r, S', t', q', hr9, e1, g', m9⟩
      · refine kLi F w hst (LC := [wXo G.2.1 (ad 0) (xF ad) svx K, wSh G.2.1 (ad 1) S, wHo G.2.1 (ad 3) cu ct hs, hsL G.2.1 hs]) (LR := [wTe G.2.1 (ad 4) C]) (As := [.ref ((ad 0) 0), .int (nI a)]) (rest := []) (l_open_no F.1 gM hNC k1 h.copies e1 hE) mh_open vh_open (List.mem_of_getElem? (i := 758) (by decide +kernel)) 5 [0, 1, 3, 4, 2] rfl rfl rfl ⟨Nat.le_of_ble_eq_true rfl, Nat.le_of_ble_eq_true rfl⟩ rfl hl.1 rfl (Nat.le_of_ble_eq_true rfl) dL_does_375 ⟨Nat.le_of_ble_eq_true rfl, Nat.le_of_ble_eq_true rfl⟩ (fun r9 w1 H locs h9 w => ?_)
        obtain ⟨rfl, b9, P9, hP, h9⟩ := h9
        have w := w.jn (L1 := [wXo G.2.1 (ad 0) (xF ad) svx K, wSh G.2.1 (ad 1) S, wHo G.2.1 (ad 3) cu ct (hput hs cu (b9, P9)), hsL G.2.1 (hput hs cu (b9, P9))]) (L' := [wXo G.2.1 (ad 0) (xF ad) svx K, wSh G.2.1 (ad 1) S, wTe G.2.1 (ad 4) C, wHo G.2.1 (ad 3) cu ct (hput hs cu (b9, P9)), hsL G.2.1 (hput hs cu (b9, P9))]) h9 5 [0, 1, 4, 2, 3] rfl rfl rfl
        exact eiX F w hr hlocks rfl (hPP ▸ Or.inl ⟨K, S, C, _, cdE_rf _, (fun z => absurd z (by omega)), sameRf S, (HF.rf cu hs).put _, hC0, rfl⟩) (Nat.le_of_ble_eq_true rfl) (Nat.le_of_ble_eq_true rfl) dL_does_378
      · refine kLi F w hst (LC := [wXo G.2.1 (ad 0) (xF ad) svx K, wSh G.2.1 (ad 1) S, wHo G.2.1 (ad 3) cu ct hs, hsL G.2.1 hs]) (LR := [wTe G.2.1 (ad 4) C]) (As := [.ref ((ad 0) 0), .int (nI a)]) (rest := []) (l_open_ok F.1 k1 h.copies k2 hr9 e1) mh_open vh_open (List.mem_of_getElem? (i := 758) (by decide +kernel)) 5 [0, 1, 3, 4, 2] rfl rfl rfl ⟨Nat.le_of_ble_eq_true rfl, Nat.le_of_ble_eq_true rfl⟩ rfl hl.1 rfl (Nat.le_of_ble_eq_true rfl) dL_does_375 ⟨Nat.le_of_ble_eq_true rfl, Nat.le_of_ble_eq_true rfl⟩ (fun r9 w1 H locs h9 w => ?_)
        obtain ⟨rfl, b9, P9, hP, h9⟩ := h9
        have w := w.jn (L1 := [wXo G.2.1 (ad 0) (xF ad) svx K, wSh G.2.1 (ad 1) S', wHo G.2.1 (ad 3) (nxt cu) (cap ct) (hput hs cu (b9, P9)), hsL G.2.1 (hput hs cu (b9, P9))]) (L' := [wXo G.2.1 (ad 0) (xF ad) svx K, wSh G.2.1 (ad 1) S', wTe G.2.1 (ad 4) C, wHo G.2.1 (ad 3) (nxt cu) (cap ct) (hput hs cu (b9, P9)), hsL G.2.1 (hput hs cu (b9, P9))]) h9 5 [0, 1, 4, 2, 3] rfl rfl rfl
        exact eiX F w hr hlocks rfl (hPP ▸ Or.inr ⟨r, K, S', C, _, _, _, b9, P9, rfl, hr9, g', hP, (yeF_two m9.2.2.1 m9.2.2.2.1 (by omega)), hC0, rfl⟩) (Nat.le_of_ble_eq_true rfl) (Nat.le_of_ble_eq_true rfl) dL_does_378
    · refine lv_tableIn (tgt := 379) F.x F.b dL_does_47 (ts_379 kd hkd48 hk).1 (ts_379 kd hkd48 hk).2.1 (ts_379 kd hkd48 hk).2.2 (by decide) ?_
      refine lv_aload_n F.x F.b dL_does_379 rfl (lv_at hl 5 rfl) ?_
      refine lv_iload F.x F.b dL_does_380 (lv_at hl 4 rfl) ?_
      rcases g_wet h (nI a) with ⟨E, hE, e1⟩ | ⟨r, S', t', q', hr9, e1, g', m9⟩
      · refine kLi F w hst (LC := [wXo G.2.1 (ad 0) (xF ad) svx K, wSh G.2.1 (ad 1) S, wHo G.2.1 (ad 3) cu ct hs, hsL G.2.1 hs]) (LR := [wTe G.2.1 (ad 4) C]) (As := [.ref ((ad 0) 0), .int (nI a)]) (rest := []) (l_wet_no F.1 gM hNC k1 h.copies e1 hE) mh_wet vh_wet (List.mem_of_getElem? (i := 769) (by decide +kernel)) 5 [0, 1, 3, 4, 2] rfl rfl rfl ⟨Nat.le_of_ble_eq_true rfl, Nat.le_of_ble_eq_true rfl⟩ rfl hl.1 rfl (Nat.le_of_ble_eq_true rfl) dL_does_382 ⟨Nat.le_of_ble_eq_true rfl, Nat.le_of_ble_eq_true rfl⟩ (fun r9 w1 H locs h9 w => ?_)
        obtain ⟨rfl, b9, P9, hP, h9⟩ := h9
        have w := w.jn (L1 := [wXo G.2.1 (ad 0) (xF ad) svx K, wSh G.2.1 (ad 1) S, wHo G.2.1 (ad 3) cu ct (hput hs cu (b9, P9)), hsL G.2.1 (hput hs cu (b9, P9))]) (L' := [wXo G.2.1 (ad 0) (xF ad) svx K, wSh G.2.1 (ad 1) S, wTe G.2.1 (ad 4) C, wHo G.2.1 (ad 3) cu ct (hput hs cu (b9, P9)), hsL G.2.1 (hput hs cu (b9, P9))]) h9 5 [0, 1, 4, 2, 3] rfl rfl rfl
        exact eiX F w hr hlocks rfl (hPP ▸ Or.inl ⟨K, S, C, _, cdE_rf _, (fun z => absurd z (by omega)), sameRf S, (HF.rf cu hs).put _, hC0, rfl⟩) (Nat.le_of_ble_eq_true rfl) (Nat.le_of_ble_eq_true rfl) dL_does_385
      · refine kLi F w hst (LC := [wXo G.2.1 (ad 0) (xF ad) svx K, wSh G.2.1 (ad 1) S, wHo G.2.1 (ad 3) cu ct hs, hsL G.2.1 hs]) (LR := [wTe G.2.1 (ad 4) C]) (As := [.ref ((ad 0) 0), .int (nI a)]) (rest := []) (l_wet_ok F.1 k1 h.copies k2 hr9 e1) mh_wet vh_wet (List.mem_of_getElem? (i := 769) (by decide +kernel)) 5 [0, 1, 3, 4, 2] rfl rfl rfl ⟨Nat.le_of_ble_eq_true rfl, Nat.le_of_ble_eq_true rfl⟩ rfl hl.1 rfl (Nat.le_of_ble_eq_true rfl) dL_does_382 ⟨Nat.le_of_ble_eq_true rfl, Nat.le_of_ble_eq_true rfl⟩ (fun r9 w1 H locs h9 w => ?_)
        obtain ⟨rfl, b9, P9, hP, h9⟩ := h9
        have w := w.jn (L1 := [wXo G.2.1 (ad 0) (xF ad) svx K, wSh G.2.1 (ad 1) S', wHo G.2.1 (ad 3) (nxt cu) (cap ct) (hput hs cu (b9, P9)), hsL G.2.1 (hput hs cu (b9, P9))]) (L' := [wXo G.2.1 (ad 0) (xF ad) svx K, wSh G.2.1 (ad 1) S', wTe G.2.1 (ad 4) C, wHo G.2.1 (ad 3) (nxt cu) (cap ct) (hput hs cu (b9, P9)), hsL G.2.1 (hput hs cu (b9, P9))]) h9 5 [0, 1, 4, 2, 3] rfl rfl rfl
        exact eiX F w hr hlocks rfl (hPP ▸ Or.inr ⟨r, K, S', C, _, _, _, b9, P9, rfl, hr9, g', hP, (yeF_two m9.2.2.1 m9.2.2.2.1 (by omega)), hC0, rfl⟩) (Nat.le_of_ble_eq_true rfl) (Nat.le_of_ble_eq_true rfl) dL_does_385
    · refine lv_tableIn (tgt := 386) F.x F.b dL_does_47 (ts_386 kd hkd48 hk).1 (ts_386 kd hkd48 hk).2.1 (ts_386 kd hkd48 hk).2.2 (by decide) ?_
      refine lv_aload_n F.x F.b dL_does_386 rfl (lv_at hl 5 rfl) ?_
      refine lv_iload F.x F.b dL_does_387 (lv_at hl 4 rfl) ?_
      refine lv_iload F.x F.b dL_does_389 (lv_at hl 0 rfl) ?_
      rcases g_move h (nI a) bay with ⟨E, hE, e1⟩ | ⟨r, S', t', q', hr9, e1, g', m9⟩
      · refine kLi F w hst (LC := [wXo G.2.1 (ad 0) (xF ad) svx K, wSh G.2.1 (ad 1) S, wHo G.2.1 (ad 3) cu ct hs, hsL G.2.1 hs]) (LR := [wTe G.2.1 (ad 4) C]) (As := [.ref ((ad 0) 0), .int (nI a), .int bay]) (rest := []) (l_move_no F.1 gM hNC k1 h.copies e1 hE) mh_move vh_move (List.mem_of_getElem? (i := 781) (by decide +kernel)) 5 [0, 1, 3, 4, 2] rfl rfl rfl ⟨Nat.le_of_ble_eq_true rfl, Nat.le_of_ble_eq_true rfl⟩ rfl hl.1 rfl (Nat.le_of_ble_eq_true rfl) dL_does_391 ⟨Nat.le_of_ble_eq_true rfl, Nat.le_of_ble_eq_true rfl⟩ (fun r9 w1 H locs h9 w => ?_)
        obtain ⟨rfl, b9, P9, hP, h9⟩ := h9
        have w := w.jn (L1 := [wXo G.2.1 (ad 0) (xF ad) svx K, wSh G.2.1 (ad 1) S, wHo G.2.1 (ad 3) cu ct (hput hs cu (b9, P9)), hsL G.2.1 (hput hs cu (b9, P9))]) (L' := [wXo G.2.1 (ad 0) (xF ad) svx K, wSh G.2.1 (ad 1) S, wTe G.2.1 (ad 4) C, wHo G.2.1 (ad 3) cu ct (hput hs cu (b9, P9)), hsL G.2.1 (hput hs cu (b9, P9))]) h9 5 [0, 1, 4, 2, 3] rfl rfl rfl
        exact eiX F w hr hlocks rfl (hPP ▸ Or.inl ⟨K, S, C, _, cdE_rf _, (fun z => absurd z (by omega)), sameRf S, (HF.rf cu hs).put _, hC0, rfl⟩) (Nat.le_of_ble_eq_true rfl) (Nat.le_of_ble_eq_true rfl) dL_does_394
      · refine kLi F w hst (LC := [wXo G.2.1 (ad 0) (xF ad) svx K, wSh G.2.1 (ad 1) S, wHo G.2.1 (ad 3) cu ct hs, hsL G.2.1 hs]) (LR := [wTe G.2.1 (ad 4) C]) (As := [.ref ((ad 0) 0), .int (nI a), .int bay]) (rest := []) (l_move_ok F.1 k1 h.copies k2 hr9 e1) mh_move vh_move (List.mem_of_getElem? (i := 781) (by decide +kernel)) 5 [0, 1, 3, 4, 2] rfl rfl rfl ⟨Nat.le_of_ble_eq_true rfl, Nat.le_of_ble_eq_true rfl⟩ rfl hl.1 rfl (Nat.le_of_ble_eq_true rfl) dL_does_391 ⟨Nat.le_of_ble_eq_true rfl, Nat.le_of_ble_eq_true rfl⟩ (fun r9 w1 H locs h9 w => ?_)
        obtain ⟨rfl, b9, P9, hP, h9⟩ := h9
        have w := w.jn (L1 := [wXo G.2.1 (ad 0) (xF ad) svx K, wSh G.2.1 (ad 1) S', wHo G.2.1 (ad 3) (nxt cu) (cap ct) (hput hs cu (b9, P9)), hsL G.2.1 (hput hs cu (b9, P9))]) (L' := [wXo G.2.1 (ad 0) (xF ad) svx K, wSh G.2.1 (ad 1) S', wTe G.2.1 (ad 4) C, wHo G.2.1 (ad 3) (nxt cu) (cap ct) (hput hs cu (b9, P9)), hsL G.2.1 (hput hs cu (b9, P9))]) h9 5 [0, 1, 4, 2, 3] rfl rfl rfl
        exact eiX F w hr hlocks rfl (hPP ▸ Or.inr ⟨r, K, S', C, _, _, _, b9, P9, rfl, hr9, g', hP, (yeF_two m9.2.2.1 m9.2.2.2.1 (by omega)), hC0, rfl⟩) (Nat.le_of_ble_eq_true rfl) (Nat.le_of_ble_eq_true rfl) dL_does_394
    · refine lv_tableIn (tgt := 395) F.x F.b dL_does_47 (ts_395 kd hkd48 hk).1 (ts_395 kd hkd48 hk).2.1 (ts_395 kd hkd48 hk).2.2 (by decide) ?_
      exact K395 hk bay x v H locs ls w (lv_sub hl [0, 1, 2, 3, 4, 5, 6, 7, 8] rfl)
    · refine lv_tableIn (tgt := 490) F.x F.b dL_does_47 (ts_490 kd hkd48 hk).1 (ts_490 kd hkd48 hk).2.1 (ts_490 kd hkd48 hk).2.2 (by decide) ?_
      refine lv_aload_n F.x F.b dL_does_490 rfl (lv_at hl 5 rfl) ?_
      refine lv_iload F.x F.b dL_does_491 (lv_at hl 4 rfl) ?_
      rcases g_queue h (nI a) with ⟨E, hE, e1⟩ | ⟨r, S', t', q', hr9, e1, g', m9⟩
      · refine kLi F w hst (LC := [wXo G.2.1 (ad 0) (xF ad) svx K, wSh G.2.1 (ad 1) S, wHo G.2.1 (ad 3) cu ct hs, hsL G.2.1 hs]) (LR := [wTe G.2.1 (ad 4) C]) (As := [.ref ((ad 0) 0), .int (nI a)]) (rest := []) (l_enqueue_no F.1 gM hNC k1 h.copies e1 hE) mh_enqueue vh_enqueue (List.mem_of_getElem? (i := 1151) (by decide +kernel)) 5 [0, 1, 3, 4, 2] rfl rfl rfl ⟨Nat.le_of_ble_eq_true rfl, Nat.le_of_ble_eq_true rfl⟩ rfl hl.1 rfl (Nat.le_of_ble_eq_true rfl) dL_does_493 ⟨Nat.le_of_ble_eq_true rfl, Nat.le_of_ble_eq_true rfl⟩ (fun r9 w1 H locs h9 w => ?_)
        obtain ⟨rfl, b9, P9, hP, h9⟩ := h9
        have w := w.jn (L1 := [wXo G.2.1 (ad 0) (xF ad) svx K, wSh G.2.1 (ad 1) S, wHo G.2.1 (ad 3) cu ct (hput hs cu (b9, P9)), hsL G.2.1 (hput hs cu (b9, P9))]) (L' := [wXo G.2.1 (ad 0) (xF ad) svx K, wSh G.2.1 (ad 1) S, wTe G.2.1 (ad 4) C, wHo G.2.1 (ad 3) cu ct (hput hs cu (b9, P9)), hsL G.2.1 (hput hs cu (b9, P9))]) h9 5 [0, 1, 4, 2, 3] rfl rfl rfl
        exact eiX F w hr hlocks rfl (hPP ▸ Or.inl ⟨K, S, C, _, cdE_rf _, (fun z => absurd z (by omega)), sameRf S, (HF.rf cu hs).put _, hC0, rfl⟩) (Nat.le_of_ble_eq_true rfl) (Nat.le_of_ble_eq_true rfl) dL_does_496
      · refine kLi F w hst (LC := [wXo G.2.1 (ad 0) (xF ad) svx K, wSh G.2.1 (ad 1) S, wHo G.2.1 (ad 3) cu ct hs, hsL G.2.1 hs]) (LR := [wTe G.2.1 (ad 4) C]) (As := [.ref ((ad 0) 0), .int (nI a)]) (rest := []) (l_enqueue_ok F.1 k1 h.copies k2 hr9 e1) mh_enqueue vh_enqueue (List.mem_of_getElem? (i := 1151) (by decide +kernel)) 5 [0, 1, 3, 4, 2] rfl rfl rfl ⟨Nat.le_of_ble_eq_true rfl, Nat.le_of_ble_eq_true rfl⟩ rfl hl.1 rfl (Nat.le_of_ble_eq_true rfl) dL_does_493 ⟨Nat.le_of_ble_eq_true rfl, Nat.le_of_ble_eq_true rfl⟩ (fun r9 w1 H locs h9 w => ?_)
        obtain ⟨rfl, b9, P9, hP, h9⟩ := h9
        have w := w.jn (L1 := [wXo G.2.1 (ad 0) (xF ad) svx K, wSh G.2.1 (ad 1) S', wHo G.2.1 (ad 3) (nxt cu) (cap ct) (hput hs cu (b9, P9)), hsL G.2.1 (hput hs cu (b9, P9))]) (L' := [wXo G.2.1 (ad 0) (xF ad) svx K, wSh G.2.1 (ad 1) S', wTe G.2.1 (ad 4) C, wHo G.2.1 (ad 3) (nxt cu) (cap ct) (hput hs cu (b9, P9)), hsL G.2.1 (hput hs cu (b9, P9))]) h9 5 [0, 1, 4, 2, 3] rfl rfl rfl
        exact eiX F w hr hlocks rfl (hPP ▸ Or.inr ⟨r, K, S', C, _, _, _, b9, P9, rfl, hr9, g', hP, (yeF_two m9.2.2.1 m9.2.2.2.1 (by omega)), hC0, rfl⟩) (Nat.le_of_ble_eq_true rfl) (Nat.le_of_ble_eq_true rfl) dL_does_496
    · refine lv_tableOut (tgt := 497) F.x F.b dL_does_47 (Or.inr (ts_497 kd hkd48 hk)) (by decide) ?_
      refine lv_aload_n F.x F.b dL_does_497 rfl (lv_at hl 5 rfl) ?_
      refine lv_iload F.x F.b dL_does_498 (lv_at hl 4 rfl) ?_
      rcases g_release h (nI a) with ⟨hno, e1⟩ | ⟨pp, hp, hid, ⟨hlt, e1⟩ | ⟨hle, S', t', q', e1, g', e3, e4, e5⟩⟩
      · refine kLi F w hst (LC := [wXo G.2.1 (ad 0) (xF ad) svx K, wSh G.2.1 (ad 1) S, wHo G.2.1 (ad 3) cu ct hs, hsL G.2.1 hs]) (LR := [wTe G.2.1 (ad 4) C]) (As := [.ref ((ad 0) 0), .int (nI a)]) (rest := []) (l_release_no F.1 gM hNC k1 h.copies e1 (by decide +kernel : eNSE ∈ [eNSE, eUOE])) mh_release vh_release (List.mem_of_getElem? (i := 1159) (by decide +kernel)) 5 [0, 1, 3, 4, 2] rfl rfl rfl ⟨Nat.le_of_ble_eq_true rfl, Nat.le_of_ble_eq_true rfl⟩ rfl hl.1 rfl (Nat.le_of_ble_eq_true rfl) dL_does_500 ⟨Nat.le_of_ble_eq_true rfl, Nat.le_of_ble_eq_true rfl⟩ (fun r9 w1 H locs h9 w => ?_)
        obtain ⟨rfl, b9, P9, hP, h9⟩ := h9
        have w := w.jn (L1 := [wXo G.2.1 (ad 0) (xF ad) svx K, wSh G.2.1 (ad 1) S, wHo G.2.1 (ad 3) cu ct (hput hs cu (b9, P9)), hsL G.2.1 (hput hs cu (b9, P9))]) (L' := [wXo G.2.1 (ad 0) (xF ad) svx K, wSh G.2.1 (ad 1) S, wTe G.2.1 (ad 4) C, wHo G.2.1 (ad 3) cu ct (hput hs cu (b9, P9)), hsL G.2.1 (hput hs cu (b9, P9))]) h9 5 [0, 1, 4, 2, 3] rfl rfl rfl
        exact eiX F w hr hlocks rfl (hPP ▸ Or.inl ⟨K, S, C, _, cdE_rf _, (fun _ => Or.inl ⟨rfl, hno⟩), sameRf S, (HF.rf cu hs).put _, hC0, rfl⟩) (Nat.le_of_ble_eq_true rfl) (Nat.le_of_ble_eq_true rfl) dL_does_503
      · refine kLi F w hst (LC := [wXo G.2.1 (ad 0) (xF ad) svx K, wSh G.2.1 (ad 1) S, wHo G.2.1 (ad 3) cu ct hs, hsL G.2.1 hs]) (LR := [wTe G.2.1 (ad 4) C]) (As := [.ref ((ad 0) 0), .int (nI a)]) (rest := []) (l_release_no F.1 gM hNC k1 h.copies e1 (by decide +kernel : eUOE ∈ [eNSE, eUOE])) mh_release vh_release (List.mem_of_getElem? (i := 1159) (by decide +kernel)) 5 [0, 1, 3, 4, 2] rfl rfl rfl ⟨Nat.le_of_ble_eq_true rfl, Nat.le_of_ble_eq_true rfl⟩ rfl hl.1 rfl (Nat.le_of_ble_eq_true rfl) dL_does_500 ⟨Nat.le_of_ble_eq_true rfl, Nat.le_of_ble_eq_true rfl⟩ (fun r9 w1 H locs h9 w => ?_)
        obtain ⟨rfl, b9, P9, hP, h9⟩ := h9
        have w := w.jn (L1 := [wXo G.2.1 (ad 0) (xF ad) svx K, wSh G.2.1 (ad 1) S, wHo G.2.1 (ad 3) cu ct (hput hs cu (b9, P9)), hsL G.2.1 (hput hs cu (b9, P9))]) (L' := [wXo G.2.1 (ad 0) (xF ad) svx K, wSh G.2.1 (ad 1) S, wTe G.2.1 (ad 4) C, wHo G.2.1 (ad 3) cu ct (hput hs cu (b9, P9)), hsL G.2.1 (hput hs cu (b9, P9))]) h9 5 [0, 1, 4, 2, 3] rfl rfl rfl
        exact eiX F w hr hlocks rfl (hPP ▸ Or.inl ⟨K, S, C, _, cdE_rf _, (fun _ => Or.inr ⟨rfl, pp, hp, hid, hlt⟩), sameRf S, (HF.rf cu hs).put _, hC0, rfl⟩) (Nat.le_of_ble_eq_true rfl) (Nat.le_of_ble_eq_true rfl) dL_does_503
      · have hr9 : owe S t pp < 2 ^ 31 := h.owe31 hp
        refine kLi F w hst (LC := [wXo G.2.1 (ad 0) (xF ad) svx K, wSh G.2.1 (ad 1) S, wHo G.2.1 (ad 3) cu ct hs, hsL G.2.1 hs]) (LR := [wTe G.2.1 (ad 4) C]) (As := [.ref ((ad 0) 0), .int (nI a)]) (rest := []) (l_release_ok F.1 k1 h.copies k2 hr9 e1) mh_release vh_release (List.mem_of_getElem? (i := 1159) (by decide +kernel)) 5 [0, 1, 3, 4, 2] rfl rfl rfl ⟨Nat.le_of_ble_eq_true rfl, Nat.le_of_ble_eq_true rfl⟩ rfl hl.1 rfl (Nat.le_of_ble_eq_true rfl) dL_does_500 ⟨Nat.le_of_ble_eq_true rfl, Nat.le_of_ble_eq_true rfl⟩ (fun r9 w1 H locs h9 w => ?_)
        obtain ⟨rfl, b9, P9, hP, h9⟩ := h9
        have w := w.jn (L1 := [wXo G.2.1 (ad 0) (xF ad) svx K, wSh G.2.1 (ad 1) S', wHo G.2.1 (ad 3) (nxt cu) (cap ct) (hput hs cu (b9, P9)), hsL G.2.1 (hput hs cu (b9, P9))]) (L' := [wXo G.2.1 (ad 0) (xF ad) svx K, wSh G.2.1 (ad 1) S', wTe G.2.1 (ad 4) C, wHo G.2.1 (ad 3) (nxt cu) (cap ct) (hput hs cu (b9, P9)), hsL G.2.1 (hput hs cu (b9, P9))]) h9 5 [0, 1, 4, 2, 3] rfl rfl rfl
        exact eiX F w hr hlocks rfl (hPP ▸ Or.inr ⟨owe S t pp, K, S', C, _, _, _, b9, P9, rfl, hr9, g', hP, (yeF_rel hk hp hid hle e3 e4 e5), hC0, rfl⟩) (Nat.le_of_ble_eq_true rfl) (Nat.le_of_ble_eq_true rfl) dL_does_503
  refine lv_aload_n F.x F.b dL_does_0 rfl (lv_at hl 5 rfl) ?_
  refine lv_iload_n F.x F.b dL_does_1 rfl (lv_at hl 4 rfl) ?_
  refine lv_iconst (v := 3) F.x F.b dL_does_2 (by decide) ?_
  refine lv_iadd F.x F.b dL_does_3 ?_
  rw [show (((nI k) + 3) : Int32) = (nI (k + 3)) from (nI_add k 3)]
  refine lv_sipush (v := 1000) F.x F.b dL_does_4 (by decide) ?_
  refine kBi F w hst (LC := []) (LR := [wXo G.2.1 (ad 0) (xF ad) svx K, wSh G.2.1 (ad 1) S, wTe G.2.1 (ad 4) C, wHo G.2.1 (ad 3) cu ct hs, hsL G.2.1 hs]) (As := [.ref b, .int (nI (k + 3)), .int 1000]) (rest := []) (w_pick F.1 hXS (k := k + 3) (n := 1000) (by omega) (by omega) (by omega)) m_L_pick v_L_pick q353 5 [0, 1, 2, 3, 4] rfl rfl rfl ⟨Nat.le_of_ble_eq_true rfl, Nat.le_of_ble_eq_true rfl⟩ rfl hl.1 rfl (Nat.le_of_ble_eq_true rfl) dL_does_7 ⟨Nat.le_of_ble_eq_true rfl, Nat.le_of_ble_eq_true rfl⟩ (fun r9 w1 H locs h9 w => ?_)
  obtain ⟨⟨v, hv, rfl⟩, h9⟩ := h9
  have w := w.jn (L1 := []) (L' := [wXo G.2.1 (ad 0) (xF ad) svx K, wSh G.2.1 (ad 1) S, wTe G.2.1 (ad 4) C, wHo G.2.1 (ad 3) cu ct hs, hsL G.2.1 hs]) h9 5 [0, 1, 2, 3, 4] rfl rfl rfl
  refine lv_istore (lv' := [(6, .int (nI v)), (5, .int (nI e)), (4, .int (nI a)), (3, .ref ((ad 0) 0)), (2, .int (nI kd)), (1, .int (nI k)), (0, .ref b)]) F.x F.b dL_does_10 hl (by decide) rfl (fun ls hl => ?_)
  refine lv_aload_n F.x F.b dL_does_12 rfl (lv_at hl 6 rfl) ?_
  refine lv_iload_n F.x F.b dL_does_13 rfl (lv_at hl 5 rfl) ?_
  refine lv_iconst (v := 4) F.x F.b dL_does_14 (by decide) ?_
  refine lv_iadd F.x F.b dL_does_15 ?_
  rw [show (((nI k) + 4) : Int32) = (nI (k + 4)) from (nI_add k 4)]
  refine lv_sipush (v := 10000) F.x F.b dL_does_16 (by decide) ?_
  refine kBi F w hst (LC := []) (LR := [wXo G.2.1 (ad 0) (xF ad) svx K, wSh G.2.1 (ad 1) S, wTe G.2.1 (ad 4) C, wHo G.2.1 (ad 3) cu ct hs, hsL G.2.1 hs]) (As := [.ref b, .int (nI (k + 4)), .int 10000]) (rest := []) (w_pick F.1 hXS (k := k + 4) (n := 10000) (by omega) (by omega) (by omega)) m_L_pick v_L_pick q353 5 [0, 1, 2, 3, 4] rfl rfl rfl ⟨Nat.le_of_ble_eq_true rfl, Nat.le_of_ble_eq_true rfl⟩ rfl hl.1 rfl (Nat.le_of_ble_eq_true rfl) dL_does_19 ⟨Nat.le_of_ble_eq_true rfl, Nat.le_of_ble_eq_true rfl⟩ (fun r9 w1 H locs h9 w => ?_)
  obtain ⟨⟨x, hx, rfl⟩, h9⟩ := h9
  have w := w.jn (L1 := []) (L' := [wXo G.2.1 (ad 0) (xF ad) svx K, wSh G.2.1 (ad 1) S, wTe G.2.1 (ad 4) C, wHo G.2.1 (ad 3) cu ct hs, hsL G.2.1 hs]) h9 5 [0, 1, 2, 3, 4] rfl rfl rfl
  refine lv_istore (lv' := [(7, .int (nI x)), (6, .int (nI v)), (5, .int (nI e)), (4, .int (nI a)), (3, .ref ((ad 0) 0)), (2, .int (nI kd)), (1, .int (nI k)), (0, .ref b)]) F.x F.b dL_does_22 hl (by decide) rfl (fun ls hl => ?_)
  refine lv_iload F.x F.b dL_does_24 (lv_at hl 1 rfl) ?_
  refine lv_iconst (v := 2) F.x F.b dL_does_26 (by decide) ?_
  refine lv_irem F.x F.b dL_does_27 (by decide) ?_
  rcases Decidable.em (((nI v) - (nI v) / 2 * 2) = 0) with z | z
  · refine lv_if_ne (tgt := 39) F.x F.b dL_does_28 (by decide) (fun c9 => absurd z c9) (fun _ => ?_)
    refine lv_iload F.x F.b dL_does_31 (lv_at hl 0 rfl) ?_
    refine lv_bipush (v := 25) F.x F.b dL_does_33 (by decide) ?_
    refine lv_irem F.x F.b dL_does_35 (by decide) ?_
    refine lv_goto (tgt := 44) F.x F.b dL_does_36 (by decide) ?_
    refine lv_istore (lv' := [(8, .int ((nI x) - (nI x) / 25 * 25)), (7, .int (nI x)), (6, .int (nI v)), (5, .int (nI e)), (4, .int (nI a)), (3, .ref ((ad 0) 0)), (2, .int (nI kd)), (1, .int (nI k)), (0, .ref b)]) F.x F.b dL_does_44 hl (by decide) rfl (fun ls hl => ?_)
    exact K46 _ x v H locs ls w (lv_sub hl [0, 1, 2, 3, 4, 5, 6, 7, 8] rfl)
  · refine lv_if_ne (tgt := 39) F.x F.b dL_does_28 (by decide) (fun _ => ?_) (fun c9 => absurd c9 z)
    refine lv_iload F.x F.b dL_does_39 (lv_at hl 0 rfl) ?_
    refine lv_bipush (v := 9) F.x F.b dL_does_41 (by decide) ?_
    refine lv_irem F.x F.b dL_does_43 (by decide) ?_
    refine lv_istore (lv' := [(8, .int ((nI x) - (nI x) / 9 * 9)), (7, .int (nI x)), (6, .int (nI v)), (5, .int (nI e)), (4, .int (nI a)), (3, .ref ((ad 0) 0)), (2, .int (nI kd)), (1, .int (nI k)), (0, .ref b)]) F.x F.b dL_does_44 hl (by decide) rfl (fun ls hl => ?_)
    exact K46 _ x v H locs ls w (lv_sub hl [0, 1, 2, 3, 4, 5, 6, 7, 8] rfl)

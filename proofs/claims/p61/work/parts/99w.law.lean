/-! printed by wip/p61/tools/gen99w.py: the loop of the law -/
theorem q604 : Cond.methodLink RL 215 yL_does ∈ lw_tbl := List.mem_of_getElem? (i := 604) (by decide +kernel)
theorem q1286 : Cond.methodLink RL 229 yL_isWhole ∈ lw_tbl := List.mem_of_getElem? (i := 1286) (by decide +kernel)
theorem q1478 : Cond.methodLink RL 233 yL_isKept ∈ lw_tbl := List.mem_of_getElem? (i := 1478) (by decide +kernel)
theorem m_L_isWhole : YM yL_isWhole cL_isWhole 13 (some (.boolean)) 4 := ⟨⟨List.mem_of_getElem? (i := 1288) (by decide +kernel), by decide +kernel⟩, List.mem_of_getElem? (i := 14) (by decide +kernel), ⟨by decide, by decide⟩, by decide +kernel⟩
theorem v_L_isWhole : YS yL_isWhole := (List.mem_of_getElem? (i := 1287) (by decide +kernel))
theorem m_L_does : YM yL_does cL_does 9 (some (.int)) 6 := ⟨⟨List.mem_of_getElem? (i := 606) (by decide +kernel), by decide +kernel⟩, List.mem_of_getElem? (i := 14) (by decide +kernel), ⟨by decide, by decide⟩, by decide +kernel⟩
theorem v_L_does : YS yL_does := (List.mem_of_getElem? (i := 605) (by decide +kernel))
theorem m_L_isKept : YM yL_isKept cL_isKept 6 (some (.boolean)) 3 := ⟨⟨List.mem_of_getElem? (i := 1480) (by decide +kernel), by decide +kernel⟩, List.mem_of_getElem? (i := 14) (by decide +kernel), ⟨by decide, by decide⟩, by decide +kernel⟩
theorem v_L_isKept : YS yL_isKept := (List.mem_of_getElem? (i := 1479) (by decide +kernel))
theorem rf_70 {r : Int32} (h : Rf r) : r ≤ -70 := by rcases h with rfl | rfl | rfl | rfl | rfl <;> decide
theorem rf_74 {r : Int32} (h : Rf r) : ¬ (-74 : Int32) < r := by rcases h with rfl | rfl | rfl | rfl | rfl <;> decide
theorem n70 {r : Nat} (h : r < 2 ^ 31) : ¬ nI r ≤ -70 := fun z => absurd (Int32.le_trans (nI_pos' h) z) (by decide)
theorem p74 {r : Nat} (h : r < 2 ^ 31) : (-74 : Int32) < nI r := Int32.not_le.mp (fun z => absurd (Int32.le_trans (nI_pos' h) z) (by decide))
theorem pd_dep {a a' b : Int32} : a' + b = a + b + (a' - a) := by
  refine Int32.toBitVec_inj.mp ?_
  simp only [Int32.toBitVec_add, Int32.toBitVec_sub]
  bv_omega
theorem pd_rel {a b d : Int32} : a - d + (b + d) = a + b + 0 := by
  refine Int32.toBitVec_inj.mp ?_
  simp only [Int32.toBitVec_add, Int32.toBitVec_sub, Int32.toBitVec_ofNat]
  bv_omega
theorem sub_r {r c c9 : Nat} (h : r + c9 = c) : nI c9 = nI c - nI r := by
  rw [← h, ← nI_add]
  refine Int32.toBitVec_inj.mp ?_
  simp only [Int32.toBitVec_add, Int32.toBitVec_sub]
  bv_omega
theorem cb_one {c cb : Nat} (h : cb = c - 1) (hc : 0 < c) : nI cb = nI c - 1 := by rw [m_one hc, h]
theorem nxt9 {cu : Nat} (h : cu < 9) : nxt cu < 9 := by
  unfold nxt
  split <;> omega
theorem cap_ct {ct made : Nat} (h : ct = if made < 8 then made else 8) : cap ct = if made + 1 < 8 then made + 1 else 8 := by
  unfold cap
  split at h <;> (subst h; split <;> split <;> omega)
theorem upd_ne {f : Nat → Int64} {x : Int64} {j n : Nat} (h : j < n + 1 ∧ n < 2 ^ 30) : vp_updL f (Int32.toNatClampNeg (nI (n + 1))) x j = f j := by
  rw [nI_clamp (by omega)]
  exact if_neg (by omega)
theorem upd_at {f : Nat → Int64} {x : Int64} {n : Nat} (h : n < 2 ^ 30) : x = vp_updL f (Int32.toNatClampNeg (nI (n + 1))) x (n + 1) := by
  rw [nI_clamp (by omega)]
  exact (if_pos rfl).symm
theorem Gd.idInj {N : Nat} {S : Mem} {c t q p p' : Nat} (h : Gd N S c t q) (hp : p < c) (hp' : p' < c) (e : S.2 0 p = S.2 0 p') : p = p' := by
  by_cases z : p = p'
  · exact z
  · exact absurd e (asc_ne h.A hp hp' z)
set_option maxRecDepth 100000 in
set_option maxHeartbeats 4000000 in
theorem law_loop {G : cG} {p : Program} {l : Launch} {e0 : Env} {s : State} {m0 : MethodId} {args : Array Value} {below : List Frame} {meth : Method} {cm : Code} {A : Nat → Prop} {QQ : State → Prop} (F : Fx G p s m0 cm cL_law 26 RL A) (gM : MG G) (hNC : NcG G) {ks kv : Nat → Nat} (hSG : SG G ks kv) {uk uv : Nat → Nat} (hUG : SG2 G uk uv) (pv : PV G) (pv2 : PV2 G) (hCB : CBC G) {d1 d2 : Nat} (hD : DGs G d1 d2) (hst : l.stackTraces = false) {b L z : Nat} {xs : Nat → Int32} (hXS : XS G b L xs) {ad : Nat → Nat → Nat}
    (hend : ∀ (H : Heap) (locs : List Loc) (ls : Array Slot) (cells slots : Nat), va_S A s.heap H locs → cells ≤ 660961 → slots ≤ 7109381 → W p l e0 room_1 s m0 args below meth cm H locs cells slots QQ (F0 m0 601 ls [.int 1])) :
    ∀ (d i : Nat), i + d = 58 → ∀ (K S Fc C D B : Mem) (ou : oB) (Lx : List Nat) (cu ct made c t q k : Nat) (hs : hS) (sm : Nat → Int64) (pd : Int32) (cells slots : Nat) (H : Heap) (locs : List Loc) (ls : Array Slot), Gd i S c t q → C.1 0 = nI 0 → Tx ou Lx → HI i cu ct hs made sm → (ct = if made < 8 then made else 8) → made ≤ i → sumF S c t q = sm made → S.1 3 + S.1 4 = pd → k = 5 * i → cells ≤ 400 * i + 501 → slots ≤ 4000 * i + 5010 → Wd G A s.heap (fl [[(z, .inl (G.2.1 4, 80, .inr (.inl sm)))], wXo G.2.1 (ad 0) (xF ad) .null K, wSh G.2.1 (ad 1) S, wSh G.2.1 (ad 2) Fc, wTe G.2.1 (ad 4) C, wSb G.2.1 (ad 5) ou, wAd G.2.1 (ad 6) D, wAb G.2.1 (ad 7) B, wHo G.2.1 (ad 3) cu ct hs, hsL G.2.1 hs]) H locs → lv_has ls 26 [(6, .int (nI i)), (5, .int pd), (4, .int (nI k)), (3, .int (nI made)), (2, .ref z), (1, .ref ((ad 0) 0)), (0, .ref b)] → W p l e0 room_1 s m0 args below meth cm H locs cells slots QQ (F0 m0 31 ls []) := by
  intro d
  induction d with
  | zero =>
    intro i hi K S Fc C D B ou Lx cu ct made c t q k hs sm pd cells slots H locs ls h hC0 hT hI hct hmi hsm hpd hkk hc9 hs9 w hl
    have hc16 := h.c16
    refine lv_iload F.x F.b dL_law_31 (lv_at hl 0 rfl) ?_
    refine lv_bipush (v := 58) F.x F.b dL_law_33 (by decide) ?_
    refine lv_icmp_ge (tgt := 595) F.x F.b dL_law_35 (by decide) (fun _ => ?_) (fun c9 => absurd (show (58 : Int32) ≤ nI i from (nI_leI (a := 58) (b := i) (by omega) (by omega)).mpr (by omega)) c9)
    refine lv_aload_n F.x F.b dL_law_595 rfl (lv_at hl 5 rfl) ?_
    refine lv_aload_n F.x F.b dL_law_596 rfl (lv_at hl 4 rfl) ?_
    refine lv_iload_n F.x F.b dL_law_597 rfl (lv_at hl 3 rfl) ?_
    refine kBi F w hst (LC := [[(z, .inl (G.2.1 4, 80, .inr (.inl sm)))], wXo G.2.1 (ad 0) (xF ad) .null K, wSh G.2.1 (ad 1) S, wSb G.2.1 (ad 5) ou, wHo G.2.1 (ad 3) cu ct hs, hsL G.2.1 hs]) (LR := [wSh G.2.1 (ad 2) Fc, wTe G.2.1 (ad 4) C, wAd G.2.1 (ad 6) D, wAb G.2.1 (ad 7) B]) (As := [.ref ((ad 0) 0), .ref z, .int (nI made)]) (rest := []) (w_isKept F.1 gM hNC hSG pv hD h hT hI hct (by omega) hsm) m_L_isKept v_L_isKept q1478 10 [0, 1, 2, 5, 8, 9, 3, 4, 6, 7] rfl rfl rfl ⟨Nat.le_of_ble_eq_true rfl, Nat.le_of_ble_eq_true rfl⟩ rfl hl.1 rfl (Nat.le_of_ble_eq_true rfl) dL_law_598 ⟨by show _ ≤ 660961; omega, by show _ ≤ 7109381; omega⟩ (fun r9 w1 H locs h9 w => ?_)
    obtain rfl := h9
    exact hend H locs ls _ _ w.2.2 (by omega) (by omega)
  | succ d ih =>
    intro i hi K S Fc C D B ou Lx cu ct made c t q k hs sm pd cells slots H locs ls h hC0 hT hI hct hmi hsm hpd hkk hc9 hs9 w hl
    have hc16 := h.c16
    refine lv_iload F.x F.b dL_law_31 (lv_at hl 0 rfl) ?_
    refine lv_bipush (v := 58) F.x F.b dL_law_33 (by decide) ?_
    refine lv_icmp_ge (tgt := 595) F.x F.b dL_law_35 (by decide) (fun c9 => absurd c9 (show ¬ (58 : Int32) ≤ nI i from fun z => absurd ((nI_leI (a := 58) (b := i) (by omega) (by omega)).mp z) (by omega))) (fun _ => ?_)
    refine lv_aload_n F.x F.b dL_law_38 rfl (lv_at hl 5 rfl) ?_
    refine kBl F w hst (LC := [wXo G.2.1 (ad 0) (xF ad) .null K, wSh G.2.1 (ad 1) S, wSb G.2.1 (ad 5) ou]) (LR := [[(z, .inl (G.2.1 4, 80, .inr (.inl sm)))], wSh G.2.1 (ad 2) Fc, wTe G.2.1 (ad 4) C, wAd G.2.1 (ad 6) D, wAb G.2.1 (ad 7) B, wHo G.2.1 (ad 3) cu ct hs, hsL G.2.1 hs]) (As := [.ref ((ad 0) 0)]) (rest := []) (w_sum F.1 hSG pv hD h hT) m_L_sum v_L_sum q1167 10 [1, 2, 5, 0, 3, 4, 6, 7, 8, 9] rfl rfl rfl ⟨Nat.le_of_ble_eq_true rfl, Nat.le_of_ble_eq_true rfl⟩ rfl hl.1 rfl (Nat.le_of_ble_eq_true rfl) dL_law_39 ⟨by show _ ≤ 660961; omega, by show _ ≤ 7109381; omega⟩ (fun r9 w1 H locs h9 w => ?_)
    obtain ⟨rfl, ou7, L7, hou7, h9⟩ := h9
    have w := w.jn (L1 := [wXo G.2.1 (ad 0) (xF ad) .null K, wSh G.2.1 (ad 1) S, wSb G.2.1 (ad 5) ou7]) (L' := [[(z, .inl (G.2.1 4, 80, .inr (.inl sm)))], wXo G.2.1 (ad 0) (xF ad) .null K, wSh G.2.1 (ad 1) S, wSh G.2.1 (ad 2) Fc, wTe G.2.1 (ad 4) C, wSb G.2.1 (ad 5) ou7, wAd G.2.1 (ad 6) D, wAb G.2.1 (ad 7) B, wHo G.2.1 (ad 3) cu ct hs, hsL G.2.1 hs]) h9 10 [3, 0, 1, 4, 5, 2, 6, 7, 8, 9] rfl rfl rfl
    refine lv_lstore (lv' := [(7, .long (sumF S c t q)), (6, .int (nI i)), (5, .int pd), (4, .int (nI k)), (3, .int (nI made)), (2, .ref z), (1, .ref ((ad 0) 0)), (0, .ref b)]) F.x F.b dL_law_42 hl (by decide) rfl (fun ls hl => ?_)
    refine lv_aload_n F.x F.b dL_law_44 rfl (lv_at hl 6 rfl) ?_
    refine kXi F w hst (LC := [wXo G.2.1 (ad 0) (xF ad) .null K, wHo G.2.1 (ad 3) cu ct hs]) (LR := [[(z, .inl (G.2.1 4, 80, .inr (.inl sm)))], wSh G.2.1 (ad 1) S, wSh G.2.1 (ad 2) Fc, wTe G.2.1 (ad 4) C, wSb G.2.1 (ad 5) ou7, wAd G.2.1 (ad 6) D, wAb G.2.1 (ad 7) B, hsL G.2.1 hs]) (As := []) (rest := []) (k_undoCount F.1) m_X6_undoCount v_X6_undoCount q349 (ci := 10) (q0 := 1) rfl rfl rfl 10 [1, 8, 0, 2, 3, 4, 5, 6, 7, 9] rfl rfl rfl ⟨Nat.le_of_ble_eq_true rfl, Nat.le_of_ble_eq_true rfl⟩ rfl hl.1 rfl (Nat.le_of_ble_eq_true rfl) dL_law_45 ⟨by show _ ≤ 660961; omega, by show _ ≤ 7109381; omega⟩ (fun _ _ _ _ _ _ hx => False.elim hx) (fun r9 w1 H locs h9 w => ?_)
    obtain ⟨rfl, h9⟩ := h9
    have w := w.jn (L1 := [wXo G.2.1 (ad 0) (xF ad) .null K, wHo G.2.1 (ad 3) cu ct hs]) (L' := [[(z, .inl (G.2.1 4, 80, .inr (.inl sm)))], wXo G.2.1 (ad 0) (xF ad) .null K, wSh G.2.1 (ad 1) S, wSh G.2.1 (ad 2) Fc, wTe G.2.1 (ad 4) C, wSb G.2.1 (ad 5) ou7, wAd G.2.1 (ad 6) D, wAb G.2.1 (ad 7) B, wHo G.2.1 (ad 3) cu ct hs, hsL G.2.1 hs]) h9 10 [2, 0, 3, 4, 5, 6, 7, 8, 1, 9] rfl rfl rfl
    refine lv_istore (lv' := [(9, .int (nI ct)), (7, .long (sumF S c t q)), (6, .int (nI i)), (5, .int pd), (4, .int (nI k)), (3, .int (nI made)), (2, .ref z), (1, .ref ((ad 0) 0)), (0, .ref b)]) F.x F.b dL_law_48 hl (by decide) rfl (fun ls hl => ?_)
    refine lv_iload F.x F.b dL_law_50 (lv_at hl 2 rfl) ?_
    refine lv_iconst (v := 5) F.x F.b dL_law_52 (by decide) ?_
    obtain ⟨ou, hoe⟩ : ∃ x : oB, x = ou7 := ⟨_, rfl⟩
    rw [← hoe] at w hou7
    have hT := hou7
    have K504 : ∀ (r9 pd' : Int32) (K' S' C' Fc B D : Mem) (cu' ct' c' t' q' : Nat) (hs' : hS) (ou : oB) (cells slots : Nat) (H : Heap) (locs : List Loc) (ls : Array Slot), Gd (i + 1) S' c' t' q' → cu' < 9 → S'.1 3 + S'.1 4 = pd' → (∀ (Fc B D : Mem) (hs9 : hS) (cells slots : Nat) (H : Heap) (locs : List Loc) (ls : Array Slot), HF cu' hs' hs9 → cells ≤ 400 * i + 890 → slots ≤ 4000 * i + 8900 → Wd G A s.heap (fl [[(z, .inl (G.2.1 4, 80, .inr (.inl sm)))], wXo G.2.1 (ad 0) (xF ad) .null K', wSh G.2.1 (ad 1) S', wSh G.2.1 (ad 2) Fc, wTe G.2.1 (ad 4) C', wSb G.2.1 (ad 5) ou, wAd G.2.1 (ad 6) D, wAb G.2.1 (ad 7) B, wHo G.2.1 (ad 3) cu' ct' hs9, hsL G.2.1 hs9]) H locs → lv_has ls 26 [(21, .int r9), (9, .int (nI ct)), (7, .long (sumF S c t q)), (6, .int (nI i)), (5, .int pd'), (4, .int (nI (k + 5))), (3, .int (nI made)), (2, .ref z), (1, .ref ((ad 0) 0)), (0, .ref b)] → W p l e0 room_1 s m0 args below meth cm H locs cells slots QQ (F0 m0 551 ls [])) → cells ≤ 400 * i + 585 → slots ≤ 4000 * i + 5870 → Wd G A s.heap (fl [[(z, .inl (G.2.1 4, 80, .inr (.inl sm)))], wXo G.2.1 (ad 0) (xF ad) .null K', wSh G.2.1 (ad 1) S', wSh G.2.1 (ad 2) Fc, wTe G.2.1 (ad 4) C', wSb G.2.1 (ad 5) ou, wAd G.2.1 (ad 6) D, wAb G.2.1 (ad 7) B, wHo G.2.1 (ad 3) cu' ct' hs', hsL G.2.1 hs']) H locs → lv_has ls 26 [(25, .int 1), (21, .int r9), (9, .int (nI ct)), (7, .long (sumF S c t q)), (6, .int (nI i)), (5, .int pd'), (4, .int (nI k)), (3, .int (nI made)), (2, .ref z), (1, .ref ((ad 0) 0)), (0, .ref b)] → W p l e0 room_1 s m0 args below meth cm H locs cells slots QQ (F0 m0 504 ls []) := by
      intro r9 pd' K' S' C' Fc B D cu' ct' c' t' q' hs' ou cells slots H locs ls g' hcu' hpd' hk9 hc9 hs9 w hl
      refine lv_iinc (v := (nI (k + 5))) (lv' := [(4, .int (nI (k + 5))), (25, .int 1), (21, .int r9), (9, .int (nI ct)), (7, .long (sumF S c t q)), (6, .int (nI i)), (5, .int pd'), (3, .int (nI made)), (2, .ref z), (1, .ref ((ad 0) 0)), (0, .ref b)]) F.x F.b dL_law_504 hl (k := 6) rfl (nI_add k 5) (by decide) rfl (fun ls hl => ?_)
      refine lv_iload F.x F.b dL_law_507 (lv_at hl 1 rfl) ?_
      refine lv_if_eq (tgt := 549) F.x F.b dL_law_509 (by decide) (fun c9 => absurd c9 (by decide)) (fun _ => ?_)
      refine lv_aload_n F.x F.b dL_law_512 rfl (lv_at hl 9 rfl) ?_
      refine kXi F w hst (LC := [wXo G.2.1 (ad 0) (xF ad) .null K', wSh G.2.1 (ad 1) S']) (LR := [[(z, .inl (G.2.1 4, 80, .inr (.inl sm)))], wSh G.2.1 (ad 2) Fc, wTe G.2.1 (ad 4) C', wSb G.2.1 (ad 5) ou, wAd G.2.1 (ad 6) D, wAb G.2.1 (ad 7) B, wHo G.2.1 (ad 3) cu' ct' hs', hsL G.2.1 hs']) (As := []) (rest := []) ((t_X6_bond F.1 (x := ad 0) (a := ad 1) (rf := xF ad) (sv := .null) rfl (show f_X6_bond K' S' = some (S'.1 3) from rfl)).toX : CX G yX6_bond cX6_bond 1 .int 0 0 0 0 [.ref ((ad 0) 0)] (fl [wXo G.2.1 (ad 0) (xF ad) .null K', wSh G.2.1 (ad 1) S']) _ _) m_X6_bond v_X6_bond q311 (ci := 10) (q0 := 1) rfl rfl rfl 10 [1, 2, 0, 3, 4, 5, 6, 7, 8, 9] rfl rfl rfl ⟨Nat.le_of_ble_eq_true rfl, Nat.le_of_ble_eq_true rfl⟩ rfl hl.1 rfl (Nat.le_of_ble_eq_true rfl) dL_law_513 ⟨by show _ ≤ 660961; omega, by show _ ≤ 7109381; omega⟩ (fun _ _ _ _ _ _ hx => False.elim hx) (fun r9 w1 H locs h9 w => ?_)
      obtain ⟨rfl, h9⟩ := h9
      have w := w.jn (L1 := [wXo G.2.1 (ad 0) (xF ad) .null K', wSh G.2.1 (ad 1) S']) (L' := [[(z, .inl (G.2.1 4, 80, .inr (.inl sm)))], wXo G.2.1 (ad 0) (xF ad) .null K', wSh G.2.1 (ad 1) S', wSh G.2.1 (ad 2) Fc, wTe G.2.1 (ad 4) C', wSb G.2.1 (ad 5) ou, wAd G.2.1 (ad 6) D, wAb G.2.1 (ad 7) B, wHo G.2.1 (ad 3) cu' ct' hs', hsL G.2.1 hs']) h9 10 [2, 0, 1, 3, 4, 5, 6, 7, 8, 9] rfl rfl rfl
      refine lv_aload_n F.x F.b dL_law_516 rfl (lv_at hl 9 rfl) ?_
      refine kXi F w hst (LC := [wXo G.2.1 (ad 0) (xF ad) .null K', wSh G.2.1 (ad 1) S']) (LR := [[(z, .inl (G.2.1 4, 80, .inr (.inl sm)))], wSh G.2.1 (ad 2) Fc, wTe G.2.1 (ad 4) C', wSb G.2.1 (ad 5) ou, wAd G.2.1 (ad 6) D, wAb G.2.1 (ad 7) B, wHo G.2.1 (ad 3) cu' ct' hs', hsL G.2.1 hs']) (As := []) (rest := [.int (S'.1 3)]) ((t_X6_collected F.1 (x := ad 0) (a := ad 1) (rf := xF ad) (sv := .null) rfl (show f_X6_collected K' S' = some (S'.1 4) from rfl)).toX : CX G yX6_collected cX6_collected 1 .int 0 0 0 0 [.ref ((ad 0) 0)] (fl [wXo G.2.1 (ad 0) (xF ad) .null K', wSh G.2.1 (ad 1) S']) _ _) m_X6_collected v_X6_collected q315 (ci := 10) (q0 := 1) rfl rfl rfl 10 [1, 2, 0, 3, 4, 5, 6, 7, 8, 9] rfl rfl rfl ⟨Nat.le_of_ble_eq_true rfl, Nat.le_of_ble_eq_true rfl⟩ rfl hl.1 rfl (Nat.le_of_ble_eq_true rfl) dL_law_517 ⟨by show _ ≤ 660961; omega, by show _ ≤ 7109381; omega⟩ (fun _ _ _ _ _ _ hx => False.elim hx) (fun r9 w1 H locs h9 w => ?_)
      obtain ⟨rfl, h9⟩ := h9
      have w := w.jn (L1 := [wXo G.2.1 (ad 0) (xF ad) .null K', wSh G.2.1 (ad 1) S']) (L' := [[(z, .inl (G.2.1 4, 80, .inr (.inl sm)))], wXo G.2.1 (ad 0) (xF ad) .null K', wSh G.2.1 (ad 1) S', wSh G.2.1 (ad 2) Fc, wTe G.2.1 (ad 4) C', wSb G.2.1 (ad 5) ou, wAd G.2.1 (ad 6) D, wAb G.2.1 (ad 7) B, wHo G.2.1 (ad 3) cu' ct' hs', hsL G.2.1 hs']) h9 10 [2, 0, 1, 3, 4, 5, 6, 7, 8, 9] rfl rfl rfl
      refine lv_iadd F.x F.b dL_law_520 ?_
      refine lv_iload F.x F.b dL_law_521 (lv_at hl 6 rfl) ?_
      refine lv_icmp_ne (tgt := 549) F.x F.b dL_law_523 (by decide) (fun c9 => absurd hpd' c9) (fun _ => ?_)
      refine lv_aload_n F.x F.b dL_law_526 rfl (lv_at hl 9 rfl) ?_
      refine lv_aload_n F.x F.b dL_law_527 rfl (lv_at hl 10 rfl) ?_
      refine lv_iload F.x F.b dL_law_528 (lv_at hl 0 rfl) ?_
      refine lv_iload F.x F.b dL_law_530 (lv_at hl 5 rfl) ?_
      refine lv_iconst (v := 4) F.x F.b dL_law_532 (by decide) ?_
      refine lv_irem F.x F.b dL_law_533 (by decide) ?_
      refine lv_iconst (v := 3) F.x F.b dL_law_534 (by decide) ?_
      rcases Decidable.em (((nI i) - (nI i) / 4 * 4) = 3) with z9 | z9
      · refine lv_icmp_ne (tgt := 542) F.x F.b dL_law_535 (by decide) (fun c9 => absurd z9 c9) (fun _ => ?_)
        refine lv_iconst (v := 1) F.x F.b dL_law_538 (by decide) ?_
        refine lv_goto (tgt := 543) F.x F.b dL_law_539 (by decide) ?_
        refine kBi F w hst (LC := [wXo G.2.1 (ad 0) (xF ad) .null K', wSh G.2.1 (ad 1) S', wSh G.2.1 (ad 2) Fc, wAb G.2.1 (ad 7) B, wAd G.2.1 (ad 6) D, wHo G.2.1 (ad 3) cu' ct' hs', hsL G.2.1 hs']) (LR := [[(z, .inl (G.2.1 4, 80, .inr (.inl sm)))], wTe G.2.1 (ad 4) C', wSb G.2.1 (ad 5) ou]) (As := [.ref ((ad 0) 0), .ref b, .int (nI (k + 5)), .int 1]) (rest := []) (w_isWhole F.1 gM hNC hXS (f := 1) g' (by omega) hcu' (k := k + 5) (by omega) (by decide)) m_L_isWhole v_L_isWhole q1286 10 [1, 2, 3, 7, 6, 8, 9, 0, 4, 5] rfl rfl rfl ⟨Nat.le_of_ble_eq_true rfl, Nat.le_of_ble_eq_true rfl⟩ rfl hl.1 rfl (Nat.le_of_ble_eq_true rfl) dL_law_543 ⟨by show _ ≤ 660961; omega, by show _ ≤ 7109381; omega⟩ (fun r9 w1 H locs h9 w => ?_)
        obtain ⟨rfl, F9, B9, D9, hs9, hF9, h9⟩ := h9
        have w := w.jn (L1 := [wXo G.2.1 (ad 0) (xF ad) .null K', wSh G.2.1 (ad 1) S', wSh G.2.1 (ad 2) F9, wAb G.2.1 (ad 7) B9, wAd G.2.1 (ad 6) D9, wHo G.2.1 (ad 3) cu' ct' hs9, hsL G.2.1 hs9]) (L' := [[(z, .inl (G.2.1 4, 80, .inr (.inl sm)))], wXo G.2.1 (ad 0) (xF ad) .null K', wSh G.2.1 (ad 1) S', wSh G.2.1 (ad 2) F9, wTe G.2.1 (ad 4) C', wSb G.2.1 (ad 5) ou, wAd G.2.1 (ad 6) D9, wAb G.2.1 (ad 7) B9, wHo G.2.1 (ad 3) cu' ct' hs9, hsL G.2.1 hs9]) h9 10 [7, 0, 1, 2, 8, 9, 4, 3, 5, 6] rfl rfl rfl
        refine lv_if_ne (tgt := 551) F.x F.b dL_law_546 (by decide) (fun _ => ?_) (fun c9 => absurd c9 (by decide))
        exact hk9 F9 B9 D9 hs9 _ _ H locs ls hF9 (by omega) (by omega) w (lv_sub hl [2, 3, 4, 5, 6, 0, 7, 8, 9, 10] rfl)
      · refine lv_icmp_ne (tgt := 542) F.x F.b dL_law_535 (by decide) (fun _ => ?_) (fun c9 => absurd c9 z9)
        refine lv_iconst (v := 0) F.x F.b dL_law_542 (by decide) ?_
        refine kBi F w hst (LC := [wXo G.2.1 (ad 0) (xF ad) .null K', wSh G.2.1 (ad 1) S', wSh G.2.1 (ad 2) Fc, wAb G.2.1 (ad 7) B, wAd G.2.1 (ad 6) D, wHo G.2.1 (ad 3) cu' ct' hs', hsL G.2.1 hs']) (LR := [[(z, .inl (G.2.1 4, 80, .inr (.inl sm)))], wTe G.2.1 (ad 4) C', wSb G.2.1 (ad 5) ou]) (As := [.ref ((ad 0) 0), .ref b, .int (nI (k + 5)), .int 0]) (rest := []) (w_isWhole F.1 gM hNC hXS (f := 0) g' (by omega) hcu' (k := k + 5) (by omega) (by decide)) m_L_isWhole v_L_isWhole q1286 10 [1, 2, 3, 7, 6, 8, 9, 0, 4, 5] rfl rfl rfl ⟨Nat.le_of_ble_eq_true rfl, Nat.le_of_ble_eq_true rfl⟩ rfl hl.1 rfl (Nat.le_of_ble_eq_true rfl) dL_law_543 ⟨by show _ ≤ 660961; omega, by show _ ≤ 7109381; omega⟩ (fun r9 w1 H locs h9 w => ?_)
        obtain ⟨rfl, F9, B9, D9, hs9, hF9, h9⟩ := h9
        have w := w.jn (L1 := [wXo G.2.1 (ad 0) (xF ad) .null K', wSh G.2.1 (ad 1) S', wSh G.2.1 (ad 2) F9, wAb G.2.1 (ad 7) B9, wAd G.2.1 (ad 6) D9, wHo G.2.1 (ad 3) cu' ct' hs9, hsL G.2.1 hs9]) (L' := [[(z, .inl (G.2.1 4, 80, .inr (.inl sm)))], wXo G.2.1 (ad 0) (xF ad) .null K', wSh G.2.1 (ad 1) S', wSh G.2.1 (ad 2) F9, wTe G.2.1 (ad 4) C', wSb G.2.1 (ad 5) ou, wAd G.2.1 (ad 6) D9, wAb G.2.1 (ad 7) B9, wHo G.2.1 (ad 3) cu' ct' hs9, hsL G.2.1 hs9]) h9 10 [7, 0, 1, 2, 8, 9, 4, 3, 5, 6] rfl rfl rfl
        refine lv_if_ne (tgt := 551) F.x F.b dL_law_546 (by decide) (fun _ => ?_) (fun c9 => absurd c9 (by decide))
        exact hk9 F9 B9 D9 hs9 _ _ H locs ls hF9 (by omega) (by omega) w (lv_sub hl [2, 3, 4, 5, 6, 0, 7, 8, 9, 10] rfl)
    have K188 : ∀ (kd a e rr : Nat) (D9 Q9 : Int32) (Fc : Mem) (cells slots : Nat) (H : Heap) (locs : List Loc) (ls : Array Slot), kd < 48 → a < 100 → e < 4 → ((∃ p, p < c ∧ S.2 0 p = nI a ∧ D9 = nI (owe S t p)) ∨ ((∀ p, p < c → S.2 0 p ≠ nI a) ∧ D9 = -75)) → (∀ (r : Int32) (S' : Mem), 1 ≤ e → f_X4_letPass S (nI e) = some (r, S') → f_X3_countDamp S' = some (nI rr)) → (q ≠ 0 → Q9 = S.2 9 0) → cells ≤ 400 * i + 510 → slots ≤ 4000 * i + 5100 → Wd G A s.heap (fl [[(z, .inl (G.2.1 4, 80, .inr (.inl sm)))], wXo G.2.1 (ad 0) (xF ad) .null K, wSh G.2.1 (ad 1) S, wSh G.2.1 (ad 2) Fc, wTe G.2.1 (ad 4) C, wSb G.2.1 (ad 5) ou, wAd G.2.1 (ad 6) D, wAb G.2.1 (ad 7) B, wHo G.2.1 (ad 3) cu ct hs, hsL G.2.1 hs]) H locs → lv_has ls 26 [(17, .int (S.1 3)), (16, .int (S.1 6)), (15, .int (nI rr)), (14, .int (nI e)), (13, .int D9), (12, .int (nI a)), (11, .int (nI c)), (10, .int (nI kd)), (9, .int (nI ct)), (7, .long (sumF S c t q)), (6, .int (nI i)), (5, .int pd), (4, .int (nI k)), (3, .int (nI made)), (2, .ref z), (1, .ref ((ad 0) 0)), (0, .ref b)] → W p l e0 room_1 s m0 args below meth cm H locs cells slots QQ (F0 m0 188 ls [.int Q9]) := by
      intro kd a e rr D9 Q9 Fc cells slots H locs ls hkd ha he hD9 hda hQ9 hc9 hs9 w hl
      obtain ⟨mo, D8, hm1, hm2, -, hm4⟩ := h.most D
      refine lv_istore (lv' := [(18, .int Q9), (17, .int (S.1 3)), (16, .int (S.1 6)), (15, .int (nI rr)), (14, .int (nI e)), (13, .int D9), (12, .int (nI a)), (11, .int (nI c)), (10, .int (nI kd)), (9, .int (nI ct)), (7, .long (sumF S c t q)), (6, .int (nI i)), (5, .int pd), (4, .int (nI k)), (3, .int (nI made)), (2, .ref z), (1, .ref ((ad 0) 0)), (0, .ref b)]) F.x F.b dL_law_188 hl (by decide) rfl (fun ls hl => ?_)
      refine lv_aload_n F.x F.b dL_law_190 rfl (lv_at hl 16 rfl) ?_
      refine kXi F w hst (LC := [wXo G.2.1 (ad 0) (xF ad) .null K, wSh G.2.1 (ad 1) S]) (LR := [[(z, .inl (G.2.1 4, 80, .inr (.inl sm)))], wSh G.2.1 (ad 2) Fc, wTe G.2.1 (ad 4) C, wSb G.2.1 (ad 5) ou, wAd G.2.1 (ad 6) D, wAb G.2.1 (ad 7) B, wHo G.2.1 (ad 3) cu ct hs, hsL G.2.1 hs]) (As := []) (rest := []) ((t_X6_queueLength F.1 (x := ad 0) (a := ad 1) (rf := xF ad) (sv := .null) rfl (show f_X6_queueLength K S = some (S.1 7) from rfl)).toX : CX G yX6_queueLength cX6_queueLength 1 .int 0 0 0 0 [.ref ((ad 0) 0)] (fl [wXo G.2.1 (ad 0) (xF ad) .null K, wSh G.2.1 (ad 1) S]) _ _) m_X6_queueLength v_X6_queueLength q307 (ci := 10) (q0 := 1) rfl rfl rfl 10 [1, 2, 0, 3, 4, 5, 6, 7, 8, 9] rfl rfl rfl ⟨Nat.le_of_ble_eq_true rfl, Nat.le_of_ble_eq_true rfl⟩ rfl hl.1 rfl (Nat.le_of_ble_eq_true rfl) dL_law_191 ⟨by show _ ≤ 660961; omega, by show _ ≤ 7109381; omega⟩ (fun _ _ _ _ _ _ hx => False.elim hx) (fun r9 w1 H locs h9 w => ?_)
      obtain ⟨rfl, h9⟩ := h9
      have w := w.jn (L1 := [wXo G.2.1 (ad 0) (xF ad) .null K, wSh G.2.1 (ad 1) S]) (L' := [[(z, .inl (G.2.1 4, 80, .inr (.inl sm)))], wXo G.2.1 (ad 0) (xF ad) .null K, wSh G.2.1 (ad 1) S, wSh G.2.1 (ad 2) Fc, wTe G.2.1 (ad 4) C, wSb G.2.1 (ad 5) ou, wAd G.2.1 (ad 6) D, wAb G.2.1 (ad 7) B, wHo G.2.1 (ad 3) cu ct hs, hsL G.2.1 hs]) h9 10 [2, 0, 1, 3, 4, 5, 6, 7, 8, 9] rfl rfl rfl
      rw [show ((S.1 7) : Int32) = (nI q) from h.q1]
      refine lv_istore (lv' := [(19, .int (nI q)), (18, .int Q9), (17, .int (S.1 3)), (16, .int (S.1 6)), (15, .int (nI rr)), (14, .int (nI e)), (13, .int D9), (12, .int (nI a)), (11, .int (nI c)), (10, .int (nI kd)), (9, .int (nI ct)), (7, .long (sumF S c t q)), (6, .int (nI i)), (5, .int pd), (4, .int (nI k)), (3, .int (nI made)), (2, .ref z), (1, .ref ((ad 0) 0)), (0, .ref b)]) F.x F.b dL_law_194 hl (by decide) rfl (fun ls hl => ?_)
      refine lv_aload_n F.x F.b dL_law_196 rfl (lv_at hl 17 rfl) ?_
      refine kXi F w hst (LC := [wXo G.2.1 (ad 0) (xF ad) .null K, wSh G.2.1 (ad 1) S, wAd G.2.1 (ad 6) D]) (LR := [[(z, .inl (G.2.1 4, 80, .inr (.inl sm)))], wSh G.2.1 (ad 2) Fc, wTe G.2.1 (ad 4) C, wSb G.2.1 (ad 5) ou, wAb G.2.1 (ad 7) B, wHo G.2.1 (ad 3) cu ct hs, hsL G.2.1 hs]) (As := []) (rest := []) ((t_X6_mostReleases F.1 (x := ad 0) (a := ad 1) (da := ad 6) (rf := xF ad) (sv := .null) rfl (rfl : (xF ad) 5 = (ad 6) 0) (show f_X6_mostReleases K S D = some (nI mo, D8) from by rw [f_X6_mostReleases, hm1]; rfl)).toX : CX G yX6_mostReleases cX6_mostReleases 1 .int 5 114 0 0 [.ref ((ad 0) 0)] (fl [wXo G.2.1 (ad 0) (xF ad) .null K, wSh G.2.1 (ad 1) S, wAd G.2.1 (ad 6) D]) _ _) m_X6_mostReleases v_X6_mostReleases q319 (ci := 10) (q0 := 1) rfl rfl rfl 10 [1, 2, 6, 0, 3, 4, 5, 7, 8, 9] rfl rfl rfl ⟨Nat.le_of_ble_eq_true rfl, Nat.le_of_ble_eq_true rfl⟩ rfl hl.1 rfl (Nat.le_of_ble_eq_true rfl) dL_law_197 ⟨by show _ ≤ 660961; omega, by show _ ≤ 7109381; omega⟩ (fun _ _ _ _ _ _ hx => False.elim hx) (fun r9 w1 H locs h9 w => ?_)
      obtain ⟨rfl, h9⟩ := h9
      have w := w.jn (L1 := [wXo G.2.1 (ad 0) (xF ad) .null K, wSh G.2.1 (ad 1) S, wAd G.2.1 (ad 6) D8]) (L' := [[(z, .inl (G.2.1 4, 80, .inr (.inl sm)))], wXo G.2.1 (ad 0) (xF ad) .null K, wSh G.2.1 (ad 1) S, wSh G.2.1 (ad 2) Fc, wTe G.2.1 (ad 4) C, wSb G.2.1 (ad 5) ou, wAd G.2.1 (ad 6) D8, wAb G.2.1 (ad 7) B, wHo G.2.1 (ad 3) cu ct hs, hsL G.2.1 hs]) h9 10 [3, 0, 1, 4, 5, 6, 2, 7, 8, 9] rfl rfl rfl
      refine lv_istore (lv' := [(20, .int (nI mo)), (19, .int (nI q)), (18, .int Q9), (17, .int (S.1 3)), (16, .int (S.1 6)), (15, .int (nI rr)), (14, .int (nI e)), (13, .int D9), (12, .int (nI a)), (11, .int (nI c)), (10, .int (nI kd)), (9, .int (nI ct)), (7, .long (sumF S c t q)), (6, .int (nI i)), (5, .int pd), (4, .int (nI k)), (3, .int (nI made)), (2, .ref z), (1, .ref ((ad 0) 0)), (0, .ref b)]) F.x F.b dL_law_200 hl (by decide) rfl (fun ls hl => ?_)
      refine lv_aload_n F.x F.b dL_law_202 rfl (lv_at hl 19 rfl) ?_
      refine lv_iload F.x F.b dL_law_203 (lv_at hl 15 rfl) ?_
      refine lv_iload F.x F.b dL_law_205 (lv_at hl 10 rfl) ?_
      refine lv_aload_n F.x F.b dL_law_207 rfl (lv_at hl 18 rfl) ?_
      refine lv_iload F.x F.b dL_law_208 (lv_at hl 8 rfl) ?_
      refine lv_iload F.x F.b dL_law_210 (lv_at hl 6 rfl) ?_
      refine kBi F w hst (LC := [wXo G.2.1 (ad 0) (xF ad) .null K, wSh G.2.1 (ad 1) S, wTe G.2.1 (ad 4) C, wHo G.2.1 (ad 3) cu ct hs, hsL G.2.1 hs]) (LR := [[(z, .inl (G.2.1 4, 80, .inr (.inl sm)))], wSh G.2.1 (ad 2) Fc, wSb G.2.1 (ad 5) ou, wAd G.2.1 (ad 6) D8, wAb G.2.1 (ad 7) B]) (As := [.ref b, .int (nI k), .int (nI kd), .ref ((ad 0) 0), .int (nI a), .int (nI e)]) (rest := []) (w_does F.1 gM hNC hSG hUG pv pv2 hCB hD hXS h (by omega) hI.1 hI.2.1 hC0 (by omega) hkd ha (e := e) (by omega)) m_L_does v_L_does q604 10 [1, 2, 4, 8, 9, 0, 3, 5, 6, 7] rfl rfl rfl ⟨Nat.le_of_ble_eq_true rfl, Nat.le_of_ble_eq_true rfl⟩ rfl hl.1 rfl (Nat.le_of_ble_eq_true rfl) dL_law_212 ⟨by show _ ≤ 660961; omega, by show _ ≤ 7109381; omega⟩ (fun r9 w1 H locs h9 w => ?_)
      obtain ⟨K9, S9, C9, hs9, hr9, hno, sm9, hF9, hC9, h9⟩ | ⟨r, K9, S9, C9, c9, t9, q9, b9, P9, e9, hr9, g9, ⟨P0, hP9⟩, hye, hC9, h9⟩ := h9
      · have w := w.jn (L1 := [wXo G.2.1 (ad 0) (xF ad) .null K9, wSh G.2.1 (ad 1) S9, wTe G.2.1 (ad 4) C9, wHo G.2.1 (ad 3) cu ct hs9, hsL G.2.1 hs9]) (L' := [[(z, .inl (G.2.1 4, 80, .inr (.inl sm)))], wXo G.2.1 (ad 0) (xF ad) .null K9, wSh G.2.1 (ad 1) S9, wSh G.2.1 (ad 2) Fc, wTe G.2.1 (ad 4) C9, wSb G.2.1 (ad 5) ou, wAd G.2.1 (ad 6) D8, wAb G.2.1 (ad 7) B, wHo G.2.1 (ad 3) cu ct hs9, hsL G.2.1 hs9]) h9 10 [5, 0, 1, 6, 2, 7, 8, 9, 3, 4] rfl rfl rfl
        have g9 : Gd i S9 c t q := h.same sm9
        have KA : ∀ (Fc9 B9 D9 : Mem) (hs8 : hS) (cells slots : Nat) (H : Heap) (locs : List Loc) (ls : Array Slot), HF cu hs9 hs8 → cells ≤ 400 * i + 890 → slots ≤ 4000 * i + 8900 → Wd G A s.heap (fl [[(z, .inl (G.2.1 4, 80, .inr (.inl sm)))], wXo G.2.1 (ad 0) (xF ad) .null K9, wSh G.2.1 (ad 1) S9, wSh G.2.1 (ad 2) Fc9, wTe G.2.1 (ad 4) C9, wSb G.2.1 (ad 5) ou, wAd G.2.1 (ad 6) D9, wAb G.2.1 (ad 7) B9, wHo G.2.1 (ad 3) cu ct hs8, hsL G.2.1 hs8]) H locs → lv_has ls 26 [(21, .int r9), (9, .int (nI ct)), (7, .long (sumF S c t q)), (6, .int (nI i)), (5, .int (pd + 0)), (4, .int (nI (k + 5))), (3, .int (nI made)), (2, .ref z), (1, .ref ((ad 0) 0)), (0, .ref b)] → W p l e0 room_1 s m0 args below meth cm H locs cells slots QQ (F0 m0 551 ls []) := by
          intro Fc9 B9 D9 hs8 cells slots H locs ls hF8 hc9 hs9 w hl
          refine lv_iload F.x F.b dL_law_551 (lv_at hl 0 rfl) ?_
          refine lv_bipush (v := (-74)) F.x F.b dL_law_553 (by decide) ?_
          refine lv_icmp_gt (tgt := 579) F.x F.b dL_law_555 (by decide) (fun c9 => absurd c9 (rf_74 hr9)) (fun _ => ?_)
          refine lv_aload_n F.x F.b dL_law_558 rfl (lv_at hl 8 rfl) ?_
          refine kBl F w hst (LC := [wXo G.2.1 (ad 0) (xF ad) .null K9, wSh G.2.1 (ad 1) S9, wSb G.2.1 (ad 5) ou]) (LR := [[(z, .inl (G.2.1 4, 80, .inr (.inl sm)))], wSh G.2.1 (ad 2) Fc9, wTe G.2.1 (ad 4) C9, wAd G.2.1 (ad 6) D9, wAb G.2.1 (ad 7) B9, wHo G.2.1 (ad 3) cu ct hs8, hsL G.2.1 hs8]) (As := [.ref ((ad 0) 0)]) (rest := []) (w_sum F.1 hSG pv hD g9 hT) m_L_sum v_L_sum q1167 10 [1, 2, 5, 0, 3, 4, 6, 7, 8, 9] rfl rfl rfl ⟨Nat.le_of_ble_eq_true rfl, Nat.le_of_ble_eq_true rfl⟩ rfl hl.1 rfl (Nat.le_of_ble_eq_true rfl) dL_law_559 ⟨by show _ ≤ 660961; omega, by show _ ≤ 7109381; omega⟩ (fun r9 w1 H locs h9 w => ?_)
          obtain ⟨rfl, ou8, L8, hou8, h9⟩ := h9
          have w := w.jn (L1 := [wXo G.2.1 (ad 0) (xF ad) .null K9, wSh G.2.1 (ad 1) S9, wSb G.2.1 (ad 5) ou8]) (L' := [[(z, .inl (G.2.1 4, 80, .inr (.inl sm)))], wXo G.2.1 (ad 0) (xF ad) .null K9, wSh G.2.1 (ad 1) S9, wSh G.2.1 (ad 2) Fc9, wTe G.2.1 (ad 4) C9, wSb G.2.1 (ad 5) ou8, wAd G.2.1 (ad 6) D9, wAb G.2.1 (ad 7) B9, wHo G.2.1 (ad 3) cu ct hs8, hsL G.2.1 hs8]) h9 10 [3, 0, 1, 4, 5, 2, 6, 7, 8, 9] rfl rfl rfl
          refine lv_lload F.x F.b dL_law_562 (lv_at hl 2 rfl) ?_
          refine rLc F.x F.b (sumF_same sm9) dL_law_564 ?_
          refine lv_if_ne (tgt := 577) F.x F.b dL_law_565 (by decide) (fun c9 => absurd rfl c9) (fun _ => ?_)
          refine lv_aload_n F.x F.b dL_law_568 rfl (lv_at hl 8 rfl) ?_
          refine kXi F w hst (LC := [wXo G.2.1 (ad 0) (xF ad) .null K9, wHo G.2.1 (ad 3) cu ct hs8]) (LR := [[(z, .inl (G.2.1 4, 80, .inr (.inl sm)))], wSh G.2.1 (ad 1) S9, wSh G.2.1 (ad 2) Fc9, wTe G.2.1 (ad 4) C9, wSb G.2.1 (ad 5) ou8, wAd G.2.1 (ad 6) D9, wAb G.2.1 (ad 7) B9, hsL G.2.1 hs8]) (As := []) (rest := []) (k_undoCount F.1) m_X6_undoCount v_X6_undoCount q349 (ci := 10) (q0 := 1) rfl rfl rfl 10 [1, 8, 0, 2, 3, 4, 5, 6, 7, 9] rfl rfl rfl ⟨Nat.le_of_ble_eq_true rfl, Nat.le_of_ble_eq_true rfl⟩ rfl hl.1 rfl (Nat.le_of_ble_eq_true rfl) dL_law_569 ⟨by show _ ≤ 660961; omega, by show _ ≤ 7109381; omega⟩ (fun _ _ _ _ _ _ hx => False.elim hx) (fun r9 w1 H locs h9 w => ?_)
          obtain ⟨rfl, h9⟩ := h9
          have w := w.jn (L1 := [wXo G.2.1 (ad 0) (xF ad) .null K9, wHo G.2.1 (ad 3) cu ct hs8]) (L' := [[(z, .inl (G.2.1 4, 80, .inr (.inl sm)))], wXo G.2.1 (ad 0) (xF ad) .null K9, wSh G.2.1 (ad 1) S9, wSh G.2.1 (ad 2) Fc9, wTe G.2.1 (ad 4) C9, wSb G.2.1 (ad 5) ou8, wAd G.2.1 (ad 6) D9, wAb G.2.1 (ad 7) B9, wHo G.2.1 (ad 3) cu ct hs8, hsL G.2.1 hs8]) h9 10 [2, 0, 3, 4, 5, 6, 7, 8, 1, 9] rfl rfl rfl
          refine lv_iload F.x F.b dL_law_572 (lv_at hl 1 rfl) ?_
          refine lv_icmp_eq (tgt := 589) F.x F.b dL_law_574 (by decide) (fun _ => ?_) (fun c9 => absurd rfl c9)
          refine lv_iinc (v := (nI (i + 1))) (lv' := [(6, .int (nI (i + 1))), (21, .int r9), (9, .int (nI ct)), (7, .long (sumF S c t q)), (5, .int (pd + 0)), (4, .int (nI (k + 5))), (3, .int (nI made)), (2, .ref z), (1, .ref ((ad 0) 0)), (0, .ref b)]) F.x F.b dL_law_589 hl (k := 3) rfl (nI_1 i) (by decide) rfl (fun ls hl => ?_)
          refine lv_goto (tgt := 31) F.x F.b dL_law_592 (by decide) ?_
          exact ih (i + 1) (by omega) K9 S9 Fc9 C9 D9 B9 ou8 L8 cu ct made c t q (k + 5) hs8 sm (pd + 0) _ _ H locs ls (g9.mono (Nat.le_succ i)) hC9 hou8 ((hI.free (hF9.tr hF8)).up (Nat.le_succ i)) hct (by omega) ((sumF_same sm9).trans hsm) (by rw [sm9.1 3 (by omega), sm9.1 4 (by omega), hpd]; exact (Int32.add_zero pd).symm) (by omega) (by omega) (by omega) w (lv_sub hl [0, 4, 5, 6, 7, 8, 9] rfl)
        rcases (show (kd < 8) ∨ (kd = 8) ∨ (kd = 9 ∨ kd = 10) ∨ (kd = 11) ∨ (kd = 12) ∨ (13 ≤ kd ∧ kd ≤ 15) ∨ (16 ≤ kd ∧ kd ≤ 43) ∨ (44 ≤ kd) by omega) with hreg | hreg | hreg | hreg | hreg | hreg | hreg | hreg
        · refine lv_istore (lv' := [(21, .int r9), (20, .int (nI mo)), (19, .int (nI q)), (18, .int Q9), (17, .int (S.1 3)), (16, .int (S.1 6)), (15, .int (nI rr)), (14, .int (nI e)), (13, .int D9), (12, .int (nI a)), (11, .int (nI c)), (10, .int (nI kd)), (9, .int (nI ct)), (7, .long (sumF S c t q)), (6, .int (nI i)), (5, .int pd), (4, .int (nI k)), (3, .int (nI made)), (2, .ref z), (1, .ref ((ad 0) 0)), (0, .ref b)]) F.x F.b dL_law_215 hl (by decide) rfl (fun ls hl => ?_)
          refine lv_iload F.x F.b dL_law_217 (lv_at hl 11 rfl) ?_
          refine lv_bipush (v := 12) F.x F.b dL_law_219 (by decide) ?_
          refine lv_icmp_le (tgt := 242) F.x F.b dL_law_221 (by decide) (fun _ => ?_) (fun c9 => absurd (show nI kd ≤ 12 from (nI_leI (a := kd) (b := 12) (by omega) (by omega)).mpr (by omega)) c9)
          refine lv_iconst (v := 0) F.x F.b dL_law_242 (by decide) ?_
          refine lv_istore (lv' := [(22, .int 0), (21, .int r9), (20, .int (nI mo)), (19, .int (nI q)), (18, .int Q9), (17, .int (S.1 3)), (16, .int (S.1 6)), (15, .int (nI rr)), (14, .int (nI e)), (13, .int D9), (12, .int (nI a)), (11, .int (nI c)), (10, .int (nI kd)), (9, .int (nI ct)), (7, .long (sumF S c t q)), (6, .int (nI i)), (5, .int pd), (4, .int (nI k)), (3, .int (nI made)), (2, .ref z), (1, .ref ((ad 0) 0)), (0, .ref b)]) F.x F.b dL_law_243 hl (by decide) rfl (fun ls hl => ?_)
          refine lv_iload F.x F.b dL_law_245 (lv_at hl 12 rfl) ?_
          refine lv_bipush (v := 43) F.x F.b dL_law_247 (by decide) ?_
          refine lv_icmp_le (tgt := 256) F.x F.b dL_law_249 (by decide) (fun _ => ?_) (fun c9 => absurd (show nI kd ≤ 43 from (nI_leI (a := kd) (b := 43) (by omega) (by omega)).mpr (by omega)) c9)
          refine lv_iconst (v := 0) F.x F.b dL_law_256 (by decide) ?_
          refine lv_istore (lv' := [(23, .int 0), (22, .int 0), (21, .int r9), (20, .int (nI mo)), (19, .int (nI q)), (18, .int Q9), (17, .int (S.1 3)), (16, .int (S.1 6)), (15, .int (nI rr)), (14, .int (nI e)), (13, .int D9), (12, .int (nI a)), (11, .int (nI c)), (10, .int (nI kd)), (9, .int (nI ct)), (7, .long (sumF S c t q)), (6, .int (nI i)), (5, .int pd), (4, .int (nI k)), (3, .int (nI made)), (2, .ref z), (1, .ref ((ad 0) 0)), (0, .ref b)]) F.x F.b dL_law_257 hl (by decide) rfl (fun ls hl => ?_)
          refine lv_iload F.x F.b dL_law_259 (lv_at hl 13 rfl) ?_
          refine lv_bipush (v := 8) F.x F.b dL_law_261 (by decide) ?_
          refine lv_icmp_eq (tgt := 273) F.x F.b dL_law_263 (by decide) (fun c9 => absurd c9 (show ¬ nI kd = 8 from fun z => absurd ((nI_eq (a := kd) (b := 8) (by omega) (by omega)).mp z) (by omega))) (fun _ => ?_)
          refine lv_iload F.x F.b dL_law_266 (lv_at hl 13 rfl) ?_
          refine lv_bipush (v := 11) F.x F.b dL_law_268 (by decide) ?_
          refine lv_icmp_ne (tgt := 284) F.x F.b dL_law_270 (by decide) (fun _ => ?_) (fun c9 => absurd c9 (show ¬ nI kd = 11 from fun z => absurd ((nI_eq (a := kd) (b := 11) (by omega) (by omega)).mp z) (by omega)))
          refine lv_iconst (v := 0) F.x F.b dL_law_284 (by decide) ?_
          refine lv_istore (lv' := [(24, .int 0), (23, .int 0), (22, .int 0), (21, .int r9), (20, .int (nI mo)), (19, .int (nI q)), (18, .int Q9), (17, .int (S.1 3)), (16, .int (S.1 6)), (15, .int (nI rr)), (14, .int (nI e)), (13, .int D9), (12, .int (nI a)), (11, .int (nI c)), (10, .int (nI kd)), (9, .int (nI ct)), (7, .long (sumF S c t q)), (6, .int (nI i)), (5, .int pd), (4, .int (nI k)), (3, .int (nI made)), (2, .ref z), (1, .ref ((ad 0) 0)), (0, .ref b)]) F.x F.b dL_law_285 hl (by decide) rfl (fun ls hl => ?_)
          refine lv_iload F.x F.b dL_law_287 (lv_at hl 2 rfl) ?_
          refine lv_if_eq (tgt := 325) F.x F.b dL_law_289 (by decide) (fun _ => ?_) (fun c9 => absurd rfl c9)
          refine lv_iconst (v := 1) F.x F.b dL_law_325 (by decide) ?_
          refine lv_goto (tgt := 330) F.x F.b dL_law_326 (by decide) ?_
          refine lv_istore (lv' := [(25, .int 1), (24, .int 0), (23, .int 0), (22, .int 0), (21, .int r9), (20, .int (nI mo)), (19, .int (nI q)), (18, .int Q9), (17, .int (S.1 3)), (16, .int (S.1 6)), (15, .int (nI rr)), (14, .int (nI e)), (13, .int D9), (12, .int (nI a)), (11, .int (nI c)), (10, .int (nI kd)), (9, .int (nI ct)), (7, .long (sumF S c t q)), (6, .int (nI i)), (5, .int pd), (4, .int (nI k)), (3, .int (nI made)), (2, .ref z), (1, .ref ((ad 0) 0)), (0, .ref b)]) F.x F.b dL_law_330 hl (by decide) rfl (fun ls hl => ?_)
          refine lv_iload F.x F.b dL_law_332 (lv_at hl 0 rfl) ?_
          refine lv_iload F.x F.b dL_law_334 (lv_at hl 2 rfl) ?_
          refine lv_if_eq (tgt := 417) F.x F.b dL_law_336 (by decide) (fun _ => ?_) (fun c9 => absurd rfl c9)
          refine lv_iconst (v := 1) F.x F.b dL_law_417 (by decide) ?_
          refine lv_goto (tgt := 422) F.x F.b dL_law_418 (by decide) ?_
          refine lv_iand F.x F.b dL_law_422 ?_
          rw [show ((1 : Int32) &&& 1) = 1 from by decide]
          refine lv_istore (lv' := [(25, .int 1), (24, .int 0), (23, .int 0), (22, .int 0), (21, .int r9), (20, .int (nI mo)), (19, .int (nI q)), (18, .int Q9), (17, .int (S.1 3)), (16, .int (S.1 6)), (15, .int (nI rr)), (14, .int (nI e)), (13, .int D9), (12, .int (nI a)), (11, .int (nI c)), (10, .int (nI kd)), (9, .int (nI ct)), (7, .long (sumF S c t q)), (6, .int (nI i)), (5, .int pd), (4, .int (nI k)), (3, .int (nI made)), (2, .ref z), (1, .ref ((ad 0) 0)), (0, .ref b)]) F.x F.b dL_law_423 hl (by decide) rfl (fun ls hl => ?_)
          refine lv_iload F.x F.b dL_law_425 (lv_at hl 0 rfl) ?_
          refine lv_iload F.x F.b dL_law_427 (lv_at hl 1 rfl) ?_
          refine lv_if_eq (tgt := 459) F.x F.b dL_law_429 (by decide) (fun _ => ?_) (fun c9 => absurd rfl c9)
          refine lv_iconst (v := 1) F.x F.b dL_law_459 (by decide) ?_
          refine lv_goto (tgt := 464) F.x F.b dL_law_460 (by decide) ?_
          refine lv_iand F.x F.b dL_law_464 ?_
          rw [show ((1 : Int32) &&& 1) = 1 from by decide]
          refine lv_istore (lv' := [(25, .int 1), (24, .int 0), (23, .int 0), (22, .int 0), (21, .int r9), (20, .int (nI mo)), (19, .int (nI q)), (18, .int Q9), (17, .int (S.1 3)), (16, .int (S.1 6)), (15, .int (nI rr)), (14, .int (nI e)), (13, .int D9), (12, .int (nI a)), (11, .int (nI c)), (10, .int (nI kd)), (9, .int (nI ct)), (7, .long (sumF S c t q)), (6, .int (nI i)), (5, .int pd), (4, .int (nI k)), (3, .int (nI made)), (2, .ref z), (1, .ref ((ad 0) 0)), (0, .ref b)]) F.x F.b dL_law_465 hl (by decide) rfl (fun ls hl => ?_)
          refine lv_iload F.x F.b dL_law_467 (lv_at hl 19 rfl) ?_
          refine lv_iload F.x F.b dL_law_469 (lv_at hl 15 rfl) ?_
          refine lv_bipush (v := 8) F.x F.b dL_law_471 (by decide) ?_
          refine lv_icmp_le (tgt := 500) F.x F.b dL_law_473 (by decide) (fun _ => ?_) (fun c9 => absurd (show nI kd ≤ 8 from (nI_leI (a := kd) (b := 8) (by omega) (by omega)).mpr (by omega)) c9)
          refine lv_iconst (v := 0) F.x F.b dL_law_500 (by decide) ?_
          refine lv_iadd F.x F.b dL_law_501 ?_
          refine lv_istore (lv' := [(5, .int (pd + 0)), (25, .int 1), (24, .int 0), (23, .int 0), (22, .int 0), (21, .int r9), (20, .int (nI mo)), (19, .int (nI q)), (18, .int Q9), (17, .int (S.1 3)), (16, .int (S.1 6)), (15, .int (nI rr)), (14, .int (nI e)), (13, .int D9), (12, .int (nI a)), (11, .int (nI c)), (10, .int (nI kd)), (9, .int (nI ct)), (7, .long (sumF S c t q)), (6, .int (nI i)), (4, .int (nI k)), (3, .int (nI made)), (2, .ref z), (1, .ref ((ad 0) 0)), (0, .ref b)]) F.x F.b dL_law_502 hl (by decide) rfl (fun ls hl => ?_)
          refine K504 r9 (pd + 0) K9 S9 C9 _ _ _ cu ct c t q hs9 _ _ _ H locs ls (g9.mono (Nat.le_succ i)) hI.1 (by rw [sm9.1 3 (by omega), sm9.1 4 (by omega), hpd]; exact (Int32.add_zero pd).symm) ?_ (by omega) (by omega) w (lv_sub hl [1, 5, 17, 18, 19, 0, 20, 21, 22, 23, 24] rfl)
          exact KA
        · refine lv_istore (lv' := [(21, .int r9), (20, .int (nI mo)), (19, .int (nI q)), (18, .int Q9), (17, .int (S.1 3)), (16, .int (S.1 6)), (15, .int (nI rr)), (14, .int (nI e)), (13, .int D9), (12, .int (nI a)), (11, .int (nI c)), (10, .int (nI kd)), (9, .int (nI ct)), (7, .long (sumF S c t q)), (6, .int (nI i)), (5, .int pd), (4, .int (nI k)), (3, .int (nI made)), (2, .ref z), (1, .ref ((ad 0) 0)), (0, .ref b)]) F.x F.b dL_law_215 hl (by decide) rfl (fun ls hl => ?_)
          refine lv_iload F.x F.b dL_law_217 (lv_at hl 11 rfl) ?_
          refine lv_bipush (v := 12) F.x F.b dL_law_219 (by decide) ?_
          refine lv_icmp_le (tgt := 242) F.x F.b dL_law_221 (by decide) (fun _ => ?_) (fun c9 => absurd (show nI kd ≤ 12 from (nI_leI (a := kd) (b := 12) (by omega) (by omega)).mpr (by omega)) c9)
          refine lv_iconst (v := 0) F.x F.b dL_law_242 (by decide) ?_
          refine lv_istore (lv' := [(22, .int 0), (21, .int r9), (20, .int (nI mo)), (19, .int (nI q)), (18, .int Q9), (17, .int (S.1 3)), (16, .int (S.1 6)), (15, .int (nI rr)), (14, .int (nI e)), (13, .int D9), (12, .int (nI a)), (11, .int (nI c)), (10, .int (nI kd)), (9, .int (nI ct)), (7, .long (sumF S c t q)), (6, .int (nI i)), (5, .int pd), (4, .int (nI k)), (3, .int (nI made)), (2, .ref z), (1, .ref ((ad 0) 0)), (0, .ref b)]) F.x F.b dL_law_243 hl (by decide) rfl (fun ls hl => ?_)
          refine lv_iload F.x F.b dL_law_245 (lv_at hl 12 rfl) ?_
          refine lv_bipush (v := 43) F.x F.b dL_law_247 (by decide) ?_
          refine lv_icmp_le (tgt := 256) F.x F.b dL_law_249 (by decide) (fun _ => ?_) (fun c9 => absurd (show nI kd ≤ 43 from (nI_leI (a := kd) (b := 43) (by omega) (by omega)).mpr (by omega)) c9)
          refine lv_iconst (v := 0) F.x F.b dL_law_256 (by decide) ?_
          refine lv_istore (lv' := [(23, .int 0), (22, .int 0), (21, .int r9), (20, .int (nI mo)), (19, .int (nI q)), (18, .int Q9), (17, .int (S.1 3)), (16, .int (S.1 6)), (15, .int (nI rr)), (14, .int (nI e)), (13, .int D9), (12, .int (nI a)), (11, .int (nI c)), (10, .int (nI kd)), (9, .int (nI ct)), (7, .long (sumF S c t q)), (6, .int (nI i)), (5, .int pd), (4, .int (nI k)), (3, .int (nI made)), (2, .ref z), (1, .ref ((ad 0) 0)), (0, .ref b)]) F.x F.b dL_law_257 hl (by decide) rfl (fun ls hl => ?_)
          refine lv_iload F.x F.b dL_law_259 (lv_at hl 13 rfl) ?_
          refine lv_bipush (v := 8) F.x F.b dL_law_261 (by decide) ?_
          refine lv_icmp_eq (tgt := 273) F.x F.b dL_law_263 (by decide) (fun _ => ?_) (fun c9 => absurd (show nI kd = 8 from (nI_eq (a := kd) (b := 8) (by omega) (by omega)).mpr (by omega)) c9)
          refine lv_iload F.x F.b dL_law_273 (lv_at hl 2 rfl) ?_
          refine lv_bipush (v := (-70)) F.x F.b dL_law_275 (by decide) ?_
          refine lv_icmp_le (tgt := 284) F.x F.b dL_law_277 (by decide) (fun _ => ?_) (fun c9 => absurd (rf_70 hr9) c9)
          refine lv_iconst (v := 0) F.x F.b dL_law_284 (by decide) ?_
          refine lv_istore (lv' := [(24, .int 0), (23, .int 0), (22, .int 0), (21, .int r9), (20, .int (nI mo)), (19, .int (nI q)), (18, .int Q9), (17, .int (S.1 3)), (16, .int (S.1 6)), (15, .int (nI rr)), (14, .int (nI e)), (13, .int D9), (12, .int (nI a)), (11, .int (nI c)), (10, .int (nI kd)), (9, .int (nI ct)), (7, .long (sumF S c t q)), (6, .int (nI i)), (5, .int pd), (4, .int (nI k)), (3, .int (nI made)), (2, .ref z), (1, .ref ((ad 0) 0)), (0, .ref b)]) F.x F.b dL_law_285 hl (by decide) rfl (fun ls hl => ?_)
          refine lv_iload F.x F.b dL_law_287 (lv_at hl 2 rfl) ?_
          refine lv_if_eq (tgt := 325) F.x F.b dL_law_289 (by decide) (fun _ => ?_) (fun c9 => absurd rfl c9)
          refine lv_iconst (v := 1) F.x F.b dL_law_325 (by decide) ?_
          refine lv_goto (tgt := 330) F.x F.b dL_law_326 (by decide) ?_
          refine lv_istore (lv' := [(25, .int 1), (24, .int 0), (23, .int 0), (22, .int 0), (21, .int r9), (20, .int (nI mo)), (19, .int (nI q)), (18, .int Q9), (17, .int (S.1 3)), (16, .int (S.1 6)), (15, .int (nI rr)), (14, .int (nI e)), (13, .int D9), (12, .int (nI a)), (11, .int (nI c)), (10, .int (nI kd)), (9, .int (nI ct)), (7, .long (sumF S c t q)), (6, .int (nI i)), (5, .int pd), (4, .int (nI k)), (3, .int (nI made)), (2, .ref z), (1, .ref ((ad 0) 0)), (0, .ref b)]) F.x F.b dL_law_330 hl (by decide) rfl (fun ls hl => ?_)
          refine lv_iload F.x F.b dL_law_332 (lv_at hl 0 rfl) ?_
          refine lv_iload F.x F.b dL_law_334 (lv_at hl 2 rfl) ?_
          refine lv_if_eq (tgt := 417) F.x F.b dL_law_336 (by decide) (fun _ => ?_) (fun c9 => absurd rfl c9)
          refine lv_iconst (v := 1) F.x F.b dL_law_417 (by decide) ?_
          refine lv_goto (tgt := 422) F.x F.b dL_law_418 (by decide) ?_
          refine lv_iand F.x F.b dL_law_422 ?_
          rw [show ((1 : Int32) &&& 1) = 1 from by decide]
          refine lv_istore (lv' := [(25, .int 1), (24, .int 0), (23, .int 0), (22, .int 0), (21, .int r9), (20, .int (nI mo)), (19, .int (nI q)), (18, .int Q9), (17, .int (S.1 3)), (16, .int (S.1 6)), (15, .int (nI rr)), (14, .int (nI e)), (13, .int D9), (12, .int (nI a)), (11, .int (nI c)), (10, .int (nI kd)), (9, .int (nI ct)), (7, .long (sumF S c t q)), (6, .int (nI i)), (5, .int pd), (4, .int (nI k)), (3, .int (nI made)), (2, .ref z), (1, .ref ((ad 0) 0)), (0, .ref b)]) F.x F.b dL_law_423 hl (by decide) rfl (fun ls hl => ?_)
          refine lv_iload F.x F.b dL_law_425 (lv_at hl 0 rfl) ?_
          refine lv_iload F.x F.b dL_law_427 (lv_at hl 1 rfl) ?_
          refine lv_if_eq (tgt := 459) F.x F.b dL_law_429 (by decide) (fun _ => ?_) (fun c9 => absurd rfl c9)
          refine lv_iconst (v := 1) F.x F.b dL_law_459 (by decide) ?_
          refine lv_goto (tgt := 464) F.x F.b dL_law_460 (by decide) ?_
          refine lv_iand F.x F.b dL_law_464 ?_
          rw [show ((1 : Int32) &&& 1) = 1 from by decide]
          refine lv_istore (lv' := [(25, .int 1), (24, .int 0), (23, .int 0), (22, .int 0), (21, .int r9), (20, .int (nI mo)), (19, .int (nI q)), (18, .int Q9), (17, .int (S.1 3)), (16, .int (S.1 6)), (15, .int (nI rr)), (14, .int (nI e)), (13, .int D9), (12, .int (nI a)), (11, .int (nI c)), (10, .int (nI kd)), (9, .int (nI ct)), (7, .long (sumF S c t q)), (6, .int (nI i)), (5, .int pd), (4, .int (nI k)), (3, .int (nI made)), (2, .ref z), (1, .ref ((ad 0) 0)), (0, .ref b)]) F.x F.b dL_law_465 hl (by decide) rfl (fun ls hl => ?_)
          refine lv_iload F.x F.b dL_law_467 (lv_at hl 19 rfl) ?_
          refine lv_iload F.x F.b dL_law_469 (lv_at hl 15 rfl) ?_
          refine lv_bipush (v := 8) F.x F.b dL_law_471 (by decide) ?_
          refine lv_icmp_le (tgt := 500) F.x F.b dL_law_473 (by decide) (fun _ => ?_) (fun c9 => absurd (show nI kd ≤ 8 from (nI_leI (a := kd) (b := 8) (by omega) (by omega)).mpr (by omega)) c9)
          refine lv_iconst (v := 0) F.x F.b dL_law_500 (by decide) ?_
          refine lv_iadd F.x F.b dL_law_501 ?_
          refine lv_istore (lv' := [(5, .int (pd + 0)), (25, .int 1), (24, .int 0), (23, .int 0), (22, .int 0), (21, .int r9), (20, .int (nI mo)), (19, .int (nI q)), (18, .int Q9), (17, .int (S.1 3)), (16, .int (S.1 6)), (15, .int (nI rr)), (14, .int (nI e)), (13, .int D9), (12, .int (nI a)), (11, .int (nI c)), (10, .int (nI kd)), (9, .int (nI ct)), (7, .long (sumF S c t q)), (6, .int (nI i)), (4, .int (nI k)), (3, .int (nI made)), (2, .ref z), (1, .ref ((ad 0) 0)), (0, .ref b)]) F.x F.b dL_law_502 hl (by decide) rfl (fun ls hl => ?_)
          refine K504 r9 (pd + 0) K9 S9 C9 _ _ _ cu ct c t q hs9 _ _ _ H locs ls (g9.mono (Nat.le_succ i)) hI.1 (by rw [sm9.1 3 (by omega), sm9.1 4 (by omega), hpd]; exact (Int32.add_zero pd).symm) ?_ (by omega) (by omega) w (lv_sub hl [1, 5, 17, 18, 19, 0, 20, 21, 22, 23, 24] rfl)
          exact KA
        · refine lv_istore (lv' := [(21, .int r9), (20, .int (nI mo)), (19, .int (nI q)), (18, .int Q9), (17, .int (S.1 3)), (16, .int (S.1 6)), (15, .int (nI rr)), (14, .int (nI e)), (13, .int D9), (12, .int (nI a)), (11, .int (nI c)), (10, .int (nI kd)), (9, .int (nI ct)), (7, .long (sumF S c t q)), (6, .int (nI i)), (5, .int pd), (4, .int (nI k)), (3, .int (nI made)), (2, .ref z), (1, .ref ((ad 0) 0)), (0, .ref b)]) F.x F.b dL_law_215 hl (by decide) rfl (fun ls hl => ?_)
          refine lv_iload F.x F.b dL_law_217 (lv_at hl 11 rfl) ?_
          refine lv_bipush (v := 12) F.x F.b dL_law_219 (by decide) ?_
          refine lv_icmp_le (tgt := 242) F.x F.b dL_law_221 (by decide) (fun _ => ?_) (fun c9 => absurd (show nI kd ≤ 12 from (nI_leI (a := kd) (b := 12) (by omega) (by omega)).mpr (by omega)) c9)
          refine lv_iconst (v := 0) F.x F.b dL_law_242 (by decide) ?_
          refine lv_istore (lv' := [(22, .int 0), (21, .int r9), (20, .int (nI mo)), (19, .int (nI q)), (18, .int Q9), (17, .int (S.1 3)), (16, .int (S.1 6)), (15, .int (nI rr)), (14, .int (nI e)), (13, .int D9), (12, .int (nI a)), (11, .int (nI c)), (10, .int (nI kd)), (9, .int (nI ct)), (7, .long (sumF S c t q)), (6, .int (nI i)), (5, .int pd), (4, .int (nI k)), (3, .int (nI made)), (2, .ref z), (1, .ref ((ad 0) 0)), (0, .ref b)]) F.x F.b dL_law_243 hl (by decide) rfl (fun ls hl => ?_)
          refine lv_iload F.x F.b dL_law_245 (lv_at hl 12 rfl) ?_
          refine lv_bipush (v := 43) F.x F.b dL_law_247 (by decide) ?_
          refine lv_icmp_le (tgt := 256) F.x F.b dL_law_249 (by decide) (fun _ => ?_) (fun c9 => absurd (show nI kd ≤ 43 from (nI_leI (a := kd) (b := 43) (by omega) (by omega)).mpr (by omega)) c9)
          refine lv_iconst (v := 0) F.x F.b dL_law_256 (by decide) ?_
          refine lv_istore (lv' := [(23, .int 0), (22, .int 0), (21, .int r9), (20, .int (nI mo)), (19, .int (nI q)), (18, .int Q9), (17, .int (S.1 3)), (16, .int (S.1 6)), (15, .int (nI rr)), (14, .int (nI e)), (13, .int D9), (12, .int (nI a)), (11, .int (nI c)), (10, .int (nI kd)), (9, .int (nI ct)), (7, .long (sumF S c t q)), (6, .int (nI i)), (5, .int pd), (4, .int (nI k)), (3, .int (nI made)), (2, .ref z), (1, .ref ((ad 0) 0)), (0, .ref b)]) F.x F.b dL_law_257 hl (by decide) rfl (fun ls hl => ?_)
          refine lv_iload F.x F.b dL_law_259 (lv_at hl 13 rfl) ?_
          refine lv_bipush (v := 8) F.x F.b dL_law_261 (by decide) ?_
          refine lv_icmp_eq (tgt := 273) F.x F.b dL_law_263 (by decide) (fun c9 => absurd c9 (show ¬ nI kd = 8 from fun z => absurd ((nI_eq (a := kd) (b := 8) (by omega) (by omega)).mp z) (by omega))) (fun _ => ?_)
          refine lv_iload F.x F.b dL_law_266 (lv_at hl 13 rfl) ?_
          refine lv_bipush (v := 11) F.x F.b dL_law_268 (by decide) ?_
          refine lv_icmp_ne (tgt := 284) F.x F.b dL_law_270 (by decide) (fun _ => ?_) (fun c9 => absurd c9 (show ¬ nI kd = 11 from fun z => absurd ((nI_eq (a := kd) (b := 11) (by omega) (by omega)).mp z) (by omega)))
          refine lv_iconst (v := 0) F.x F.b dL_law_284 (by decide) ?_
          refine lv_istore (lv' := [(24, .int 0), (23, .int 0), (22, .int 0), (21, .int r9), (20, .int (nI mo)), (19, .int (nI q)), (18, .int Q9), (17, .int (S.1 3)), (16, .int (S.1 6)), (15, .int (nI rr)), (14, .int (nI e)), (13, .int D9), (12, .int (nI a)), (11, .int (nI c)), (10, .int (nI kd)), (9, .int (nI ct)), (7, .long (sumF S c t q)), (6, .int (nI i)), (5, .int pd), (4, .int (nI k)), (3, .int (nI made)), (2, .ref z), (1, .ref ((ad 0) 0)), (0, .ref b)]) F.x F.b dL_law_285 hl (by decide) rfl (fun ls hl => ?_)
          refine lv_iload F.x F.b dL_law_287 (lv_at hl 2 rfl) ?_
          refine lv_if_eq (tgt := 325) F.x F.b dL_law_289 (by decide) (fun _ => ?_) (fun c9 => absurd rfl c9)
          refine lv_iconst (v := 1) F.x F.b dL_law_325 (by decide) ?_
          refine lv_goto (tgt := 330) F.x F.b dL_law_326 (by decide) ?_
          refine lv_istore (lv' := [(25, .int 1), (24, .int 0), (23, .int 0), (22, .int 0), (21, .int r9), (20, .int (nI mo)), (19, .int (nI q)), (18, .int Q9), (17, .int (S.1 3)), (16, .int (S.1 6)), (15, .int (nI rr)), (14, .int (nI e)), (13, .int D9), (12, .int (nI a)), (11, .int (nI c)), (10, .int (nI kd)), (9, .int (nI ct)), (7, .long (sumF S c t q)), (6, .int (nI i)), (5, .int pd), (4, .int (nI k)), (3, .int (nI made)), (2, .ref z), (1, .ref ((ad 0) 0)), (0, .ref b)]) F.x F.b dL_law_330 hl (by decide) rfl (fun ls hl => ?_)
          refine lv_iload F.x F.b dL_law_332 (lv_at hl 0 rfl) ?_
          refine lv_iload F.x F.b dL_law_334 (lv_at hl 2 rfl) ?_
          refine lv_if_eq (tgt := 417) F.x F.b dL_law_336 (by decide) (fun _ => ?_) (fun c9 => absurd rfl c9)
          refine lv_iconst (v := 1) F.x F.b dL_law_417 (by decide) ?_
          refine lv_goto (tgt := 422) F.x F.b dL_law_418 (by decide) ?_
          refine lv_iand F.x F.b dL_law_422 ?_
          rw [show ((1 : Int32) &&& 1) = 1 from by decide]
          refine lv_istore (lv' := [(25, .int 1), (24, .int 0), (23, .int 0), (22, .int 0), (21, .int r9), (20, .int (nI mo)), (19, .int (nI q)), (18, .int Q9), (17, .int (S.1 3)), (16, .int (S.1 6)), (15, .int (nI rr)), (14, .int (nI e)), (13, .int D9), (12, .int (nI a)), (11, .int (nI c)), (10, .int (nI kd)), (9, .int (nI ct)), (7, .long (sumF S c t q)), (6, .int (nI i)), (5, .int pd), (4, .int (nI k)), (3, .int (nI made)), (2, .ref z), (1, .ref ((ad 0) 0)), (0, .ref b)]) F.x F.b dL_law_423 hl (by decide) rfl (fun ls hl => ?_)
          refine lv_iload F.x F.b dL_law_425 (lv_at hl 0 rfl) ?_
          refine lv_iload F.x F.b dL_law_427 (lv_at hl 1 rfl) ?_
          refine lv_if_eq (tgt := 459) F.x F.b dL_law_429 (by decide) (fun _ => ?_) (fun c9 => absurd rfl c9)
          refine lv_iconst (v := 1) F.x F.b dL_law_459 (by decide) ?_
          refine lv_goto (tgt := 464) F.x F.b dL_law_460 (by decide) ?_
          refine lv_iand F.x F.b dL_law_464 ?_
          rw [show ((1 : Int32) &&& 1) = 1 from by decide]
          refine lv_istore (lv' := [(25, .int 1), (24, .int 0), (23, .int 0), (22, .int 0), (21, .int r9), (20, .int (nI mo)), (19, .int (nI q)), (18, .int Q9), (17, .int (S.1 3)), (16, .int (S.1 6)), (15, .int (nI rr)), (14, .int (nI e)), (13, .int D9), (12, .int (nI a)), (11, .int (nI c)), (10, .int (nI kd)), (9, .int (nI ct)), (7, .long (sumF S c t q)), (6, .int (nI i)), (5, .int pd), (4, .int (nI k)), (3, .int (nI made)), (2, .ref z), (1, .ref ((ad 0) 0)), (0, .ref b)]) F.x F.b dL_law_465 hl (by decide) rfl (fun ls hl => ?_)
          refine lv_iload F.x F.b dL_law_467 (lv_at hl 19 rfl) ?_
          refine lv_iload F.x F.b dL_law_469 (lv_at hl 15 rfl) ?_
          refine lv_bipush (v := 8) F.x F.b dL_law_471 (by decide) ?_
          refine lv_icmp_le (tgt := 500) F.x F.b dL_law_473 (by decide) (fun c9 => absurd c9 (show ¬ nI kd ≤ 8 from fun z => absurd ((nI_leI (a := kd) (b := 8) (by omega) (by omega)).mp z) (by omega))) (fun _ => ?_)
          refine lv_iload F.x F.b dL_law_476 (lv_at hl 15 rfl) ?_
          refine lv_bipush (v := 11) F.x F.b dL_law_478 (by decide) ?_
          refine lv_icmp_ge (tgt := 500) F.x F.b dL_law_480 (by decide) (fun c9 => absurd c9 (show ¬ (11 : Int32) ≤ nI kd from fun z => absurd ((nI_leI (a := 11) (b := kd) (by omega) (by omega)).mp z) (by omega))) (fun _ => ?_)
          refine lv_iload F.x F.b dL_law_483 (lv_at hl 4 rfl) ?_
          refine lv_bipush (v := (-70)) F.x F.b dL_law_485 (by decide) ?_
          refine lv_icmp_le (tgt := 500) F.x F.b dL_law_487 (by decide) (fun _ => ?_) (fun c9 => absurd (rf_70 hr9) c9)
          refine lv_iconst (v := 0) F.x F.b dL_law_500 (by decide) ?_
          refine lv_iadd F.x F.b dL_law_501 ?_
          refine lv_istore (lv' := [(5, .int (pd + 0)), (25, .int 1), (24, .int 0), (23, .int 0), (22, .int 0), (21, .int r9), (20, .int (nI mo)), (19, .int (nI q)), (18, .int Q9), (17, .int (S.1 3)), (16, .int (S.1 6)), (15, .int (nI rr)), (14, .int (nI e)), (13, .int D9), (12, .int (nI a)), (11, .int (nI c)), (10, .int (nI kd)), (9, .int (nI ct)), (7, .long (sumF S c t q)), (6, .int (nI i)), (4, .int (nI k)), (3, .int (nI made)), (2, .ref z), (1, .ref ((ad 0) 0)), (0, .ref b)]) F.x F.b dL_law_502 hl (by decide) rfl (fun ls hl => ?_)
          refine K504 r9 (pd + 0) K9 S9 C9 _ _ _ cu ct c t q hs9 _ _ _ H locs ls (g9.mono (Nat.le_succ i)) hI.1 (by rw [sm9.1 3 (by omega), sm9.1 4 (by omega), hpd]; exact (Int32.add_zero pd).symm) ?_ (by omega) (by omega) w (lv_sub hl [1, 5, 17, 18, 19, 0, 20, 21, 22, 23, 24] rfl)
          exact KA
        · refine lv_istore (lv' := [(21, .int r9), (20, .int (nI mo)), (19, .int (nI q)), (18, .int Q9), (17, .int (S.1 3)), (16, .int (S.1 6)), (15, .int (nI rr)), (14, .int (nI e)), (13, .int D9), (12, .int (nI a)), (11, .int (nI c)), (10, .int (nI kd)), (9, .int (nI ct)), (7, .long (sumF S c t q)), (6, .int (nI i)), (5, .int pd), (4, .int (nI k)), (3, .int (nI made)), (2, .ref z), (1, .ref ((ad 0) 0)), (0, .ref b)]) F.x F.b dL_law_215 hl (by decide) rfl (fun ls hl => ?_)
          refine lv_iload F.x F.b dL_law_217 (lv_at hl 11 rfl) ?_
          refine lv_bipush (v := 12) F.x F.b dL_law_219 (by decide) ?_
          refine lv_icmp_le (tgt := 242) F.x F.b dL_law_221 (by decide) (fun _ => ?_) (fun c9 => absurd (show nI kd ≤ 12 from (nI_leI (a := kd) (b := 12) (by omega) (by omega)).mpr (by omega)) c9)
          refine lv_iconst (v := 0) F.x F.b dL_law_242 (by decide) ?_
          refine lv_istore (lv' := [(22, .int 0), (21, .int r9), (20, .int (nI mo)), (19, .int (nI q)), (18, .int Q9), (17, .int (S.1 3)), (16, .int (S.1 6)), (15, .int (nI rr)), (14, .int (nI e)), (13, .int D9), (12, .int (nI a)), (11, .int (nI c)), (10, .int (nI kd)), (9, .int (nI ct)), (7, .long (sumF S c t q)), (6, .int (nI i)), (5, .int pd), (4, .int (nI k)), (3, .int (nI made)), (2, .ref z), (1, .ref ((ad 0) 0)), (0, .ref b)]) F.x F.b dL_law_243 hl (by decide) rfl (fun ls hl => ?_)
          refine lv_iload F.x F.b dL_law_245 (lv_at hl 12 rfl) ?_
          refine lv_bipush (v := 43) F.x F.b dL_law_247 (by decide) ?_
          refine lv_icmp_le (tgt := 256) F.x F.b dL_law_249 (by decide) (fun _ => ?_) (fun c9 => absurd (show nI kd ≤ 43 from (nI_leI (a := kd) (b := 43) (by omega) (by omega)).mpr (by omega)) c9)
          refine lv_iconst (v := 0) F.x F.b dL_law_256 (by decide) ?_
          refine lv_istore (lv' := [(23, .int 0), (22, .int 0), (21, .int r9), (20, .int (nI mo)), (19, .int (nI q)), (18, .int Q9), (17, .int (S.1 3)), (16, .int (S.1 6)), (15, .int (nI rr)), (14, .int (nI e)), (13, .int D9), (12, .int (nI a)), (11, .int (nI c)), (10, .int (nI kd)), (9, .int (nI ct)), (7, .long (sumF S c t q)), (6, .int (nI i)), (5, .int pd), (4, .int (nI k)), (3, .int (nI made)), (2, .ref z), (1, .ref ((ad 0) 0)), (0, .ref b)]) F.x F.b dL_law_257 hl (by decide) rfl (fun ls hl => ?_)
          refine lv_iload F.x F.b dL_law_259 (lv_at hl 13 rfl) ?_
          refine lv_bipush (v := 8) F.x F.b dL_law_261 (by decide) ?_
          refine lv_icmp_eq (tgt := 273) F.x F.b dL_law_263 (by decide) (fun c9 => absurd c9 (show ¬ nI kd = 8 from fun z => absurd ((nI_eq (a := kd) (b := 8) (by omega) (by omega)).mp z) (by omega))) (fun _ => ?_)
          refine lv_iload F.x F.b dL_law_266 (lv_at hl 13 rfl) ?_
          refine lv_bipush (v := 11) F.x F.b dL_law_268 (by decide) ?_
          refine lv_icmp_ne (tgt := 284) F.x F.b dL_law_270 (by decide) (fun c9 => absurd (show nI kd = 11 from (nI_eq (a := kd) (b := 11) (by omega) (by omega)).mpr (by omega)) c9) (fun _ => ?_)
          refine lv_iload F.x F.b dL_law_273 (lv_at hl 2 rfl) ?_
          refine lv_bipush (v := (-70)) F.x F.b dL_law_275 (by decide) ?_
          refine lv_icmp_le (tgt := 284) F.x F.b dL_law_277 (by decide) (fun _ => ?_) (fun c9 => absurd (rf_70 hr9) c9)
          refine lv_iconst (v := 0) F.x F.b dL_law_284 (by decide) ?_
          refine lv_istore (lv' := [(24, .int 0), (23, .int 0), (22, .int 0), (21, .int r9), (20, .int (nI mo)), (19, .int (nI q)), (18, .int Q9), (17, .int (S.1 3)), (16, .int (S.1 6)), (15, .int (nI rr)), (14, .int (nI e)), (13, .int D9), (12, .int (nI a)), (11, .int (nI c)), (10, .int (nI kd)), (9, .int (nI ct)), (7, .long (sumF S c t q)), (6, .int (nI i)), (5, .int pd), (4, .int (nI k)), (3, .int (nI made)), (2, .ref z), (1, .ref ((ad 0) 0)), (0, .ref b)]) F.x F.b dL_law_285 hl (by decide) rfl (fun ls hl => ?_)
          refine lv_iload F.x F.b dL_law_287 (lv_at hl 2 rfl) ?_
          refine lv_if_eq (tgt := 325) F.x F.b dL_law_289 (by decide) (fun _ => ?_) (fun c9 => absurd rfl c9)
          refine lv_iconst (v := 1) F.x F.b dL_law_325 (by decide) ?_
          refine lv_goto (tgt := 330) F.x F.b dL_law_326 (by decide) ?_
          refine lv_istore (lv' := [(25, .int 1), (24, .int 0), (23, .int 0), (22, .int 0), (21, .int r9), (20, .int (nI mo)), (19, .int (nI q)), (18, .int Q9), (17, .int (S.1 3)), (16, .int (S.1 6)), (15, .int (nI rr)), (14, .int (nI e)), (13, .int D9), (12, .int (nI a)), (11, .int (nI c)), (10, .int (nI kd)), (9, .int (nI ct)), (7, .long (sumF S c t q)), (6, .int (nI i)), (5, .int pd), (4, .int (nI k)), (3, .int (nI made)), (2, .ref z), (1, .ref ((ad 0) 0)), (0, .ref b)]) F.x F.b dL_law_330 hl (by decide) rfl (fun ls hl => ?_)
          refine lv_iload F.x F.b dL_law_332 (lv_at hl 0 rfl) ?_
          refine lv_iload F.x F.b dL_law_334 (lv_at hl 2 rfl) ?_
          refine lv_if_eq (tgt := 417) F.x F.b dL_law_336 (by decide) (fun _ => ?_) (fun c9 => absurd rfl c9)
          refine lv_iconst (v := 1) F.x F.b dL_law_417 (by decide) ?_
          refine lv_goto (tgt := 422) F.x F.b dL_law_418 (by decide) ?_
          refine lv_iand F.x F.b dL_law_422 ?_
          rw [show ((1 : Int32) &&& 1) = 1 from by decide]
          refine lv_istore (lv' := [(25, .int 1), (24, .int 0), (23, .int 0), (22, .int 0), (21, .int r9), (20, .int (nI mo)), (19, .int (nI q)), (18, .int Q9), (17, .int (S.1 3)), (16, .int (S.1 6)), (15, .int (nI rr)), (14, .int (nI e)), (13, .int D9), (12, .int (nI a)), (11, .int (nI c)), (10, .int (nI kd)), (9, .int (nI ct)), (7, .long (sumF S c t q)), (6, .int (nI i)), (5, .int pd), (4, .int (nI k)), (3, .int (nI made)), (2, .ref z), (1, .ref ((ad 0) 0)), (0, .ref b)]) F.x F.b dL_law_423 hl (by decide) rfl (fun ls hl => ?_)
          refine lv_iload F.x F.b dL_law_425 (lv_at hl 0 rfl) ?_
          refine lv_iload F.x F.b dL_law_427 (lv_at hl 1 rfl) ?_
          refine lv_if_eq (tgt := 459) F.x F.b dL_law_429 (by decide) (fun _ => ?_) (fun c9 => absurd rfl c9)
          refine lv_iconst (v := 1) F.x F.b dL_law_459 (by decide) ?_
          refine lv_goto (tgt := 464) F.x F.b dL_law_460 (by decide) ?_
          refine lv_iand F.x F.b dL_law_464 ?_
          rw [show ((1 : Int32) &&& 1) = 1 from by decide]
          refine lv_istore (lv' := [(25, .int 1), (24, .int 0), (23, .int 0), (22, .int 0), (21, .int r9), (20, .int (nI mo)), (19, .int (nI q)), (18, .int Q9), (17, .int (S.1 3)), (16, .int (S.1 6)), (15, .int (nI rr)), (14, .int (nI e)), (13, .int D9), (12, .int (nI a)), (11, .int (nI c)), (10, .int (nI kd)), (9, .int (nI ct)), (7, .long (sumF S c t q)), (6, .int (nI i)), (5, .int pd), (4, .int (nI k)), (3, .int (nI made)), (2, .ref z), (1, .ref ((ad 0) 0)), (0, .ref b)]) F.x F.b dL_law_465 hl (by decide) rfl (fun ls hl => ?_)
          refine lv_iload F.x F.b dL_law_467 (lv_at hl 19 rfl) ?_
          refine lv_iload F.x F.b dL_law_469 (lv_at hl 15 rfl) ?_
          refine lv_bipush (v := 8) F.x F.b dL_law_471 (by decide) ?_
          refine lv_icmp_le (tgt := 500) F.x F.b dL_law_473 (by decide) (fun c9 => absurd c9 (show ¬ nI kd ≤ 8 from fun z => absurd ((nI_leI (a := kd) (b := 8) (by omega) (by omega)).mp z) (by omega))) (fun _ => ?_)
          refine lv_iload F.x F.b dL_law_476 (lv_at hl 15 rfl) ?_
          refine lv_bipush (v := 11) F.x F.b dL_law_478 (by decide) ?_
          refine lv_icmp_ge (tgt := 500) F.x F.b dL_law_480 (by decide) (fun _ => ?_) (fun c9 => absurd (show (11 : Int32) ≤ nI kd from (nI_leI (a := 11) (b := kd) (by omega) (by omega)).mpr (by omega)) c9)
          refine lv_iconst (v := 0) F.x F.b dL_law_500 (by decide) ?_
          refine lv_iadd F.x F.b dL_law_501 ?_
          refine lv_istore (lv' := [(5, .int (pd + 0)), (25, .int 1), (24, .int 0), (23, .int 0), (22, .int 0), (21, .int r9), (20, .int (nI mo)), (19, .int (nI q)), (18, .int Q9), (17, .int (S.1 3)), (16, .int (S.1 6)), (15, .int (nI rr)), (14, .int (nI e)), (13, .int D9), (12, .int (nI a)), (11, .int (nI c)), (10, .int (nI kd)), (9, .int (nI ct)), (7, .long (sumF S c t q)), (6, .int (nI i)), (4, .int (nI k)), (3, .int (nI made)), (2, .ref z), (1, .ref ((ad 0) 0)), (0, .ref b)]) F.x F.b dL_law_502 hl (by decide) rfl (fun ls hl => ?_)
          refine K504 r9 (pd + 0) K9 S9 C9 _ _ _ cu ct c t q hs9 _ _ _ H locs ls (g9.mono (Nat.le_succ i)) hI.1 (by rw [sm9.1 3 (by omega), sm9.1 4 (by omega), hpd]; exact (Int32.add_zero pd).symm) ?_ (by omega) (by omega) w (lv_sub hl [1, 5, 17, 18, 19, 0, 20, 21, 22, 23, 24] rfl)
          exact KA
        · refine lv_istore (lv' := [(21, .int r9), (20, .int (nI mo)), (19, .int (nI q)), (18, .int Q9), (17, .int (S.1 3)), (16, .int (S.1 6)), (15, .int (nI rr)), (14, .int (nI e)), (13, .int D9), (12, .int (nI a)), (11, .int (nI c)), (10, .int (nI kd)), (9, .int (nI ct)), (7, .long (sumF S c t q)), (6, .int (nI i)), (5, .int pd), (4, .int (nI k)), (3, .int (nI made)), (2, .ref z), (1, .ref ((ad 0) 0)), (0, .ref b)]) F.x F.b dL_law_215 hl (by decide) rfl (fun ls hl => ?_)
          refine lv_iload F.x F.b dL_law_217 (lv_at hl 11 rfl) ?_
          refine lv_bipush (v := 12) F.x F.b dL_law_219 (by decide) ?_
          refine lv_icmp_le (tgt := 242) F.x F.b dL_law_221 (by decide) (fun _ => ?_) (fun c9 => absurd (show nI kd ≤ 12 from (nI_leI (a := kd) (b := 12) (by omega) (by omega)).mpr (by omega)) c9)
          refine lv_iconst (v := 0) F.x F.b dL_law_242 (by decide) ?_
          refine lv_istore (lv' := [(22, .int 0), (21, .int r9), (20, .int (nI mo)), (19, .int (nI q)), (18, .int Q9), (17, .int (S.1 3)), (16, .int (S.1 6)), (15, .int (nI rr)), (14, .int (nI e)), (13, .int D9), (12, .int (nI a)), (11, .int (nI c)), (10, .int (nI kd)), (9, .int (nI ct)), (7, .long (sumF S c t q)), (6, .int (nI i)), (5, .int pd), (4, .int (nI k)), (3, .int (nI made)), (2, .ref z), (1, .ref ((ad 0) 0)), (0, .ref b)]) F.x F.b dL_law_243 hl (by decide) rfl (fun ls hl => ?_)
          refine lv_iload F.x F.b dL_law_245 (lv_at hl 12 rfl) ?_
          refine lv_bipush (v := 43) F.x F.b dL_law_247 (by decide) ?_
          refine lv_icmp_le (tgt := 256) F.x F.b dL_law_249 (by decide) (fun _ => ?_) (fun c9 => absurd (show nI kd ≤ 43 from (nI_leI (a := kd) (b := 43) (by omega) (by omega)).mpr (by omega)) c9)
          refine lv_iconst (v := 0) F.x F.b dL_law_256 (by decide) ?_
          refine lv_istore (lv' := [(23, .int 0), (22, .int 0), (21, .int r9), (20, .int (nI mo)), (19, .int (nI q)), (18, .int Q9), (17, .int (S.1 3)), (16, .int (S.1 6)), (15, .int (nI rr)), (14, .int (nI e)), (13, .int D9), (12, .int (nI a)), (11, .int (nI c)), (10, .int (nI kd)), (9, .int (nI ct)), (7, .long (sumF S c t q)), (6, .int (nI i)), (5, .int pd), (4, .int (nI k)), (3, .int (nI made)), (2, .ref z), (1, .ref ((ad 0) 0)), (0, .ref b)]) F.x F.b dL_law_257 hl (by decide) rfl (fun ls hl => ?_)
          refine lv_iload F.x F.b dL_law_259 (lv_at hl 13 rfl) ?_
          refine lv_bipush (v := 8) F.x F.b dL_law_261 (by decide) ?_
          refine lv_icmp_eq (tgt := 273) F.x F.b dL_law_263 (by decide) (fun c9 => absurd c9 (show ¬ nI kd = 8 from fun z => absurd ((nI_eq (a := kd) (b := 8) (by omega) (by omega)).mp z) (by omega))) (fun _ => ?_)
          refine lv_iload F.x F.b dL_law_266 (lv_at hl 13 rfl) ?_
          refine lv_bipush (v := 11) F.x F.b dL_law_268 (by decide) ?_
          refine lv_icmp_ne (tgt := 284) F.x F.b dL_law_270 (by decide) (fun _ => ?_) (fun c9 => absurd c9 (show ¬ nI kd = 11 from fun z => absurd ((nI_eq (a := kd) (b := 11) (by omega) (by omega)).mp z) (by omega)))
          refine lv_iconst (v := 0) F.x F.b dL_law_284 (by decide) ?_
          refine lv_istore (lv' := [(24, .int 0), (23, .int 0), (22, .int 0), (21, .int r9), (20, .int (nI mo)), (19, .int (nI q)), (18, .int Q9), (17, .int (S.1 3)), (16, .int (S.1 6)), (15, .int (nI rr)), (14, .int (nI e)), (13, .int D9), (12, .int (nI a)), (11, .int (nI c)), (10, .int (nI kd)), (9, .int (nI ct)), (7, .long (sumF S c t q)), (6, .int (nI i)), (5, .int pd), (4, .int (nI k)), (3, .int (nI made)), (2, .ref z), (1, .ref ((ad 0) 0)), (0, .ref b)]) F.x F.b dL_law_285 hl (by decide) rfl (fun ls hl => ?_)
          refine lv_iload F.x F.b dL_law_287 (lv_at hl 2 rfl) ?_
          refine lv_if_eq (tgt := 325) F.x F.b dL_law_289 (by decide) (fun _ => ?_) (fun c9 => absurd rfl c9)
          refine lv_iconst (v := 1) F.x F.b dL_law_325 (by decide) ?_
          refine lv_goto (tgt := 330) F.x F.b dL_law_326 (by decide) ?_
          refine lv_istore (lv' := [(25, .int 1), (24, .int 0), (23, .int 0), (22, .int 0), (21, .int r9), (20, .int (nI mo)), (19, .int (nI q)), (18, .int Q9), (17, .int (S.1 3)), (16, .int (S.1 6)), (15, .int (nI rr)), (14, .int (nI e)), (13, .int D9), (12, .int (nI a)), (11, .int (nI c)), (10, .int (nI kd)), (9, .int (nI ct)), (7, .long (sumF S c t q)), (6, .int (nI i)), (5, .int pd), (4, .int (nI k)), (3, .int (nI made)), (2, .ref z), (1, .ref ((ad 0) 0)), (0, .ref b)]) F.x F.b dL_law_330 hl (by decide) rfl (fun ls hl => ?_)
          refine lv_iload F.x F.b dL_law_332 (lv_at hl 0 rfl) ?_
          refine lv_iload F.x F.b dL_law_334 (lv_at hl 2 rfl) ?_
          refine lv_if_eq (tgt := 417) F.x F.b dL_law_336 (by decide) (fun _ => ?_) (fun c9 => absurd rfl c9)
          refine lv_iconst (v := 1) F.x F.b dL_law_417 (by decide) ?_
          refine lv_goto (tgt := 422) F.x F.b dL_law_418 (by decide) ?_
          refine lv_iand F.x F.b dL_law_422 ?_
          rw [show ((1 : Int32) &&& 1) = 1 from by decide]
          refine lv_istore (lv' := [(25, .int 1), (24, .int 0), (23, .int 0), (22, .int 0), (21, .int r9), (20, .int (nI mo)), (19, .int (nI q)), (18, .int Q9), (17, .int (S.1 3)), (16, .int (S.1 6)), (15, .int (nI rr)), (14, .int (nI e)), (13, .int D9), (12, .int (nI a)), (11, .int (nI c)), (10, .int (nI kd)), (9, .int (nI ct)), (7, .long (sumF S c t q)), (6, .int (nI i)), (5, .int pd), (4, .int (nI k)), (3, .int (nI made)), (2, .ref z), (1, .ref ((ad 0) 0)), (0, .ref b)]) F.x F.b dL_law_423 hl (by decide) rfl (fun ls hl => ?_)
          refine lv_iload F.x F.b dL_law_425 (lv_at hl 0 rfl) ?_
          refine lv_iload F.x F.b dL_law_427 (lv_at hl 1 rfl) ?_
          refine lv_if_eq (tgt := 459) F.x F.b dL_law_429 (by decide) (fun _ => ?_) (fun c9 => absurd rfl c9)
          refine lv_iconst (v := 1) F.x F.b dL_law_459 (by decide) ?_
          refine lv_goto (tgt := 464) F.x F.b dL_law_460 (by decide) ?_
          refine lv_iand F.x F.b dL_law_464 ?_
          rw [show ((1 : Int32) &&& 1) = 1 from by decide]
          refine lv_istore (lv' := [(25, .int 1), (24, .int 0), (23, .int 0), (22, .int 0), (21, .int r9), (20, .int (nI mo)), (19, .int (nI q)), (18, .int Q9), (17, .int (S.1 3)), (16, .int (S.1 6)), (15, .int (nI rr)), (14, .int (nI e)), (13, .int D9), (12, .int (nI a)), (11, .int (nI c)), (10, .int (nI kd)), (9, .int (nI ct)), (7, .long (sumF S c t q)), (6, .int (nI i)), (5, .int pd), (4, .int (nI k)), (3, .int (nI made)), (2, .ref z), (1, .ref ((ad 0) 0)), (0, .ref b)]) F.x F.b dL_law_465 hl (by decide) rfl (fun ls hl => ?_)
          refine lv_iload F.x F.b dL_law_467 (lv_at hl 19 rfl) ?_
          refine lv_iload F.x F.b dL_law_469 (lv_at hl 15 rfl) ?_
          refine lv_bipush (v := 8) F.x F.b dL_law_471 (by decide) ?_
          refine lv_icmp_le (tgt := 500) F.x F.b dL_law_473 (by decide) (fun c9 => absurd c9 (show ¬ nI kd ≤ 8 from fun z => absurd ((nI_leI (a := kd) (b := 8) (by omega) (by omega)).mp z) (by omega))) (fun _ => ?_)
          refine lv_iload F.x F.b dL_law_476 (lv_at hl 15 rfl) ?_
          refine lv_bipush (v := 11) F.x F.b dL_law_478 (by decide) ?_
          refine lv_icmp_ge (tgt := 500) F.x F.b dL_law_480 (by decide) (fun _ => ?_) (fun c9 => absurd (show (11 : Int32) ≤ nI kd from (nI_leI (a := 11) (b := kd) (by omega) (by omega)).mpr (by omega)) c9)
          refine lv_iconst (v := 0) F.x F.b dL_law_500 (by decide) ?_
          refine lv_iadd F.x F.b dL_law_501 ?_
          refine lv_istore (lv' := [(5, .int (pd + 0)), (25, .int 1), (24, .int 0), (23, .int 0), (22, .int 0), (21, .int r9), (20, .int (nI mo)), (19, .int (nI q)), (18, .int Q9), (17, .int (S.1 3)), (16, .int (S.1 6)), (15, .int (nI rr)), (14, .int (nI e)), (13, .int D9), (12, .int (nI a)), (11, .int (nI c)), (10, .int (nI kd)), (9, .int (nI ct)), (7, .long (sumF S c t q)), (6, .int (nI i)), (4, .int (nI k)), (3, .int (nI made)), (2, .ref z), (1, .ref ((ad 0) 0)), (0, .ref b)]) F.x F.b dL_law_502 hl (by decide) rfl (fun ls hl => ?_)
          refine K504 r9 (pd + 0) K9 S9 C9 _ _ _ cu ct c t q hs9 _ _ _ H locs ls (g9.mono (Nat.le_succ i)) hI.1 (by rw [sm9.1 3 (by omega), sm9.1 4 (by omega), hpd]; exact (Int32.add_zero pd).symm) ?_ (by omega) (by omega) w (lv_sub hl [1, 5, 17, 18, 19, 0, 20, 21, 22, 23, 24] rfl)
          exact KA
        · refine lv_istore (lv' := [(21, .int r9), (20, .int (nI mo)), (19, .int (nI q)), (18, .int Q9), (17, .int (S.1 3)), (16, .int (S.1 6)), (15, .int (nI rr)), (14, .int (nI e)), (13, .int D9), (12, .int (nI a)), (11, .int (nI c)), (10, .int (nI kd)), (9, .int (nI ct)), (7, .long (sumF S c t q)), (6, .int (nI i)), (5, .int pd), (4, .int (nI k)), (3, .int (nI made)), (2, .ref z), (1, .ref ((ad 0) 0)), (0, .ref b)]) F.x F.b dL_law_215 hl (by decide) rfl (fun ls hl => ?_)
          refine lv_iload F.x F.b dL_law_217 (lv_at hl 11 rfl) ?_
          refine lv_bipush (v := 12) F.x F.b dL_law_219 (by decide) ?_
          refine lv_icmp_le (tgt := 242) F.x F.b dL_law_221 (by decide) (fun c9 => absurd c9 (show ¬ nI kd ≤ 12 from fun z => absurd ((nI_leI (a := kd) (b := 12) (by omega) (by omega)).mp z) (by omega))) (fun _ => ?_)
          refine lv_iload F.x F.b dL_law_224 (lv_at hl 11 rfl) ?_
          refine lv_bipush (v := 16) F.x F.b dL_law_226 (by decide) ?_
          refine lv_icmp_ge (tgt := 242) F.x F.b dL_law_228 (by decide) (fun c9 => absurd c9 (show ¬ (16 : Int32) ≤ nI kd from fun z => absurd ((nI_leI (a := 16) (b := kd) (by omega) (by omega)).mp z) (by omega))) (fun _ => ?_)
          refine lv_iload F.x F.b dL_law_231 (lv_at hl 0 rfl) ?_
          refine lv_bipush (v := (-70)) F.x F.b dL_law_233 (by decide) ?_
          refine lv_icmp_le (tgt := 242) F.x F.b dL_law_235 (by decide) (fun _ => ?_) (fun c9 => absurd (rf_70 hr9) c9)
          refine lv_iconst (v := 0) F.x F.b dL_law_242 (by decide) ?_
          refine lv_istore (lv' := [(22, .int 0), (21, .int r9), (20, .int (nI mo)), (19, .int (nI q)), (18, .int Q9), (17, .int (S.1 3)), (16, .int (S.1 6)), (15, .int (nI rr)), (14, .int (nI e)), (13, .int D9), (12, .int (nI a)), (11, .int (nI c)), (10, .int (nI kd)), (9, .int (nI ct)), (7, .long (sumF S c t q)), (6, .int (nI i)), (5, .int pd), (4, .int (nI k)), (3, .int (nI made)), (2, .ref z), (1, .ref ((ad 0) 0)), (0, .ref b)]) F.x F.b dL_law_243 hl (by decide) rfl (fun ls hl => ?_)
          refine lv_iload F.x F.b dL_law_245 (lv_at hl 12 rfl) ?_
          refine lv_bipush (v := 43) F.x F.b dL_law_247 (by decide) ?_
          refine lv_icmp_le (tgt := 256) F.x F.b dL_law_249 (by decide) (fun _ => ?_) (fun c9 => absurd (show nI kd ≤ 43 from (nI_leI (a := kd) (b := 43) (by omega) (by omega)).mpr (by omega)) c9)
          refine lv_iconst (v := 0) F.x F.b dL_law_256 (by decide) ?_
          refine lv_istore (lv' := [(23, .int 0), (22, .int 0), (21, .int r9), (20, .int (nI mo)), (19, .int (nI q)), (18, .int Q9), (17, .int (S.1 3)), (16, .int (S.1 6)), (15, .int (nI rr)), (14, .int (nI e)), (13, .int D9), (12, .int (nI a)), (11, .int (nI c)), (10, .int (nI kd)), (9, .int (nI ct)), (7, .long (sumF S c t q)), (6, .int (nI i)), (5, .int pd), (4, .int (nI k)), (3, .int (nI made)), (2, .ref z), (1, .ref ((ad 0) 0)), (0, .ref b)]) F.x F.b dL_law_257 hl (by decide) rfl (fun ls hl => ?_)
          refine lv_iload F.x F.b dL_law_259 (lv_at hl 13 rfl) ?_
          refine lv_bipush (v := 8) F.x F.b dL_law_261 (by decide) ?_
          refine lv_icmp_eq (tgt := 273) F.x F.b dL_law_263 (by decide) (fun c9 => absurd c9 (show ¬ nI kd = 8 from fun z => absurd ((nI_eq (a := kd) (b := 8) (by omega) (by omega)).mp z) (by omega))) (fun _ => ?_)
          refine lv_iload F.x F.b dL_law_266 (lv_at hl 13 rfl) ?_
          refine lv_bipush (v := 11) F.x F.b dL_law_268 (by decide) ?_
          refine lv_icmp_ne (tgt := 284) F.x F.b dL_law_270 (by decide) (fun _ => ?_) (fun c9 => absurd c9 (show ¬ nI kd = 11 from fun z => absurd ((nI_eq (a := kd) (b := 11) (by omega) (by omega)).mp z) (by omega)))
          refine lv_iconst (v := 0) F.x F.b dL_law_284 (by decide) ?_
          refine lv_istore (lv' := [(24, .int 0), (23, .int 0), (22, .int 0), (21, .int r9), (20, .int (nI mo)), (19, .int (nI q)), (18, .int Q9), (17, .int (S.1 3)), (16, .int (S.1 6)), (15, .int (nI rr)), (14, .int (nI e)), (13, .int D9), (12, .int (nI a)), (11, .int (nI c)), (10, .int (nI kd)), (9, .int (nI ct)), (7, .long (sumF S c t q)), (6, .int (nI i)), (5, .int pd), (4, .int (nI k)), (3, .int (nI made)), (2, .ref z), (1, .ref ((ad 0) 0)), (0, .ref b)]) F.x F.b dL_law_285 hl (by decide) rfl (fun ls hl => ?_)
          refine lv_iload F.x F.b dL_law_287 (lv_at hl 2 rfl) ?_
          refine lv_if_eq (tgt := 325) F.x F.b dL_law_289 (by decide) (fun _ => ?_) (fun c9 => absurd rfl c9)
          refine lv_iconst (v := 1) F.x F.b dL_law_325 (by decide) ?_
          refine lv_goto (tgt := 330) F.x F.b dL_law_326 (by decide) ?_
          refine lv_istore (lv' := [(25, .int 1), (24, .int 0), (23, .int 0), (22, .int 0), (21, .int r9), (20, .int (nI mo)), (19, .int (nI q)), (18, .int Q9), (17, .int (S.1 3)), (16, .int (S.1 6)), (15, .int (nI rr)), (14, .int (nI e)), (13, .int D9), (12, .int (nI a)), (11, .int (nI c)), (10, .int (nI kd)), (9, .int (nI ct)), (7, .long (sumF S c t q)), (6, .int (nI i)), (5, .int pd), (4, .int (nI k)), (3, .int (nI made)), (2, .ref z), (1, .ref ((ad 0) 0)), (0, .ref b)]) F.x F.b dL_law_330 hl (by decide) rfl (fun ls hl => ?_)
          refine lv_iload F.x F.b dL_law_332 (lv_at hl 0 rfl) ?_
          refine lv_iload F.x F.b dL_law_334 (lv_at hl 2 rfl) ?_
          refine lv_if_eq (tgt := 417) F.x F.b dL_law_336 (by decide) (fun _ => ?_) (fun c9 => absurd rfl c9)
          refine lv_iconst (v := 1) F.x F.b dL_law_417 (by decide) ?_
          refine lv_goto (tgt := 422) F.x F.b dL_law_418 (by decide) ?_
          refine lv_iand F.x F.b dL_law_422 ?_
          rw [show ((1 : Int32) &&& 1) = 1 from by decide]
          refine lv_istore (lv' := [(25, .int 1), (24, .int 0), (23, .int 0), (22, .int 0), (21, .int r9), (20, .int (nI mo)), (19, .int (nI q)), (18, .int Q9), (17, .int (S.1 3)), (16, .int (S.1 6)), (15, .int (nI rr)), (14, .int (nI e)), (13, .int D9), (12, .int (nI a)), (11, .int (nI c)), (10, .int (nI kd)), (9, .int (nI ct)), (7, .long (sumF S c t q)), (6, .int (nI i)), (5, .int pd), (4, .int (nI k)), (3, .int (nI made)), (2, .ref z), (1, .ref ((ad 0) 0)), (0, .ref b)]) F.x F.b dL_law_423 hl (by decide) rfl (fun ls hl => ?_)
          refine lv_iload F.x F.b dL_law_425 (lv_at hl 0 rfl) ?_
          refine lv_iload F.x F.b dL_law_427 (lv_at hl 1 rfl) ?_
          refine lv_if_eq (tgt := 459) F.x F.b dL_law_429 (by decide) (fun _ => ?_) (fun c9 => absurd rfl c9)
          refine lv_iconst (v := 1) F.x F.b dL_law_459 (by decide) ?_
          refine lv_goto (tgt := 464) F.x F.b dL_law_460 (by decide) ?_
          refine lv_iand F.x F.b dL_law_464 ?_
          rw [show ((1 : Int32) &&& 1) = 1 from by decide]
          refine lv_istore (lv' := [(25, .int 1), (24, .int 0), (23, .int 0), (22, .int 0), (21, .int r9), (20, .int (nI mo)), (19, .int (nI q)), (18, .int Q9), (17, .int (S.1 3)), (16, .int (S.1 6)), (15, .int (nI rr)), (14, .int (nI e)), (13, .int D9), (12, .int (nI a)), (11, .int (nI c)), (10, .int (nI kd)), (9, .int (nI ct)), (7, .long (sumF S c t q)), (6, .int (nI i)), (5, .int pd), (4, .int (nI k)), (3, .int (nI made)), (2, .ref z), (1, .ref ((ad 0) 0)), (0, .ref b)]) F.x F.b dL_law_465 hl (by decide) rfl (fun ls hl => ?_)
          refine lv_iload F.x F.b dL_law_467 (lv_at hl 19 rfl) ?_
          refine lv_iload F.x F.b dL_law_469 (lv_at hl 15 rfl) ?_
          refine lv_bipush (v := 8) F.x F.b dL_law_471 (by decide) ?_
          refine lv_icmp_le (tgt := 500) F.x F.b dL_law_473 (by decide) (fun c9 => absurd c9 (show ¬ nI kd ≤ 8 from fun z => absurd ((nI_leI (a := kd) (b := 8) (by omega) (by omega)).mp z) (by omega))) (fun _ => ?_)
          refine lv_iload F.x F.b dL_law_476 (lv_at hl 15 rfl) ?_
          refine lv_bipush (v := 11) F.x F.b dL_law_478 (by decide) ?_
          refine lv_icmp_ge (tgt := 500) F.x F.b dL_law_480 (by decide) (fun _ => ?_) (fun c9 => absurd (show (11 : Int32) ≤ nI kd from (nI_leI (a := 11) (b := kd) (by omega) (by omega)).mpr (by omega)) c9)
          refine lv_iconst (v := 0) F.x F.b dL_law_500 (by decide) ?_
          refine lv_iadd F.x F.b dL_law_501 ?_
          refine lv_istore (lv' := [(5, .int (pd + 0)), (25, .int 1), (24, .int 0), (23, .int 0), (22, .int 0), (21, .int r9), (20, .int (nI mo)), (19, .int (nI q)), (18, .int Q9), (17, .int (S.1 3)), (16, .int (S.1 6)), (15, .int (nI rr)), (14, .int (nI e)), (13, .int D9), (12, .int (nI a)), (11, .int (nI c)), (10, .int (nI kd)), (9, .int (nI ct)), (7, .long (sumF S c t q)), (6, .int (nI i)), (4, .int (nI k)), (3, .int (nI made)), (2, .ref z), (1, .ref ((ad 0) 0)), (0, .ref b)]) F.x F.b dL_law_502 hl (by decide) rfl (fun ls hl => ?_)
          refine K504 r9 (pd + 0) K9 S9 C9 _ _ _ cu ct c t q hs9 _ _ _ H locs ls (g9.mono (Nat.le_succ i)) hI.1 (by rw [sm9.1 3 (by omega), sm9.1 4 (by omega), hpd]; exact (Int32.add_zero pd).symm) ?_ (by omega) (by omega) w (lv_sub hl [1, 5, 17, 18, 19, 0, 20, 21, 22, 23, 24] rfl)
          exact KA
        · refine lv_istore (lv' := [(21, .int r9), (20, .int (nI mo)), (19, .int (nI q)), (18, .int Q9), (17, .int (S.1 3)), (16, .int (S.1 6)), (15, .int (nI rr)), (14, .int (nI e)), (13, .int D9), (12, .int (nI a)), (11, .int (nI c)), (10, .int (nI kd)), (9, .int (nI ct)), (7, .long (sumF S c t q)), (6, .int (nI i)), (5, .int pd), (4, .int (nI k)), (3, .int (nI made)), (2, .ref z), (1, .ref ((ad 0) 0)), (0, .ref b)]) F.x F.b dL_law_215 hl (by decide) rfl (fun ls hl => ?_)
          refine lv_iload F.x F.b dL_law_217 (lv_at hl 11 rfl) ?_
          refine lv_bipush (v := 12) F.x F.b dL_law_219 (by decide) ?_
          refine lv_icmp_le (tgt := 242) F.x F.b dL_law_221 (by decide) (fun c9 => absurd c9 (show ¬ nI kd ≤ 12 from fun z => absurd ((nI_leI (a := kd) (b := 12) (by omega) (by omega)).mp z) (by omega))) (fun _ => ?_)
          refine lv_iload F.x F.b dL_law_224 (lv_at hl 11 rfl) ?_
          refine lv_bipush (v := 16) F.x F.b dL_law_226 (by decide) ?_
          refine lv_icmp_ge (tgt := 242) F.x F.b dL_law_228 (by decide) (fun _ => ?_) (fun c9 => absurd (show (16 : Int32) ≤ nI kd from (nI_leI (a := 16) (b := kd) (by omega) (by omega)).mpr (by omega)) c9)
          refine lv_iconst (v := 0) F.x F.b dL_law_242 (by decide) ?_
          refine lv_istore (lv' := [(22, .int 0), (21, .int r9), (20, .int (nI mo)), (19, .int (nI q)), (18, .int Q9), (17, .int (S.1 3)), (16, .int (S.1 6)), (15, .int (nI rr)), (14, .int (nI e)), (13, .int D9), (12, .int (nI a)), (11, .int (nI c)), (10, .int (nI kd)), (9, .int (nI ct)), (7, .long (sumF S c t q)), (6, .int (nI i)), (5, .int pd), (4, .int (nI k)), (3, .int (nI made)), (2, .ref z), (1, .ref ((ad 0) 0)), (0, .ref b)]) F.x F.b dL_law_243 hl (by decide) rfl (fun ls hl => ?_)
          refine lv_iload F.x F.b dL_law_245 (lv_at hl 12 rfl) ?_
          refine lv_bipush (v := 43) F.x F.b dL_law_247 (by decide) ?_
          refine lv_icmp_le (tgt := 256) F.x F.b dL_law_249 (by decide) (fun _ => ?_) (fun c9 => absurd (show nI kd ≤ 43 from (nI_leI (a := kd) (b := 43) (by omega) (by omega)).mpr (by omega)) c9)
          refine lv_iconst (v := 0) F.x F.b dL_law_256 (by decide) ?_
          refine lv_istore (lv' := [(23, .int 0), (22, .int 0), (21, .int r9), (20, .int (nI mo)), (19, .int (nI q)), (18, .int Q9), (17, .int (S.1 3)), (16, .int (S.1 6)), (15, .int (nI rr)), (14, .int (nI e)), (13, .int D9), (12, .int (nI a)), (11, .int (nI c)), (10, .int (nI kd)), (9, .int (nI ct)), (7, .long (sumF S c t q)), (6, .int (nI i)), (5, .int pd), (4, .int (nI k)), (3, .int (nI made)), (2, .ref z), (1, .ref ((ad 0) 0)), (0, .ref b)]) F.x F.b dL_law_257 hl (by decide) rfl (fun ls hl => ?_)
          refine lv_iload F.x F.b dL_law_259 (lv_at hl 13 rfl) ?_
          refine lv_bipush (v := 8) F.x F.b dL_law_261 (by decide) ?_
          refine lv_icmp_eq (tgt := 273) F.x F.b dL_law_263 (by decide) (fun c9 => absurd c9 (show ¬ nI kd = 8 from fun z => absurd ((nI_eq (a := kd) (b := 8) (by omega) (by omega)).mp z) (by omega))) (fun _ => ?_)
          refine lv_iload F.x F.b dL_law_266 (lv_at hl 13 rfl) ?_
          refine lv_bipush (v := 11) F.x F.b dL_law_268 (by decide) ?_
          refine lv_icmp_ne (tgt := 284) F.x F.b dL_law_270 (by decide) (fun _ => ?_) (fun c9 => absurd c9 (show ¬ nI kd = 11 from fun z => absurd ((nI_eq (a := kd) (b := 11) (by omega) (by omega)).mp z) (by omega)))
          refine lv_iconst (v := 0) F.x F.b dL_law_284 (by decide) ?_
          refine lv_istore (lv' := [(24, .int 0), (23, .int 0), (22, .int 0), (21, .int r9), (20, .int (nI mo)), (19, .int (nI q)), (18, .int Q9), (17, .int (S.1 3)), (16, .int (S.1 6)), (15, .int (nI rr)), (14, .int (nI e)), (13, .int D9), (12, .int (nI a)), (11, .int (nI c)), (10, .int (nI kd)), (9, .int (nI ct)), (7, .long (sumF S c t q)), (6, .int (nI i)), (5, .int pd), (4, .int (nI k)), (3, .int (nI made)), (2, .ref z), (1, .ref ((ad 0) 0)), (0, .ref b)]) F.x F.b dL_law_285 hl (by decide) rfl (fun ls hl => ?_)
          refine lv_iload F.x F.b dL_law_287 (lv_at hl 2 rfl) ?_
          refine lv_if_eq (tgt := 325) F.x F.b dL_law_289 (by decide) (fun _ => ?_) (fun c9 => absurd rfl c9)
          refine lv_iconst (v := 1) F.x F.b dL_law_325 (by decide) ?_
          refine lv_goto (tgt := 330) F.x F.b dL_law_326 (by decide) ?_
          refine lv_istore (lv' := [(25, .int 1), (24, .int 0), (23, .int 0), (22, .int 0), (21, .int r9), (20, .int (nI mo)), (19, .int (nI q)), (18, .int Q9), (17, .int (S.1 3)), (16, .int (S.1 6)), (15, .int (nI rr)), (14, .int (nI e)), (13, .int D9), (12, .int (nI a)), (11, .int (nI c)), (10, .int (nI kd)), (9, .int (nI ct)), (7, .long (sumF S c t q)), (6, .int (nI i)), (5, .int pd), (4, .int (nI k)), (3, .int (nI made)), (2, .ref z), (1, .ref ((ad 0) 0)), (0, .ref b)]) F.x F.b dL_law_330 hl (by decide) rfl (fun ls hl => ?_)
          refine lv_iload F.x F.b dL_law_332 (lv_at hl 0 rfl) ?_
          refine lv_iload F.x F.b dL_law_334 (lv_at hl 2 rfl) ?_
          refine lv_if_eq (tgt := 417) F.x F.b dL_law_336 (by decide) (fun _ => ?_) (fun c9 => absurd rfl c9)
          refine lv_iconst (v := 1) F.x F.b dL_law_417 (by decide) ?_
          refine lv_goto (tgt := 422) F.x F.b dL_law_418 (by decide) ?_
          refine lv_iand F.x F.b dL_law_422 ?_
          rw [show ((1 : Int32) &&& 1) = 1 from by decide]
          refine lv_istore (lv' := [(25, .int 1), (24, .int 0), (23, .int 0), (22, .int 0), (21, .int r9), (20, .int (nI mo)), (19, .int (nI q)), (18, .int Q9), (17, .int (S.1 3)), (16, .int (S.1 6)), (15, .int (nI rr)), (14, .int (nI e)), (13, .int D9), (12, .int (nI a)), (11, .int (nI c)), (10, .int (nI kd)), (9, .int (nI ct)), (7, .long (sumF S c t q)), (6, .int (nI i)), (5, .int pd), (4, .int (nI k)), (3, .int (nI made)), (2, .ref z), (1, .ref ((ad 0) 0)), (0, .ref b)]) F.x F.b dL_law_423 hl (by decide) rfl (fun ls hl => ?_)
          refine lv_iload F.x F.b dL_law_425 (lv_at hl 0 rfl) ?_
          refine lv_iload F.x F.b dL_law_427 (lv_at hl 1 rfl) ?_
          refine lv_if_eq (tgt := 459) F.x F.b dL_law_429 (by decide) (fun _ => ?_) (fun c9 => absurd rfl c9)
          refine lv_iconst (v := 1) F.x F.b dL_law_459 (by decide) ?_
          refine lv_goto (tgt := 464) F.x F.b dL_law_460 (by decide) ?_
          refine lv_iand F.x F.b dL_law_464 ?_
          rw [show ((1 : Int32) &&& 1) = 1 from by decide]
          refine lv_istore (lv' := [(25, .int 1), (24, .int 0), (23, .int 0), (22, .int 0), (21, .int r9), (20, .int (nI mo)), (19, .int (nI q)), (18, .int Q9), (17, .int (S.1 3)), (16, .int (S.1 6)), (15, .int (nI rr)), (14, .int (nI e)), (13, .int D9), (12, .int (nI a)), (11, .int (nI c)), (10, .int (nI kd)), (9, .int (nI ct)), (7, .long (sumF S c t q)), (6, .int (nI i)), (5, .int pd), (4, .int (nI k)), (3, .int (nI made)), (2, .ref z), (1, .ref ((ad 0) 0)), (0, .ref b)]) F.x F.b dL_law_465 hl (by decide) rfl (fun ls hl => ?_)
          refine lv_iload F.x F.b dL_law_467 (lv_at hl 19 rfl) ?_
          refine lv_iload F.x F.b dL_law_469 (lv_at hl 15 rfl) ?_
          refine lv_bipush (v := 8) F.x F.b dL_law_471 (by decide) ?_
          refine lv_icmp_le (tgt := 500) F.x F.b dL_law_473 (by decide) (fun c9 => absurd c9 (show ¬ nI kd ≤ 8 from fun z => absurd ((nI_leI (a := kd) (b := 8) (by omega) (by omega)).mp z) (by omega))) (fun _ => ?_)
          refine lv_iload F.x F.b dL_law_476 (lv_at hl 15 rfl) ?_
          refine lv_bipush (v := 11) F.x F.b dL_law_478 (by decide) ?_
          refine lv_icmp_ge (tgt := 500) F.x F.b dL_law_480 (by decide) (fun _ => ?_) (fun c9 => absurd (show (11 : Int32) ≤ nI kd from (nI_leI (a := 11) (b := kd) (by omega) (by omega)).mpr (by omega)) c9)
          refine lv_iconst (v := 0) F.x F.b dL_law_500 (by decide) ?_
          refine lv_iadd F.x F.b dL_law_501 ?_
          refine lv_istore (lv' := [(5, .int (pd + 0)), (25, .int 1), (24, .int 0), (23, .int 0), (22, .int 0), (21, .int r9), (20, .int (nI mo)), (19, .int (nI q)), (18, .int Q9), (17, .int (S.1 3)), (16, .int (S.1 6)), (15, .int (nI rr)), (14, .int (nI e)), (13, .int D9), (12, .int (nI a)), (11, .int (nI c)), (10, .int (nI kd)), (9, .int (nI ct)), (7, .long (sumF S c t q)), (6, .int (nI i)), (4, .int (nI k)), (3, .int (nI made)), (2, .ref z), (1, .ref ((ad 0) 0)), (0, .ref b)]) F.x F.b dL_law_502 hl (by decide) rfl (fun ls hl => ?_)
          refine K504 r9 (pd + 0) K9 S9 C9 _ _ _ cu ct c t q hs9 _ _ _ H locs ls (g9.mono (Nat.le_succ i)) hI.1 (by rw [sm9.1 3 (by omega), sm9.1 4 (by omega), hpd]; exact (Int32.add_zero pd).symm) ?_ (by omega) (by omega) w (lv_sub hl [1, 5, 17, 18, 19, 0, 20, 21, 22, 23, 24] rfl)
          exact KA
        · rcases hno (by omega) with ⟨rfl, hnone⟩ | ⟨rfl, pp, hp, hid, hlt⟩
          · rcases hD9 with ⟨p', hp', hid', rfl⟩ | ⟨-, rfl⟩
            · exact absurd hid' (hnone p' hp')
            · refine lv_istore (lv' := [(21, .int (-75)), (20, .int (nI mo)), (19, .int (nI q)), (18, .int Q9), (17, .int (S.1 3)), (16, .int (S.1 6)), (15, .int (nI rr)), (14, .int (nI e)), (13, .int (-75)), (12, .int (nI a)), (11, .int (nI c)), (10, .int (nI kd)), (9, .int (nI ct)), (7, .long (sumF S c t q)), (6, .int (nI i)), (5, .int pd), (4, .int (nI k)), (3, .int (nI made)), (2, .ref z), (1, .ref ((ad 0) 0)), (0, .ref b)]) F.x F.b dL_law_215 hl (by decide) rfl (fun ls hl => ?_)
              refine lv_iload F.x F.b dL_law_217 (lv_at hl 11 rfl) ?_
              refine lv_bipush (v := 12) F.x F.b dL_law_219 (by decide) ?_
              refine lv_icmp_le (tgt := 242) F.x F.b dL_law_221 (by decide) (fun c9 => absurd c9 (show ¬ nI kd ≤ 12 from fun z => absurd ((nI_leI (a := kd) (b := 12) (by omega) (by omega)).mp z) (by omega))) (fun _ => ?_)
              refine lv_iload F.x F.b dL_law_224 (lv_at hl 11 rfl) ?_
              refine lv_bipush (v := 16) F.x F.b dL_law_226 (by decide) ?_
              refine lv_icmp_ge (tgt := 242) F.x F.b dL_law_228 (by decide) (fun _ => ?_) (fun c9 => absurd (show (16 : Int32) ≤ nI kd from (nI_leI (a := 16) (b := kd) (by omega) (by omega)).mpr (by omega)) c9)
              refine lv_iconst (v := 0) F.x F.b dL_law_242 (by decide) ?_
              refine lv_istore (lv' := [(22, .int 0), (21, .int (-75)), (20, .int (nI mo)), (19, .int (nI q)), (18, .int Q9), (17, .int (S.1 3)), (16, .int (S.1 6)), (15, .int (nI rr)), (14, .int (nI e)), (13, .int (-75)), (12, .int (nI a)), (11, .int (nI c)), (10, .int (nI kd)), (9, .int (nI ct)), (7, .long (sumF S c t q)), (6, .int (nI i)), (5, .int pd), (4, .int (nI k)), (3, .int (nI made)), (2, .ref z), (1, .ref ((ad 0) 0)), (0, .ref b)]) F.x F.b dL_law_243 hl (by decide) rfl (fun ls hl => ?_)
              refine lv_iload F.x F.b dL_law_245 (lv_at hl 12 rfl) ?_
              refine lv_bipush (v := 43) F.x F.b dL_law_247 (by decide) ?_
              refine lv_icmp_le (tgt := 256) F.x F.b dL_law_249 (by decide) (fun c9 => absurd c9 (show ¬ nI kd ≤ 43 from fun z => absurd ((nI_leI (a := kd) (b := 43) (by omega) (by omega)).mp z) (by omega))) (fun _ => ?_)
              refine lv_iconst (v := 1) F.x F.b dL_law_252 (by decide) ?_
              refine lv_goto (tgt := 257) F.x F.b dL_law_253 (by decide) ?_
              refine lv_istore (lv' := [(23, .int 1), (22, .int 0), (21, .int (-75)), (20, .int (nI mo)), (19, .int (nI q)), (18, .int Q9), (17, .int (S.1 3)), (16, .int (S.1 6)), (15, .int (nI rr)), (14, .int (nI e)), (13, .int (-75)), (12, .int (nI a)), (11, .int (nI c)), (10, .int (nI kd)), (9, .int (nI ct)), (7, .long (sumF S c t q)), (6, .int (nI i)), (5, .int pd), (4, .int (nI k)), (3, .int (nI made)), (2, .ref z), (1, .ref ((ad 0) 0)), (0, .ref b)]) F.x F.b dL_law_257 hl (by decide) rfl (fun ls hl => ?_)
              refine lv_iload F.x F.b dL_law_259 (lv_at hl 13 rfl) ?_
              refine lv_bipush (v := 8) F.x F.b dL_law_261 (by decide) ?_
              refine lv_icmp_eq (tgt := 273) F.x F.b dL_law_263 (by decide) (fun c9 => absurd c9 (show ¬ nI kd = 8 from fun z => absurd ((nI_eq (a := kd) (b := 8) (by omega) (by omega)).mp z) (by omega))) (fun _ => ?_)
              refine lv_iload F.x F.b dL_law_266 (lv_at hl 13 rfl) ?_
              refine lv_bipush (v := 11) F.x F.b dL_law_268 (by decide) ?_
              refine lv_icmp_ne (tgt := 284) F.x F.b dL_law_270 (by decide) (fun _ => ?_) (fun c9 => absurd c9 (show ¬ nI kd = 11 from fun z => absurd ((nI_eq (a := kd) (b := 11) (by omega) (by omega)).mp z) (by omega)))
              refine lv_iconst (v := 0) F.x F.b dL_law_284 (by decide) ?_
              refine lv_istore (lv' := [(24, .int 0), (23, .int 1), (22, .int 0), (21, .int (-75)), (20, .int (nI mo)), (19, .int (nI q)), (18, .int Q9), (17, .int (S.1 3)), (16, .int (S.1 6)), (15, .int (nI rr)), (14, .int (nI e)), (13, .int (-75)), (12, .int (nI a)), (11, .int (nI c)), (10, .int (nI kd)), (9, .int (nI ct)), (7, .long (sumF S c t q)), (6, .int (nI i)), (5, .int pd), (4, .int (nI k)), (3, .int (nI made)), (2, .ref z), (1, .ref ((ad 0) 0)), (0, .ref b)]) F.x F.b dL_law_285 hl (by decide) rfl (fun ls hl => ?_)
              refine lv_iload F.x F.b dL_law_287 (lv_at hl 2 rfl) ?_
              refine lv_if_eq (tgt := 325) F.x F.b dL_law_289 (by decide) (fun _ => ?_) (fun c9 => absurd rfl c9)
              refine lv_iconst (v := 1) F.x F.b dL_law_325 (by decide) ?_
              refine lv_goto (tgt := 330) F.x F.b dL_law_326 (by decide) ?_
              refine lv_istore (lv' := [(25, .int 1), (24, .int 0), (23, .int 1), (22, .int 0), (21, .int (-75)), (20, .int (nI mo)), (19, .int (nI q)), (18, .int Q9), (17, .int (S.1 3)), (16, .int (S.1 6)), (15, .int (nI rr)), (14, .int (nI e)), (13, .int (-75)), (12, .int (nI a)), (11, .int (nI c)), (10, .int (nI kd)), (9, .int (nI ct)), (7, .long (sumF S c t q)), (6, .int (nI i)), (5, .int pd), (4, .int (nI k)), (3, .int (nI made)), (2, .ref z), (1, .ref ((ad 0) 0)), (0, .ref b)]) F.x F.b dL_law_330 hl (by decide) rfl (fun ls hl => ?_)
              refine lv_iload F.x F.b dL_law_332 (lv_at hl 0 rfl) ?_
              refine lv_iload F.x F.b dL_law_334 (lv_at hl 2 rfl) ?_
              refine lv_if_eq (tgt := 417) F.x F.b dL_law_336 (by decide) (fun c9 => absurd c9 (by decide)) (fun _ => ?_)
              refine lv_iload F.x F.b dL_law_339 (lv_at hl 12 rfl) ?_
              refine lv_if_ge (tgt := 354) F.x F.b dL_law_341 (by decide) (fun c9 => absurd c9 (by decide)) (fun _ => ?_)
              refine lv_iload F.x F.b dL_law_344 (lv_at hl 4 rfl) ?_
              refine lv_bipush (v := (-75)) F.x F.b dL_law_346 (by decide) ?_
              refine lv_icmp_ne (tgt := 421) F.x F.b dL_law_348 (by decide) (fun c9 => absurd rfl c9) (fun _ => ?_)
              refine lv_goto (tgt := 417) F.x F.b dL_law_351 (by decide) ?_
              refine lv_iconst (v := 1) F.x F.b dL_law_417 (by decide) ?_
              refine lv_goto (tgt := 422) F.x F.b dL_law_418 (by decide) ?_
              refine lv_iand F.x F.b dL_law_422 ?_
              rw [show ((1 : Int32) &&& 1) = 1 from by decide]
              refine lv_istore (lv' := [(25, .int 1), (24, .int 0), (23, .int 1), (22, .int 0), (21, .int (-75)), (20, .int (nI mo)), (19, .int (nI q)), (18, .int Q9), (17, .int (S.1 3)), (16, .int (S.1 6)), (15, .int (nI rr)), (14, .int (nI e)), (13, .int (-75)), (12, .int (nI a)), (11, .int (nI c)), (10, .int (nI kd)), (9, .int (nI ct)), (7, .long (sumF S c t q)), (6, .int (nI i)), (5, .int pd), (4, .int (nI k)), (3, .int (nI made)), (2, .ref z), (1, .ref ((ad 0) 0)), (0, .ref b)]) F.x F.b dL_law_423 hl (by decide) rfl (fun ls hl => ?_)
              refine lv_iload F.x F.b dL_law_425 (lv_at hl 0 rfl) ?_
              refine lv_iload F.x F.b dL_law_427 (lv_at hl 1 rfl) ?_
              refine lv_if_eq (tgt := 459) F.x F.b dL_law_429 (by decide) (fun _ => ?_) (fun c9 => absurd rfl c9)
              refine lv_iconst (v := 1) F.x F.b dL_law_459 (by decide) ?_
              refine lv_goto (tgt := 464) F.x F.b dL_law_460 (by decide) ?_
              refine lv_iand F.x F.b dL_law_464 ?_
              rw [show ((1 : Int32) &&& 1) = 1 from by decide]
              refine lv_istore (lv' := [(25, .int 1), (24, .int 0), (23, .int 1), (22, .int 0), (21, .int (-75)), (20, .int (nI mo)), (19, .int (nI q)), (18, .int Q9), (17, .int (S.1 3)), (16, .int (S.1 6)), (15, .int (nI rr)), (14, .int (nI e)), (13, .int (-75)), (12, .int (nI a)), (11, .int (nI c)), (10, .int (nI kd)), (9, .int (nI ct)), (7, .long (sumF S c t q)), (6, .int (nI i)), (5, .int pd), (4, .int (nI k)), (3, .int (nI made)), (2, .ref z), (1, .ref ((ad 0) 0)), (0, .ref b)]) F.x F.b dL_law_465 hl (by decide) rfl (fun ls hl => ?_)
              refine lv_iload F.x F.b dL_law_467 (lv_at hl 19 rfl) ?_
              refine lv_iload F.x F.b dL_law_469 (lv_at hl 15 rfl) ?_
              refine lv_bipush (v := 8) F.x F.b dL_law_471 (by decide) ?_
              refine lv_icmp_le (tgt := 500) F.x F.b dL_law_473 (by decide) (fun c9 => absurd c9 (show ¬ nI kd ≤ 8 from fun z => absurd ((nI_leI (a := kd) (b := 8) (by omega) (by omega)).mp z) (by omega))) (fun _ => ?_)
              refine lv_iload F.x F.b dL_law_476 (lv_at hl 15 rfl) ?_
              refine lv_bipush (v := 11) F.x F.b dL_law_478 (by decide) ?_
              refine lv_icmp_ge (tgt := 500) F.x F.b dL_law_480 (by decide) (fun _ => ?_) (fun c9 => absurd (show (11 : Int32) ≤ nI kd from (nI_leI (a := 11) (b := kd) (by omega) (by omega)).mpr (by omega)) c9)
              refine lv_iconst (v := 0) F.x F.b dL_law_500 (by decide) ?_
              refine lv_iadd F.x F.b dL_law_501 ?_
              refine lv_istore (lv' := [(5, .int (pd + 0)), (25, .int 1), (24, .int 0), (23, .int 1), (22, .int 0), (21, .int (-75)), (20, .int (nI mo)), (19, .int (nI q)), (18, .int Q9), (17, .int (S.1 3)), (16, .int (S.1 6)), (15, .int (nI rr)), (14, .int (nI e)), (13, .int (-75)), (12, .int (nI a)), (11, .int (nI c)), (10, .int (nI kd)), (9, .int (nI ct)), (7, .long (sumF S c t q)), (6, .int (nI i)), (4, .int (nI k)), (3, .int (nI made)), (2, .ref z), (1, .ref ((ad 0) 0)), (0, .ref b)]) F.x F.b dL_law_502 hl (by decide) rfl (fun ls hl => ?_)
              refine K504 (-75) (pd + 0) K9 S9 C9 _ _ _ cu ct c t q hs9 _ _ _ H locs ls (g9.mono (Nat.le_succ i)) hI.1 (by rw [sm9.1 3 (by omega), sm9.1 4 (by omega), hpd]; exact (Int32.add_zero pd).symm) ?_ (by omega) (by omega) w (lv_sub hl [1, 5, 17, 18, 19, 0, 20, 21, 22, 23, 24] rfl)
              exact KA
          · rcases hD9 with ⟨p', hp', hid', rfl⟩ | ⟨hnone, -⟩
            · obtain rfl : pp = p' := h.idInj hp hp' (hid.trans hid'.symm)
              have howe := h.oweLe hp
              obtain ⟨co, -, hco, eco⟩ := h.bd
              have ev : nv (S.1 3) = co := by rw [eco]; exact nI_clamp (by omega)
              rw [ev] at hlt
              refine lv_istore (lv' := [(21, .int (-76)), (20, .int (nI mo)), (19, .int (nI q)), (18, .int Q9), (17, .int (S.1 3)), (16, .int (S.1 6)), (15, .int (nI rr)), (14, .int (nI e)), (13, .int (nI (owe S t pp))), (12, .int (nI a)), (11, .int (nI c)), (10, .int (nI kd)), (9, .int (nI ct)), (7, .long (sumF S c t q)), (6, .int (nI i)), (5, .int pd), (4, .int (nI k)), (3, .int (nI made)), (2, .ref z), (1, .ref ((ad 0) 0)), (0, .ref b)]) F.x F.b dL_law_215 hl (by decide) rfl (fun ls hl => ?_)
              refine lv_iload F.x F.b dL_law_217 (lv_at hl 11 rfl) ?_
              refine lv_bipush (v := 12) F.x F.b dL_law_219 (by decide) ?_
              refine lv_icmp_le (tgt := 242) F.x F.b dL_law_221 (by decide) (fun c9 => absurd c9 (show ¬ nI kd ≤ 12 from fun z => absurd ((nI_leI (a := kd) (b := 12) (by omega) (by omega)).mp z) (by omega))) (fun _ => ?_)
              refine lv_iload F.x F.b dL_law_224 (lv_at hl 11 rfl) ?_
              refine lv_bipush (v := 16) F.x F.b dL_law_226 (by decide) ?_
              refine lv_icmp_ge (tgt := 242) F.x F.b dL_law_228 (by decide) (fun _ => ?_) (fun c9 => absurd (show (16 : Int32) ≤ nI kd from (nI_leI (a := 16) (b := kd) (by omega) (by omega)).mpr (by omega)) c9)
              refine lv_iconst (v := 0) F.x F.b dL_law_242 (by decide) ?_
              refine lv_istore (lv' := [(22, .int 0), (21, .int (-76)), (20, .int (nI mo)), (19, .int (nI q)), (18, .int Q9), (17, .int (S.1 3)), (16, .int (S.1 6)), (15, .int (nI rr)), (14, .int (nI e)), (13, .int (nI (owe S t pp))), (12, .int (nI a)), (11, .int (nI c)), (10, .int (nI kd)), (9, .int (nI ct)), (7, .long (sumF S c t q)), (6, .int (nI i)), (5, .int pd), (4, .int (nI k)), (3, .int (nI made)), (2, .ref z), (1, .ref ((ad 0) 0)), (0, .ref b)]) F.x F.b dL_law_243 hl (by decide) rfl (fun ls hl => ?_)
              refine lv_iload F.x F.b dL_law_245 (lv_at hl 12 rfl) ?_
              refine lv_bipush (v := 43) F.x F.b dL_law_247 (by decide) ?_
              refine lv_icmp_le (tgt := 256) F.x F.b dL_law_249 (by decide) (fun c9 => absurd c9 (show ¬ nI kd ≤ 43 from fun z => absurd ((nI_leI (a := kd) (b := 43) (by omega) (by omega)).mp z) (by omega))) (fun _ => ?_)
              refine lv_iconst (v := 1) F.x F.b dL_law_252 (by decide) ?_
              refine lv_goto (tgt := 257) F.x F.b dL_law_253 (by decide) ?_
              refine lv_istore (lv' := [(23, .int 1), (22, .int 0), (21, .int (-76)), (20, .int (nI mo)), (19, .int (nI q)), (18, .int Q9), (17, .int (S.1 3)), (16, .int (S.1 6)), (15, .int (nI rr)), (14, .int (nI e)), (13, .int (nI (owe S t pp))), (12, .int (nI a)), (11, .int (nI c)), (10, .int (nI kd)), (9, .int (nI ct)), (7, .long (sumF S c t q)), (6, .int (nI i)), (5, .int pd), (4, .int (nI k)), (3, .int (nI made)), (2, .ref z), (1, .ref ((ad 0) 0)), (0, .ref b)]) F.x F.b dL_law_257 hl (by decide) rfl (fun ls hl => ?_)
              refine lv_iload F.x F.b dL_law_259 (lv_at hl 13 rfl) ?_
              refine lv_bipush (v := 8) F.x F.b dL_law_261 (by decide) ?_
              refine lv_icmp_eq (tgt := 273) F.x F.b dL_law_263 (by decide) (fun c9 => absurd c9 (show ¬ nI kd = 8 from fun z => absurd ((nI_eq (a := kd) (b := 8) (by omega) (by omega)).mp z) (by omega))) (fun _ => ?_)
              refine lv_iload F.x F.b dL_law_266 (lv_at hl 13 rfl) ?_
              refine lv_bipush (v := 11) F.x F.b dL_law_268 (by decide) ?_
              refine lv_icmp_ne (tgt := 284) F.x F.b dL_law_270 (by decide) (fun _ => ?_) (fun c9 => absurd c9 (show ¬ nI kd = 11 from fun z => absurd ((nI_eq (a := kd) (b := 11) (by omega) (by omega)).mp z) (by omega)))
              refine lv_iconst (v := 0) F.x F.b dL_law_284 (by decide) ?_
              refine lv_istore (lv' := [(24, .int 0), (23, .int 1), (22, .int 0), (21, .int (-76)), (20, .int (nI mo)), (19, .int (nI q)), (18, .int Q9), (17, .int (S.1 3)), (16, .int (S.1 6)), (15, .int (nI rr)), (14, .int (nI e)), (13, .int (nI (owe S t pp))), (12, .int (nI a)), (11, .int (nI c)), (10, .int (nI kd)), (9, .int (nI ct)), (7, .long (sumF S c t q)), (6, .int (nI i)), (5, .int pd), (4, .int (nI k)), (3, .int (nI made)), (2, .ref z), (1, .ref ((ad 0) 0)), (0, .ref b)]) F.x F.b dL_law_285 hl (by decide) rfl (fun ls hl => ?_)
              refine lv_iload F.x F.b dL_law_287 (lv_at hl 2 rfl) ?_
              refine lv_if_eq (tgt := 325) F.x F.b dL_law_289 (by decide) (fun _ => ?_) (fun c9 => absurd rfl c9)
              refine lv_iconst (v := 1) F.x F.b dL_law_325 (by decide) ?_
              refine lv_goto (tgt := 330) F.x F.b dL_law_326 (by decide) ?_
              refine lv_istore (lv' := [(25, .int 1), (24, .int 0), (23, .int 1), (22, .int 0), (21, .int (-76)), (20, .int (nI mo)), (19, .int (nI q)), (18, .int Q9), (17, .int (S.1 3)), (16, .int (S.1 6)), (15, .int (nI rr)), (14, .int (nI e)), (13, .int (nI (owe S t pp))), (12, .int (nI a)), (11, .int (nI c)), (10, .int (nI kd)), (9, .int (nI ct)), (7, .long (sumF S c t q)), (6, .int (nI i)), (5, .int pd), (4, .int (nI k)), (3, .int (nI made)), (2, .ref z), (1, .ref ((ad 0) 0)), (0, .ref b)]) F.x F.b dL_law_330 hl (by decide) rfl (fun ls hl => ?_)
              refine lv_iload F.x F.b dL_law_332 (lv_at hl 0 rfl) ?_
              refine lv_iload F.x F.b dL_law_334 (lv_at hl 2 rfl) ?_
              refine lv_if_eq (tgt := 417) F.x F.b dL_law_336 (by decide) (fun c9 => absurd c9 (by decide)) (fun _ => ?_)
              refine lv_iload F.x F.b dL_law_339 (lv_at hl 12 rfl) ?_
              refine lv_if_ge (tgt := 354) F.x F.b dL_law_341 (by decide) (fun _ => ?_) (fun c9 => absurd (nI_pos' (n := owe S t pp) (by omega)) c9)
              refine lv_iload F.x F.b dL_law_354 (lv_at hl 12 rfl) ?_
              refine lv_iload F.x F.b dL_law_356 (lv_at hl 8 rfl) ?_
              refine lv_icmp_le (tgt := 371) F.x F.b dL_law_358 (by decide) (fun c9 => absurd c9 (show ¬ nI (owe S t pp) ≤ S.1 3 from by rw [eco]; exact fun z => absurd ((nI_leI (a := owe S t pp) (b := co) (by omega) (by omega)).mp z) (by omega))) (fun _ => ?_)
              refine lv_iload F.x F.b dL_law_361 (lv_at hl 4 rfl) ?_
              refine lv_bipush (v := (-76)) F.x F.b dL_law_363 (by decide) ?_
              refine lv_icmp_ne (tgt := 421) F.x F.b dL_law_365 (by decide) (fun c9 => absurd rfl c9) (fun _ => ?_)
              refine lv_goto (tgt := 417) F.x F.b dL_law_368 (by decide) ?_
              refine lv_iconst (v := 1) F.x F.b dL_law_417 (by decide) ?_
              refine lv_goto (tgt := 422) F.x F.b dL_law_418 (by decide) ?_
              refine lv_iand F.x F.b dL_law_422 ?_
              rw [show ((1 : Int32) &&& 1) = 1 from by decide]
              refine lv_istore (lv' := [(25, .int 1), (24, .int 0), (23, .int 1), (22, .int 0), (21, .int (-76)), (20, .int (nI mo)), (19, .int (nI q)), (18, .int Q9), (17, .int (S.1 3)), (16, .int (S.1 6)), (15, .int (nI rr)), (14, .int (nI e)), (13, .int (nI (owe S t pp))), (12, .int (nI a)), (11, .int (nI c)), (10, .int (nI kd)), (9, .int (nI ct)), (7, .long (sumF S c t q)), (6, .int (nI i)), (5, .int pd), (4, .int (nI k)), (3, .int (nI made)), (2, .ref z), (1, .ref ((ad 0) 0)), (0, .ref b)]) F.x F.b dL_law_423 hl (by decide) rfl (fun ls hl => ?_)
              refine lv_iload F.x F.b dL_law_425 (lv_at hl 0 rfl) ?_
              refine lv_iload F.x F.b dL_law_427 (lv_at hl 1 rfl) ?_
              refine lv_if_eq (tgt := 459) F.x F.b dL_law_429 (by decide) (fun _ => ?_) (fun c9 => absurd rfl c9)
              refine lv_iconst (v := 1) F.x F.b dL_law_459 (by decide) ?_
              refine lv_goto (tgt := 464) F.x F.b dL_law_460 (by decide) ?_
              refine lv_iand F.x F.b dL_law_464 ?_
              rw [show ((1 : Int32) &&& 1) = 1 from by decide]
              refine lv_istore (lv' := [(25, .int 1), (24, .int 0), (23, .int 1), (22, .int 0), (21, .int (-76)), (20, .int (nI mo)), (19, .int (nI q)), (18, .int Q9), (17, .int (S.1 3)), (16, .int (S.1 6)), (15, .int (nI rr)), (14, .int (nI e)), (13, .int (nI (owe S t pp))), (12, .int (nI a)), (11, .int (nI c)), (10, .int (nI kd)), (9, .int (nI ct)), (7, .long (sumF S c t q)), (6, .int (nI i)), (5, .int pd), (4, .int (nI k)), (3, .int (nI made)), (2, .ref z), (1, .ref ((ad 0) 0)), (0, .ref b)]) F.x F.b dL_law_465 hl (by decide) rfl (fun ls hl => ?_)
              refine lv_iload F.x F.b dL_law_467 (lv_at hl 19 rfl) ?_
              refine lv_iload F.x F.b dL_law_469 (lv_at hl 15 rfl) ?_
              refine lv_bipush (v := 8) F.x F.b dL_law_471 (by decide) ?_
              refine lv_icmp_le (tgt := 500) F.x F.b dL_law_473 (by decide) (fun c9 => absurd c9 (show ¬ nI kd ≤ 8 from fun z => absurd ((nI_leI (a := kd) (b := 8) (by omega) (by omega)).mp z) (by omega))) (fun _ => ?_)
              refine lv_iload F.x F.b dL_law_476 (lv_at hl 15 rfl) ?_
              refine lv_bipush (v := 11) F.x F.b dL_law_478 (by decide) ?_
              refine lv_icmp_ge (tgt := 500) F.x F.b dL_law_480 (by decide) (fun _ => ?_) (fun c9 => absurd (show (11 : Int32) ≤ nI kd from (nI_leI (a := 11) (b := kd) (by omega) (by omega)).mpr (by omega)) c9)
              refine lv_iconst (v := 0) F.x F.b dL_law_500 (by decide) ?_
              refine lv_iadd F.x F.b dL_law_501 ?_
              refine lv_istore (lv' := [(5, .int (pd + 0)), (25, .int 1), (24, .int 0), (23, .int 1), (22, .int 0), (21, .int (-76)), (20, .int (nI mo)), (19, .int (nI q)), (18, .int Q9), (17, .int (S.1 3)), (16, .int (S.1 6)), (15, .int (nI rr)), (14, .int (nI e)), (13, .int (nI (owe S t pp))), (12, .int (nI a)), (11, .int (nI c)), (10, .int (nI kd)), (9, .int (nI ct)), (7, .long (sumF S c t q)), (6, .int (nI i)), (4, .int (nI k)), (3, .int (nI made)), (2, .ref z), (1, .ref ((ad 0) 0)), (0, .ref b)]) F.x F.b dL_law_502 hl (by decide) rfl (fun ls hl => ?_)
              refine K504 (-76) (pd + 0) K9 S9 C9 _ _ _ cu ct c t q hs9 _ _ _ H locs ls (g9.mono (Nat.le_succ i)) hI.1 (by rw [sm9.1 3 (by omega), sm9.1 4 (by omega), hpd]; exact (Int32.add_zero pd).symm) ?_ (by omega) (by omega) w (lv_sub hl [1, 5, 17, 18, 19, 0, 20, 21, 22, 23, 24] rfl)
              exact KA
            · exact absurd hid (hnone pp hp)
      · subst e9
        have w := w.jn (L1 := [wXo G.2.1 (ad 0) (xF ad) .null K9, wSh G.2.1 (ad 1) S9, wTe G.2.1 (ad 4) C9, wHo G.2.1 (ad 3) (nxt cu) (cap ct) (hput hs cu (b9, P9)), hsL G.2.1 (hput hs cu (b9, P9))]) (L' := [[(z, .inl (G.2.1 4, 80, .inr (.inl sm)))], wXo G.2.1 (ad 0) (xF ad) .null K9, wSh G.2.1 (ad 1) S9, wSh G.2.1 (ad 2) Fc, wTe G.2.1 (ad 4) C9, wSb G.2.1 (ad 5) ou, wAd G.2.1 (ad 6) D8, wAb G.2.1 (ad 7) B, wHo G.2.1 (ad 3) (nxt cu) (cap ct) (hput hs cu (b9, P9)), hsL G.2.1 (hput hs cu (b9, P9))]) h9 10 [5, 0, 1, 6, 2, 7, 8, 9, 3, 4] rfl rfl rfl
        have KB : ∀ (pd' : Int32), S9.1 3 + S9.1 4 = pd' → ∀ (Fc9 B9 D9 : Mem) (hs8 : hS) (cells slots : Nat) (H : Heap) (locs : List Loc) (ls : Array Slot), HF (nxt cu) (hput hs cu (b9, P9)) hs8 → cells ≤ 400 * i + 890 → slots ≤ 4000 * i + 8900 → Wd G A s.heap (fl [[(z, .inl (G.2.1 4, 80, .inr (.inl sm)))], wXo G.2.1 (ad 0) (xF ad) .null K9, wSh G.2.1 (ad 1) S9, wSh G.2.1 (ad 2) Fc9, wTe G.2.1 (ad 4) C9, wSb G.2.1 (ad 5) ou, wAd G.2.1 (ad 6) D9, wAb G.2.1 (ad 7) B9, wHo G.2.1 (ad 3) (nxt cu) (cap ct) hs8, hsL G.2.1 hs8]) H locs → lv_has ls 26 [(21, .int (nI r)), (9, .int (nI ct)), (7, .long (sumF S c t q)), (6, .int (nI i)), (5, .int pd'), (4, .int (nI (k + 5))), (3, .int (nI made)), (2, .ref z), (1, .ref ((ad 0) 0)), (0, .ref b)] → W p l e0 room_1 s m0 args below meth cm H locs cells slots QQ (F0 m0 551 ls []) := by
          intro pd' hpd' Fc9 B9 D9 hs8 cells slots H locs ls hF8 hc9 hs9 w hl
          refine lv_iload F.x F.b dL_law_551 (lv_at hl 0 rfl) ?_
          refine lv_bipush (v := (-74)) F.x F.b dL_law_553 (by decide) ?_
          refine lv_icmp_gt (tgt := 579) F.x F.b dL_law_555 (by decide) (fun _ => ?_) (fun c9 => absurd (p74 hr9) c9)
          refine lv_iinc (v := (nI (made + 1))) (lv' := [(3, .int (nI (made + 1))), (21, .int (nI r)), (9, .int (nI ct)), (7, .long (sumF S c t q)), (6, .int (nI i)), (5, .int pd'), (4, .int (nI (k + 5))), (2, .ref z), (1, .ref ((ad 0) 0)), (0, .ref b)]) F.x F.b dL_law_579 hl (k := 6) rfl (nI_1 made) (by decide) rfl (fun ls hl => ?_)
          refine lv_aload_n F.x F.b dL_law_582 rfl (lv_at hl 7 rfl) ?_
          refine lv_iload_n F.x F.b dL_law_583 rfl (lv_at hl 0 rfl) ?_
          refine lv_aload_n F.x F.b dL_law_584 rfl (lv_at hl 8 rfl) ?_
          refine kBl F w hst (LC := [wXo G.2.1 (ad 0) (xF ad) .null K9, wSh G.2.1 (ad 1) S9, wSb G.2.1 (ad 5) ou]) (LR := [[(z, .inl (G.2.1 4, 80, .inr (.inl sm)))], wSh G.2.1 (ad 2) Fc9, wTe G.2.1 (ad 4) C9, wAd G.2.1 (ad 6) D9, wAb G.2.1 (ad 7) B9, wHo G.2.1 (ad 3) (nxt cu) (cap ct) hs8, hsL G.2.1 hs8]) (As := [.ref ((ad 0) 0)]) (rest := [.int (nI (made + 1)), .ref z]) (w_sum F.1 hSG pv hD g9 hT) m_L_sum v_L_sum q1167 10 [1, 2, 5, 0, 3, 4, 6, 7, 8, 9] rfl rfl rfl ⟨Nat.le_of_ble_eq_true rfl, Nat.le_of_ble_eq_true rfl⟩ rfl hl.1 rfl (Nat.le_of_ble_eq_true rfl) dL_law_585 ⟨by show _ ≤ 660961; omega, by show _ ≤ 7109381; omega⟩ (fun r9 w1 H locs h9 w => ?_)
          obtain ⟨rfl, ou8, L8, hou8, h9⟩ := h9
          have w := w.jn (L1 := [wXo G.2.1 (ad 0) (xF ad) .null K9, wSh G.2.1 (ad 1) S9, wSb G.2.1 (ad 5) ou8]) (L' := [[(z, .inl (G.2.1 4, 80, .inr (.inl sm)))], wXo G.2.1 (ad 0) (xF ad) .null K9, wSh G.2.1 (ad 1) S9, wSh G.2.1 (ad 2) Fc9, wTe G.2.1 (ad 4) C9, wSb G.2.1 (ad 5) ou8, wAd G.2.1 (ad 6) D9, wAb G.2.1 (ad 7) B9, wHo G.2.1 (ad 3) (nxt cu) (cap ct) hs8, hsL G.2.1 hs8]) h9 10 [3, 0, 1, 4, 5, 2, 6, 7, 8, 9] rfl rfl rfl
          refine rLs F w 0 rfl (ib_nI (by omega) (by omega)) (ws' := fl [[(z, .inl (G.2.1 4, 80, .inr (.inl (vp_updL sm (Int32.toNatClampNeg (nI (made + 1))) (sumF S9 c9 t9 q9)))))], wXo G.2.1 (ad 0) (xF ad) .null K9, wSh G.2.1 (ad 1) S9, wSh G.2.1 (ad 2) Fc9, wTe G.2.1 (ad 4) C9, wSb G.2.1 (ad 5) ou8, wAd G.2.1 (ad 6) D9, wAb G.2.1 (ad 7) B9, wHo G.2.1 (ad 3) (nxt cu) (cap ct) hs8, hsL G.2.1 hs8]) rfl dL_law_588 (fun H locs w => ?_)
          refine lv_iinc (v := (nI (i + 1))) (lv' := [(6, .int (nI (i + 1))), (3, .int (nI (made + 1))), (21, .int (nI r)), (9, .int (nI ct)), (7, .long (sumF S c t q)), (5, .int pd'), (4, .int (nI (k + 5))), (2, .ref z), (1, .ref ((ad 0) 0)), (0, .ref b)]) F.x F.b dL_law_589 hl (k := 4) rfl (nI_1 i) (by decide) rfl (fun ls hl => ?_)
          refine lv_goto (tgt := 31) F.x F.b dL_law_592 (by decide) ?_
          exact ih (i + 1) (by omega) K9 S9 Fc9 C9 D9 B9 ou8 L8 (nxt cu) (cap ct) (made + 1) c9 t9 q9 (k + 5) hs8 (vp_updL sm (Int32.toNatClampNeg (nI (made + 1))) (sumF S9 c9 t9 q9)) pd' _ _ H locs ls g9 hC9 hou8 ((((hI.up (Nat.le_succ i)).push ((h.copy hP9).2.mono (Nat.le_succ i)) (by rw [upd_ne (by omega)]; exact (sumF_same (h.copy hP9).1).trans hsm) (fun x hx => upd_ne (by omega)))).free hF8) (cap_ct hct) (by omega) (upd_at (by omega)) hpd' (by omega) (by omega) (by omega) w (lv_sub hl [0, 5, 6, 1, 7, 8, 9] rfl)
        rcases (show (kd < 8) ∨ (kd = 8) ∨ (kd = 9 ∨ kd = 10) ∨ (kd = 11) ∨ (kd = 12) ∨ (13 ≤ kd ∧ kd ≤ 15) ∨ (16 ≤ kd ∧ kd ≤ 43) ∨ (44 ≤ kd) by omega) with hreg | hreg | hreg | hreg | hreg | hreg | hreg | hreg
        · have e4 := hye.1 (by omega)
          have e3 := hye.2.1 (by omega) (by omega) (by omega)
          refine lv_istore (lv' := [(21, .int (nI r)), (20, .int (nI mo)), (19, .int (nI q)), (18, .int Q9), (17, .int (S.1 3)), (16, .int (S.1 6)), (15, .int (nI rr)), (14, .int (nI e)), (13, .int D9), (12, .int (nI a)), (11, .int (nI c)), (10, .int (nI kd)), (9, .int (nI ct)), (7, .long (sumF S c t q)), (6, .int (nI i)), (5, .int pd), (4, .int (nI k)), (3, .int (nI made)), (2, .ref z), (1, .ref ((ad 0) 0)), (0, .ref b)]) F.x F.b dL_law_215 hl (by decide) rfl (fun ls hl => ?_)
          refine lv_iload F.x F.b dL_law_217 (lv_at hl 11 rfl) ?_
          refine lv_bipush (v := 12) F.x F.b dL_law_219 (by decide) ?_
          refine lv_icmp_le (tgt := 242) F.x F.b dL_law_221 (by decide) (fun _ => ?_) (fun c9 => absurd (show nI kd ≤ 12 from (nI_leI (a := kd) (b := 12) (by omega) (by omega)).mpr (by omega)) c9)
          refine lv_iconst (v := 0) F.x F.b dL_law_242 (by decide) ?_
          refine lv_istore (lv' := [(22, .int 0), (21, .int (nI r)), (20, .int (nI mo)), (19, .int (nI q)), (18, .int Q9), (17, .int (S.1 3)), (16, .int (S.1 6)), (15, .int (nI rr)), (14, .int (nI e)), (13, .int D9), (12, .int (nI a)), (11, .int (nI c)), (10, .int (nI kd)), (9, .int (nI ct)), (7, .long (sumF S c t q)), (6, .int (nI i)), (5, .int pd), (4, .int (nI k)), (3, .int (nI made)), (2, .ref z), (1, .ref ((ad 0) 0)), (0, .ref b)]) F.x F.b dL_law_243 hl (by decide) rfl (fun ls hl => ?_)
          refine lv_iload F.x F.b dL_law_245 (lv_at hl 12 rfl) ?_
          refine lv_bipush (v := 43) F.x F.b dL_law_247 (by decide) ?_
          refine lv_icmp_le (tgt := 256) F.x F.b dL_law_249 (by decide) (fun _ => ?_) (fun c9 => absurd (show nI kd ≤ 43 from (nI_leI (a := kd) (b := 43) (by omega) (by omega)).mpr (by omega)) c9)
          refine lv_iconst (v := 0) F.x F.b dL_law_256 (by decide) ?_
          refine lv_istore (lv' := [(23, .int 0), (22, .int 0), (21, .int (nI r)), (20, .int (nI mo)), (19, .int (nI q)), (18, .int Q9), (17, .int (S.1 3)), (16, .int (S.1 6)), (15, .int (nI rr)), (14, .int (nI e)), (13, .int D9), (12, .int (nI a)), (11, .int (nI c)), (10, .int (nI kd)), (9, .int (nI ct)), (7, .long (sumF S c t q)), (6, .int (nI i)), (5, .int pd), (4, .int (nI k)), (3, .int (nI made)), (2, .ref z), (1, .ref ((ad 0) 0)), (0, .ref b)]) F.x F.b dL_law_257 hl (by decide) rfl (fun ls hl => ?_)
          refine lv_iload F.x F.b dL_law_259 (lv_at hl 13 rfl) ?_
          refine lv_bipush (v := 8) F.x F.b dL_law_261 (by decide) ?_
          refine lv_icmp_eq (tgt := 273) F.x F.b dL_law_263 (by decide) (fun c9 => absurd c9 (show ¬ nI kd = 8 from fun z => absurd ((nI_eq (a := kd) (b := 8) (by omega) (by omega)).mp z) (by omega))) (fun _ => ?_)
          refine lv_iload F.x F.b dL_law_266 (lv_at hl 13 rfl) ?_
          refine lv_bipush (v := 11) F.x F.b dL_law_268 (by decide) ?_
          refine lv_icmp_ne (tgt := 284) F.x F.b dL_law_270 (by decide) (fun _ => ?_) (fun c9 => absurd c9 (show ¬ nI kd = 11 from fun z => absurd ((nI_eq (a := kd) (b := 11) (by omega) (by omega)).mp z) (by omega)))
          refine lv_iconst (v := 0) F.x F.b dL_law_284 (by decide) ?_
          refine lv_istore (lv' := [(24, .int 0), (23, .int 0), (22, .int 0), (21, .int (nI r)), (20, .int (nI mo)), (19, .int (nI q)), (18, .int Q9), (17, .int (S.1 3)), (16, .int (S.1 6)), (15, .int (nI rr)), (14, .int (nI e)), (13, .int D9), (12, .int (nI a)), (11, .int (nI c)), (10, .int (nI kd)), (9, .int (nI ct)), (7, .long (sumF S c t q)), (6, .int (nI i)), (5, .int pd), (4, .int (nI k)), (3, .int (nI made)), (2, .ref z), (1, .ref ((ad 0) 0)), (0, .ref b)]) F.x F.b dL_law_285 hl (by decide) rfl (fun ls hl => ?_)
          refine lv_iload F.x F.b dL_law_287 (lv_at hl 2 rfl) ?_
          refine lv_if_eq (tgt := 325) F.x F.b dL_law_289 (by decide) (fun _ => ?_) (fun c9 => absurd rfl c9)
          refine lv_iconst (v := 1) F.x F.b dL_law_325 (by decide) ?_
          refine lv_goto (tgt := 330) F.x F.b dL_law_326 (by decide) ?_
          refine lv_istore (lv' := [(25, .int 1), (24, .int 0), (23, .int 0), (22, .int 0), (21, .int (nI r)), (20, .int (nI mo)), (19, .int (nI q)), (18, .int Q9), (17, .int (S.1 3)), (16, .int (S.1 6)), (15, .int (nI rr)), (14, .int (nI e)), (13, .int D9), (12, .int (nI a)), (11, .int (nI c)), (10, .int (nI kd)), (9, .int (nI ct)), (7, .long (sumF S c t q)), (6, .int (nI i)), (5, .int pd), (4, .int (nI k)), (3, .int (nI made)), (2, .ref z), (1, .ref ((ad 0) 0)), (0, .ref b)]) F.x F.b dL_law_330 hl (by decide) rfl (fun ls hl => ?_)
          refine lv_iload F.x F.b dL_law_332 (lv_at hl 0 rfl) ?_
          refine lv_iload F.x F.b dL_law_334 (lv_at hl 2 rfl) ?_
          refine lv_if_eq (tgt := 417) F.x F.b dL_law_336 (by decide) (fun _ => ?_) (fun c9 => absurd rfl c9)
          refine lv_iconst (v := 1) F.x F.b dL_law_417 (by decide) ?_
          refine lv_goto (tgt := 422) F.x F.b dL_law_418 (by decide) ?_
          refine lv_iand F.x F.b dL_law_422 ?_
          rw [show ((1 : Int32) &&& 1) = 1 from by decide]
          refine lv_istore (lv' := [(25, .int 1), (24, .int 0), (23, .int 0), (22, .int 0), (21, .int (nI r)), (20, .int (nI mo)), (19, .int (nI q)), (18, .int Q9), (17, .int (S.1 3)), (16, .int (S.1 6)), (15, .int (nI rr)), (14, .int (nI e)), (13, .int D9), (12, .int (nI a)), (11, .int (nI c)), (10, .int (nI kd)), (9, .int (nI ct)), (7, .long (sumF S c t q)), (6, .int (nI i)), (5, .int pd), (4, .int (nI k)), (3, .int (nI made)), (2, .ref z), (1, .ref ((ad 0) 0)), (0, .ref b)]) F.x F.b dL_law_423 hl (by decide) rfl (fun ls hl => ?_)
          refine lv_iload F.x F.b dL_law_425 (lv_at hl 0 rfl) ?_
          refine lv_iload F.x F.b dL_law_427 (lv_at hl 1 rfl) ?_
          refine lv_if_eq (tgt := 459) F.x F.b dL_law_429 (by decide) (fun _ => ?_) (fun c9 => absurd rfl c9)
          refine lv_iconst (v := 1) F.x F.b dL_law_459 (by decide) ?_
          refine lv_goto (tgt := 464) F.x F.b dL_law_460 (by decide) ?_
          refine lv_iand F.x F.b dL_law_464 ?_
          rw [show ((1 : Int32) &&& 1) = 1 from by decide]
          refine lv_istore (lv' := [(25, .int 1), (24, .int 0), (23, .int 0), (22, .int 0), (21, .int (nI r)), (20, .int (nI mo)), (19, .int (nI q)), (18, .int Q9), (17, .int (S.1 3)), (16, .int (S.1 6)), (15, .int (nI rr)), (14, .int (nI e)), (13, .int D9), (12, .int (nI a)), (11, .int (nI c)), (10, .int (nI kd)), (9, .int (nI ct)), (7, .long (sumF S c t q)), (6, .int (nI i)), (5, .int pd), (4, .int (nI k)), (3, .int (nI made)), (2, .ref z), (1, .ref ((ad 0) 0)), (0, .ref b)]) F.x F.b dL_law_465 hl (by decide) rfl (fun ls hl => ?_)
          refine lv_iload F.x F.b dL_law_467 (lv_at hl 19 rfl) ?_
          refine lv_iload F.x F.b dL_law_469 (lv_at hl 15 rfl) ?_
          refine lv_bipush (v := 8) F.x F.b dL_law_471 (by decide) ?_
          refine lv_icmp_le (tgt := 500) F.x F.b dL_law_473 (by decide) (fun _ => ?_) (fun c9 => absurd (show nI kd ≤ 8 from (nI_leI (a := kd) (b := 8) (by omega) (by omega)).mpr (by omega)) c9)
          refine lv_iconst (v := 0) F.x F.b dL_law_500 (by decide) ?_
          refine lv_iadd F.x F.b dL_law_501 ?_
          refine lv_istore (lv' := [(5, .int (pd + 0)), (25, .int 1), (24, .int 0), (23, .int 0), (22, .int 0), (21, .int (nI r)), (20, .int (nI mo)), (19, .int (nI q)), (18, .int Q9), (17, .int (S.1 3)), (16, .int (S.1 6)), (15, .int (nI rr)), (14, .int (nI e)), (13, .int D9), (12, .int (nI a)), (11, .int (nI c)), (10, .int (nI kd)), (9, .int (nI ct)), (7, .long (sumF S c t q)), (6, .int (nI i)), (4, .int (nI k)), (3, .int (nI made)), (2, .ref z), (1, .ref ((ad 0) 0)), (0, .ref b)]) F.x F.b dL_law_502 hl (by decide) rfl (fun ls hl => ?_)
          have hpd9 : S9.1 3 + S9.1 4 = pd + 0 := by rw [e3, e4, hpd]; exact (Int32.add_zero pd).symm
          refine K504 (nI r) (pd + 0) K9 S9 C9 _ _ _ (nxt cu) (cap ct) c9 t9 q9 (hput hs cu (b9, P9)) _ _ _ H locs ls g9 (nxt9 hI.1) hpd9 (KB _ hpd9) (by omega) (by omega) w (lv_sub hl [1, 5, 17, 18, 19, 0, 20, 21, 22, 23, 24] rfl)
        · have e4 := hye.1 (by omega)
          have e3 := hye.2.1 (by omega) (by omega) (by omega)
          obtain ⟨hq0, hq1, hq2, pp, hp, hid, hsd⟩ := hye.2.2.2.1 (by omega)
          have hc9 := g9.c16
          have hsl : f_X3_slotWith S9 (nI r) = some (nI pp) := by rw [← hid]; exact g9.slot hp
          refine lv_istore (lv' := [(21, .int (nI r)), (20, .int (nI mo)), (19, .int (nI q)), (18, .int Q9), (17, .int (S.1 3)), (16, .int (S.1 6)), (15, .int (nI rr)), (14, .int (nI e)), (13, .int D9), (12, .int (nI a)), (11, .int (nI c)), (10, .int (nI kd)), (9, .int (nI ct)), (7, .long (sumF S c t q)), (6, .int (nI i)), (5, .int pd), (4, .int (nI k)), (3, .int (nI made)), (2, .ref z), (1, .ref ((ad 0) 0)), (0, .ref b)]) F.x F.b dL_law_215 hl (by decide) rfl (fun ls hl => ?_)
          refine lv_iload F.x F.b dL_law_217 (lv_at hl 11 rfl) ?_
          refine lv_bipush (v := 12) F.x F.b dL_law_219 (by decide) ?_
          refine lv_icmp_le (tgt := 242) F.x F.b dL_law_221 (by decide) (fun _ => ?_) (fun c9 => absurd (show nI kd ≤ 12 from (nI_leI (a := kd) (b := 12) (by omega) (by omega)).mpr (by omega)) c9)
          refine lv_iconst (v := 0) F.x F.b dL_law_242 (by decide) ?_
          refine lv_istore (lv' := [(22, .int 0), (21, .int (nI r)), (20, .int (nI mo)), (19, .int (nI q)), (18, .int Q9), (17, .int (S.1 3)), (16, .int (S.1 6)), (15, .int (nI rr)), (14, .int (nI e)), (13, .int D9), (12, .int (nI a)), (11, .int (nI c)), (10, .int (nI kd)), (9, .int (nI ct)), (7, .long (sumF S c t q)), (6, .int (nI i)), (5, .int pd), (4, .int (nI k)), (3, .int (nI made)), (2, .ref z), (1, .ref ((ad 0) 0)), (0, .ref b)]) F.x F.b dL_law_243 hl (by decide) rfl (fun ls hl => ?_)
          refine lv_iload F.x F.b dL_law_245 (lv_at hl 12 rfl) ?_
          refine lv_bipush (v := 43) F.x F.b dL_law_247 (by decide) ?_
          refine lv_icmp_le (tgt := 256) F.x F.b dL_law_249 (by decide) (fun _ => ?_) (fun c9 => absurd (show nI kd ≤ 43 from (nI_leI (a := kd) (b := 43) (by omega) (by omega)).mpr (by omega)) c9)
          refine lv_iconst (v := 0) F.x F.b dL_law_256 (by decide) ?_
          refine lv_istore (lv' := [(23, .int 0), (22, .int 0), (21, .int (nI r)), (20, .int (nI mo)), (19, .int (nI q)), (18, .int Q9), (17, .int (S.1 3)), (16, .int (S.1 6)), (15, .int (nI rr)), (14, .int (nI e)), (13, .int D9), (12, .int (nI a)), (11, .int (nI c)), (10, .int (nI kd)), (9, .int (nI ct)), (7, .long (sumF S c t q)), (6, .int (nI i)), (5, .int pd), (4, .int (nI k)), (3, .int (nI made)), (2, .ref z), (1, .ref ((ad 0) 0)), (0, .ref b)]) F.x F.b dL_law_257 hl (by decide) rfl (fun ls hl => ?_)
          refine lv_iload F.x F.b dL_law_259 (lv_at hl 13 rfl) ?_
          refine lv_bipush (v := 8) F.x F.b dL_law_261 (by decide) ?_
          refine lv_icmp_eq (tgt := 273) F.x F.b dL_law_263 (by decide) (fun _ => ?_) (fun c9 => absurd (show nI kd = 8 from (nI_eq (a := kd) (b := 8) (by omega) (by omega)).mpr (by omega)) c9)
          refine lv_iload F.x F.b dL_law_273 (lv_at hl 2 rfl) ?_
          refine lv_bipush (v := (-70)) F.x F.b dL_law_275 (by decide) ?_
          refine lv_icmp_le (tgt := 284) F.x F.b dL_law_277 (by decide) (fun c9 => absurd c9 (n70 hr9)) (fun _ => ?_)
          refine lv_iconst (v := 1) F.x F.b dL_law_280 (by decide) ?_
          refine lv_goto (tgt := 285) F.x F.b dL_law_281 (by decide) ?_
          refine lv_istore (lv' := [(24, .int 1), (23, .int 0), (22, .int 0), (21, .int (nI r)), (20, .int (nI mo)), (19, .int (nI q)), (18, .int Q9), (17, .int (S.1 3)), (16, .int (S.1 6)), (15, .int (nI rr)), (14, .int (nI e)), (13, .int D9), (12, .int (nI a)), (11, .int (nI c)), (10, .int (nI kd)), (9, .int (nI ct)), (7, .long (sumF S c t q)), (6, .int (nI i)), (5, .int pd), (4, .int (nI k)), (3, .int (nI made)), (2, .ref z), (1, .ref ((ad 0) 0)), (0, .ref b)]) F.x F.b dL_law_285 hl (by decide) rfl (fun ls hl => ?_)
          refine lv_iload F.x F.b dL_law_287 (lv_at hl 2 rfl) ?_
          refine lv_if_eq (tgt := 325) F.x F.b dL_law_289 (by decide) (fun _ => ?_) (fun c9 => absurd rfl c9)
          refine lv_iconst (v := 1) F.x F.b dL_law_325 (by decide) ?_
          refine lv_goto (tgt := 330) F.x F.b dL_law_326 (by decide) ?_
          refine lv_istore (lv' := [(25, .int 1), (24, .int 1), (23, .int 0), (22, .int 0), (21, .int (nI r)), (20, .int (nI mo)), (19, .int (nI q)), (18, .int Q9), (17, .int (S.1 3)), (16, .int (S.1 6)), (15, .int (nI rr)), (14, .int (nI e)), (13, .int D9), (12, .int (nI a)), (11, .int (nI c)), (10, .int (nI kd)), (9, .int (nI ct)), (7, .long (sumF S c t q)), (6, .int (nI i)), (5, .int pd), (4, .int (nI k)), (3, .int (nI made)), (2, .ref z), (1, .ref ((ad 0) 0)), (0, .ref b)]) F.x F.b dL_law_330 hl (by decide) rfl (fun ls hl => ?_)
          refine lv_iload F.x F.b dL_law_332 (lv_at hl 0 rfl) ?_
          refine lv_iload F.x F.b dL_law_334 (lv_at hl 2 rfl) ?_
          refine lv_if_eq (tgt := 417) F.x F.b dL_law_336 (by decide) (fun _ => ?_) (fun c9 => absurd rfl c9)
          refine lv_iconst (v := 1) F.x F.b dL_law_417 (by decide) ?_
          refine lv_goto (tgt := 422) F.x F.b dL_law_418 (by decide) ?_
          refine lv_iand F.x F.b dL_law_422 ?_
          rw [show ((1 : Int32) &&& 1) = 1 from by decide]
          refine lv_istore (lv' := [(25, .int 1), (24, .int 1), (23, .int 0), (22, .int 0), (21, .int (nI r)), (20, .int (nI mo)), (19, .int (nI q)), (18, .int Q9), (17, .int (S.1 3)), (16, .int (S.1 6)), (15, .int (nI rr)), (14, .int (nI e)), (13, .int D9), (12, .int (nI a)), (11, .int (nI c)), (10, .int (nI kd)), (9, .int (nI ct)), (7, .long (sumF S c t q)), (6, .int (nI i)), (5, .int pd), (4, .int (nI k)), (3, .int (nI made)), (2, .ref z), (1, .ref ((ad 0) 0)), (0, .ref b)]) F.x F.b dL_law_423 hl (by decide) rfl (fun ls hl => ?_)
          refine lv_iload F.x F.b dL_law_425 (lv_at hl 0 rfl) ?_
          refine lv_iload F.x F.b dL_law_427 (lv_at hl 1 rfl) ?_
          refine lv_if_eq (tgt := 459) F.x F.b dL_law_429 (by decide) (fun c9 => absurd c9 (by decide)) (fun _ => ?_)
          refine lv_iload F.x F.b dL_law_432 (lv_at hl 4 rfl) ?_
          refine lv_iload F.x F.b dL_law_434 (lv_at hl 7 rfl) ?_
          refine lv_icmp_ne (tgt := 463) F.x F.b dL_law_436 (by decide) (fun c9 => absurd (show nI r = Q9 from by rw [hQ9 hq0, hq2]) c9) (fun _ => ?_)
          refine lv_aload_n F.x F.b dL_law_439 rfl (lv_at hl 23 rfl) ?_
          refine lv_iload F.x F.b dL_law_440 (lv_at hl 4 rfl) ?_
          refine kLi F w hst (LC := [wXo G.2.1 (ad 0) (xF ad) .null K9, wSh G.2.1 (ad 1) S9]) (LR := [[(z, .inl (G.2.1 4, 80, .inr (.inl sm)))], wSh G.2.1 (ad 2) Fc, wTe G.2.1 (ad 4) C9, wSb G.2.1 (ad 5) ou, wAd G.2.1 (ad 6) D8, wAb G.2.1 (ad 7) B, wHo G.2.1 (ad 3) (nxt cu) (cap ct) (hput hs cu (b9, P9)), hsL G.2.1 (hput hs cu (b9, P9))]) (As := [.ref ((ad 0) 0), .int (nI r)]) (rest := [.int 1]) (l_isSealed_ok F.1 hsl (by omega) (Or.inl hsd)) mh_isSealed vh_isSealed (List.mem_of_getElem? (i := 503) (by decide +kernel)) 10 [1, 2, 0, 3, 4, 5, 6, 7, 8, 9] rfl rfl rfl ⟨Nat.le_of_ble_eq_true rfl, Nat.le_of_ble_eq_true rfl⟩ rfl hl.1 rfl (Nat.le_of_ble_eq_true rfl) dL_law_442 ⟨by show _ ≤ 660961; omega, by show _ ≤ 7109381; omega⟩ (fun r9 w1 H locs h9 w => ?_)
          obtain ⟨rfl, h9⟩ := h9
          have w := w.jn (L1 := [wXo G.2.1 (ad 0) (xF ad) .null K9, wSh G.2.1 (ad 1) S9]) (L' := [[(z, .inl (G.2.1 4, 80, .inr (.inl sm)))], wXo G.2.1 (ad 0) (xF ad) .null K9, wSh G.2.1 (ad 1) S9, wSh G.2.1 (ad 2) Fc, wTe G.2.1 (ad 4) C9, wSb G.2.1 (ad 5) ou, wAd G.2.1 (ad 6) D8, wAb G.2.1 (ad 7) B, wHo G.2.1 (ad 3) (nxt cu) (cap ct) (hput hs cu (b9, P9)), hsL G.2.1 (hput hs cu (b9, P9))]) h9 10 [2, 0, 1, 3, 4, 5, 6, 7, 8, 9] rfl rfl rfl
          rw [show ((S9.2 5 pp) : Int32) = 0 from hsd]
          refine lv_if_ne (tgt := 463) F.x F.b dL_law_445 (by decide) (fun c9 => absurd rfl c9) (fun _ => ?_)
          refine lv_aload_n F.x F.b dL_law_448 rfl (lv_at hl 23 rfl) ?_
          refine kXi F w hst (LC := [wXo G.2.1 (ad 0) (xF ad) .null K9, wSh G.2.1 (ad 1) S9]) (LR := [[(z, .inl (G.2.1 4, 80, .inr (.inl sm)))], wSh G.2.1 (ad 2) Fc, wTe G.2.1 (ad 4) C9, wSb G.2.1 (ad 5) ou, wAd G.2.1 (ad 6) D8, wAb G.2.1 (ad 7) B, wHo G.2.1 (ad 3) (nxt cu) (cap ct) (hput hs cu (b9, P9)), hsL G.2.1 (hput hs cu (b9, P9))]) (As := []) (rest := [.int 1]) ((t_X6_queueLength F.1 (x := ad 0) (a := ad 1) (rf := xF ad) (sv := .null) rfl (show f_X6_queueLength K9 S9 = some (S9.1 7) from rfl)).toX : CX G yX6_queueLength cX6_queueLength 1 .int 0 0 0 0 [.ref ((ad 0) 0)] (fl [wXo G.2.1 (ad 0) (xF ad) .null K9, wSh G.2.1 (ad 1) S9]) _ _) m_X6_queueLength v_X6_queueLength q307 (ci := 10) (q0 := 1) rfl rfl rfl 10 [1, 2, 0, 3, 4, 5, 6, 7, 8, 9] rfl rfl rfl ⟨Nat.le_of_ble_eq_true rfl, Nat.le_of_ble_eq_true rfl⟩ rfl hl.1 rfl (Nat.le_of_ble_eq_true rfl) dL_law_449 ⟨by show _ ≤ 660961; omega, by show _ ≤ 7109381; omega⟩ (fun _ _ _ _ _ _ hx => False.elim hx) (fun r9 w1 H locs h9 w => ?_)
          obtain ⟨rfl, h9⟩ := h9
          have w := w.jn (L1 := [wXo G.2.1 (ad 0) (xF ad) .null K9, wSh G.2.1 (ad 1) S9]) (L' := [[(z, .inl (G.2.1 4, 80, .inr (.inl sm)))], wXo G.2.1 (ad 0) (xF ad) .null K9, wSh G.2.1 (ad 1) S9, wSh G.2.1 (ad 2) Fc, wTe G.2.1 (ad 4) C9, wSb G.2.1 (ad 5) ou, wAd G.2.1 (ad 6) D8, wAb G.2.1 (ad 7) B, wHo G.2.1 (ad 3) (nxt cu) (cap ct) (hput hs cu (b9, P9)), hsL G.2.1 (hput hs cu (b9, P9))]) h9 10 [2, 0, 1, 3, 4, 5, 6, 7, 8, 9] rfl rfl rfl
          rw [show ((S9.1 7) : Int32) = (nI q9) from g9.q1]
          refine lv_iload F.x F.b dL_law_452 (lv_at hl 6 rfl) ?_
          refine lv_iconst (v := 1) F.x F.b dL_law_454 (by decide) ?_
          refine lv_isub F.x F.b dL_law_455 ?_
          refine lv_icmp_ne (tgt := 463) F.x F.b dL_law_456 (by decide) (fun c9 => absurd (show nI q9 = nI q - 1 from by rw [m_one (by omega), hq1]) c9) (fun _ => ?_)
          refine lv_iconst (v := 1) F.x F.b dL_law_459 (by decide) ?_
          refine lv_goto (tgt := 464) F.x F.b dL_law_460 (by decide) ?_
          refine lv_iand F.x F.b dL_law_464 ?_
          rw [show ((1 : Int32) &&& 1) = 1 from by decide]
          refine lv_istore (lv' := [(25, .int 1), (24, .int 1), (23, .int 0), (22, .int 0), (21, .int (nI r)), (20, .int (nI mo)), (19, .int (nI q)), (18, .int Q9), (17, .int (S.1 3)), (16, .int (S.1 6)), (15, .int (nI rr)), (14, .int (nI e)), (13, .int D9), (12, .int (nI a)), (11, .int (nI c)), (10, .int (nI kd)), (9, .int (nI ct)), (7, .long (sumF S c t q)), (6, .int (nI i)), (5, .int pd), (4, .int (nI k)), (3, .int (nI made)), (2, .ref z), (1, .ref ((ad 0) 0)), (0, .ref b)]) F.x F.b dL_law_465 hl (by decide) rfl (fun ls hl => ?_)
          refine lv_iload F.x F.b dL_law_467 (lv_at hl 19 rfl) ?_
          refine lv_iload F.x F.b dL_law_469 (lv_at hl 15 rfl) ?_
          refine lv_bipush (v := 8) F.x F.b dL_law_471 (by decide) ?_
          refine lv_icmp_le (tgt := 500) F.x F.b dL_law_473 (by decide) (fun _ => ?_) (fun c9 => absurd (show nI kd ≤ 8 from (nI_leI (a := kd) (b := 8) (by omega) (by omega)).mpr (by omega)) c9)
          refine lv_iconst (v := 0) F.x F.b dL_law_500 (by decide) ?_
          refine lv_iadd F.x F.b dL_law_501 ?_
          refine lv_istore (lv' := [(5, .int (pd + 0)), (25, .int 1), (24, .int 1), (23, .int 0), (22, .int 0), (21, .int (nI r)), (20, .int (nI mo)), (19, .int (nI q)), (18, .int Q9), (17, .int (S.1 3)), (16, .int (S.1 6)), (15, .int (nI rr)), (14, .int (nI e)), (13, .int D9), (12, .int (nI a)), (11, .int (nI c)), (10, .int (nI kd)), (9, .int (nI ct)), (7, .long (sumF S c t q)), (6, .int (nI i)), (4, .int (nI k)), (3, .int (nI made)), (2, .ref z), (1, .ref ((ad 0) 0)), (0, .ref b)]) F.x F.b dL_law_502 hl (by decide) rfl (fun ls hl => ?_)
          have hpd9 : S9.1 3 + S9.1 4 = pd + 0 := by rw [e3, e4, hpd]; exact (Int32.add_zero pd).symm
          refine K504 (nI r) (pd + 0) K9 S9 C9 _ _ _ (nxt cu) (cap ct) c9 t9 q9 (hput hs cu (b9, P9)) _ _ _ H locs ls g9 (nxt9 hI.1) hpd9 (KB _ hpd9) (by omega) (by omega) w (lv_sub hl [1, 5, 17, 18, 19, 0, 20, 21, 22, 23, 24] rfl)
        · have e4 := hye.1 (by omega)
          refine lv_istore (lv' := [(21, .int (nI r)), (20, .int (nI mo)), (19, .int (nI q)), (18, .int Q9), (17, .int (S.1 3)), (16, .int (S.1 6)), (15, .int (nI rr)), (14, .int (nI e)), (13, .int D9), (12, .int (nI a)), (11, .int (nI c)), (10, .int (nI kd)), (9, .int (nI ct)), (7, .long (sumF S c t q)), (6, .int (nI i)), (5, .int pd), (4, .int (nI k)), (3, .int (nI made)), (2, .ref z), (1, .ref ((ad 0) 0)), (0, .ref b)]) F.x F.b dL_law_215 hl (by decide) rfl (fun ls hl => ?_)
          refine lv_iload F.x F.b dL_law_217 (lv_at hl 11 rfl) ?_
          refine lv_bipush (v := 12) F.x F.b dL_law_219 (by decide) ?_
          refine lv_icmp_le (tgt := 242) F.x F.b dL_law_221 (by decide) (fun _ => ?_) (fun c9 => absurd (show nI kd ≤ 12 from (nI_leI (a := kd) (b := 12) (by omega) (by omega)).mpr (by omega)) c9)
          refine lv_iconst (v := 0) F.x F.b dL_law_242 (by decide) ?_
          refine lv_istore (lv' := [(22, .int 0), (21, .int (nI r)), (20, .int (nI mo)), (19, .int (nI q)), (18, .int Q9), (17, .int (S.1 3)), (16, .int (S.1 6)), (15, .int (nI rr)), (14, .int (nI e)), (13, .int D9), (12, .int (nI a)), (11, .int (nI c)), (10, .int (nI kd)), (9, .int (nI ct)), (7, .long (sumF S c t q)), (6, .int (nI i)), (5, .int pd), (4, .int (nI k)), (3, .int (nI made)), (2, .ref z), (1, .ref ((ad 0) 0)), (0, .ref b)]) F.x F.b dL_law_243 hl (by decide) rfl (fun ls hl => ?_)
          refine lv_iload F.x F.b dL_law_245 (lv_at hl 12 rfl) ?_
          refine lv_bipush (v := 43) F.x F.b dL_law_247 (by decide) ?_
          refine lv_icmp_le (tgt := 256) F.x F.b dL_law_249 (by decide) (fun _ => ?_) (fun c9 => absurd (show nI kd ≤ 43 from (nI_leI (a := kd) (b := 43) (by omega) (by omega)).mpr (by omega)) c9)
          refine lv_iconst (v := 0) F.x F.b dL_law_256 (by decide) ?_
          refine lv_istore (lv' := [(23, .int 0), (22, .int 0), (21, .int (nI r)), (20, .int (nI mo)), (19, .int (nI q)), (18, .int Q9), (17, .int (S.1 3)), (16, .int (S.1 6)), (15, .int (nI rr)), (14, .int (nI e)), (13, .int D9), (12, .int (nI a)), (11, .int (nI c)), (10, .int (nI kd)), (9, .int (nI ct)), (7, .long (sumF S c t q)), (6, .int (nI i)), (5, .int pd), (4, .int (nI k)), (3, .int (nI made)), (2, .ref z), (1, .ref ((ad 0) 0)), (0, .ref b)]) F.x F.b dL_law_257 hl (by decide) rfl (fun ls hl => ?_)
          refine lv_iload F.x F.b dL_law_259 (lv_at hl 13 rfl) ?_
          refine lv_bipush (v := 8) F.x F.b dL_law_261 (by decide) ?_
          refine lv_icmp_eq (tgt := 273) F.x F.b dL_law_263 (by decide) (fun c9 => absurd c9 (show ¬ nI kd = 8 from fun z => absurd ((nI_eq (a := kd) (b := 8) (by omega) (by omega)).mp z) (by omega))) (fun _ => ?_)
          refine lv_iload F.x F.b dL_law_266 (lv_at hl 13 rfl) ?_
          refine lv_bipush (v := 11) F.x F.b dL_law_268 (by decide) ?_
          refine lv_icmp_ne (tgt := 284) F.x F.b dL_law_270 (by decide) (fun _ => ?_) (fun c9 => absurd c9 (show ¬ nI kd = 11 from fun z => absurd ((nI_eq (a := kd) (b := 11) (by omega) (by omega)).mp z) (by omega)))
          refine lv_iconst (v := 0) F.x F.b dL_law_284 (by decide) ?_
          refine lv_istore (lv' := [(24, .int 0), (23, .int 0), (22, .int 0), (21, .int (nI r)), (20, .int (nI mo)), (19, .int (nI q)), (18, .int Q9), (17, .int (S.1 3)), (16, .int (S.1 6)), (15, .int (nI rr)), (14, .int (nI e)), (13, .int D9), (12, .int (nI a)), (11, .int (nI c)), (10, .int (nI kd)), (9, .int (nI ct)), (7, .long (sumF S c t q)), (6, .int (nI i)), (5, .int pd), (4, .int (nI k)), (3, .int (nI made)), (2, .ref z), (1, .ref ((ad 0) 0)), (0, .ref b)]) F.x F.b dL_law_285 hl (by decide) rfl (fun ls hl => ?_)
          refine lv_iload F.x F.b dL_law_287 (lv_at hl 2 rfl) ?_
          refine lv_if_eq (tgt := 325) F.x F.b dL_law_289 (by decide) (fun _ => ?_) (fun c9 => absurd rfl c9)
          refine lv_iconst (v := 1) F.x F.b dL_law_325 (by decide) ?_
          refine lv_goto (tgt := 330) F.x F.b dL_law_326 (by decide) ?_
          refine lv_istore (lv' := [(25, .int 1), (24, .int 0), (23, .int 0), (22, .int 0), (21, .int (nI r)), (20, .int (nI mo)), (19, .int (nI q)), (18, .int Q9), (17, .int (S.1 3)), (16, .int (S.1 6)), (15, .int (nI rr)), (14, .int (nI e)), (13, .int D9), (12, .int (nI a)), (11, .int (nI c)), (10, .int (nI kd)), (9, .int (nI ct)), (7, .long (sumF S c t q)), (6, .int (nI i)), (5, .int pd), (4, .int (nI k)), (3, .int (nI made)), (2, .ref z), (1, .ref ((ad 0) 0)), (0, .ref b)]) F.x F.b dL_law_330 hl (by decide) rfl (fun ls hl => ?_)
          refine lv_iload F.x F.b dL_law_332 (lv_at hl 0 rfl) ?_
          refine lv_iload F.x F.b dL_law_334 (lv_at hl 2 rfl) ?_
          refine lv_if_eq (tgt := 417) F.x F.b dL_law_336 (by decide) (fun _ => ?_) (fun c9 => absurd rfl c9)
          refine lv_iconst (v := 1) F.x F.b dL_law_417 (by decide) ?_
          refine lv_goto (tgt := 422) F.x F.b dL_law_418 (by decide) ?_
          refine lv_iand F.x F.b dL_law_422 ?_
          rw [show ((1 : Int32) &&& 1) = 1 from by decide]
          refine lv_istore (lv' := [(25, .int 1), (24, .int 0), (23, .int 0), (22, .int 0), (21, .int (nI r)), (20, .int (nI mo)), (19, .int (nI q)), (18, .int Q9), (17, .int (S.1 3)), (16, .int (S.1 6)), (15, .int (nI rr)), (14, .int (nI e)), (13, .int D9), (12, .int (nI a)), (11, .int (nI c)), (10, .int (nI kd)), (9, .int (nI ct)), (7, .long (sumF S c t q)), (6, .int (nI i)), (5, .int pd), (4, .int (nI k)), (3, .int (nI made)), (2, .ref z), (1, .ref ((ad 0) 0)), (0, .ref b)]) F.x F.b dL_law_423 hl (by decide) rfl (fun ls hl => ?_)
          refine lv_iload F.x F.b dL_law_425 (lv_at hl 0 rfl) ?_
          refine lv_iload F.x F.b dL_law_427 (lv_at hl 1 rfl) ?_
          refine lv_if_eq (tgt := 459) F.x F.b dL_law_429 (by decide) (fun _ => ?_) (fun c9 => absurd rfl c9)
          refine lv_iconst (v := 1) F.x F.b dL_law_459 (by decide) ?_
          refine lv_goto (tgt := 464) F.x F.b dL_law_460 (by decide) ?_
          refine lv_iand F.x F.b dL_law_464 ?_
          rw [show ((1 : Int32) &&& 1) = 1 from by decide]
          refine lv_istore (lv' := [(25, .int 1), (24, .int 0), (23, .int 0), (22, .int 0), (21, .int (nI r)), (20, .int (nI mo)), (19, .int (nI q)), (18, .int Q9), (17, .int (S.1 3)), (16, .int (S.1 6)), (15, .int (nI rr)), (14, .int (nI e)), (13, .int D9), (12, .int (nI a)), (11, .int (nI c)), (10, .int (nI kd)), (9, .int (nI ct)), (7, .long (sumF S c t q)), (6, .int (nI i)), (5, .int pd), (4, .int (nI k)), (3, .int (nI made)), (2, .ref z), (1, .ref ((ad 0) 0)), (0, .ref b)]) F.x F.b dL_law_465 hl (by decide) rfl (fun ls hl => ?_)
          refine lv_iload F.x F.b dL_law_467 (lv_at hl 19 rfl) ?_
          refine lv_iload F.x F.b dL_law_469 (lv_at hl 15 rfl) ?_
          refine lv_bipush (v := 8) F.x F.b dL_law_471 (by decide) ?_
          refine lv_icmp_le (tgt := 500) F.x F.b dL_law_473 (by decide) (fun c9 => absurd c9 (show ¬ nI kd ≤ 8 from fun z => absurd ((nI_leI (a := kd) (b := 8) (by omega) (by omega)).mp z) (by omega))) (fun _ => ?_)
          refine lv_iload F.x F.b dL_law_476 (lv_at hl 15 rfl) ?_
          refine lv_bipush (v := 11) F.x F.b dL_law_478 (by decide) ?_
          refine lv_icmp_ge (tgt := 500) F.x F.b dL_law_480 (by decide) (fun c9 => absurd c9 (show ¬ (11 : Int32) ≤ nI kd from fun z => absurd ((nI_leI (a := 11) (b := kd) (by omega) (by omega)).mp z) (by omega))) (fun _ => ?_)
          refine lv_iload F.x F.b dL_law_483 (lv_at hl 4 rfl) ?_
          refine lv_bipush (v := (-70)) F.x F.b dL_law_485 (by decide) ?_
          refine lv_icmp_le (tgt := 500) F.x F.b dL_law_487 (by decide) (fun c9 => absurd c9 (n70 hr9)) (fun _ => ?_)
          refine lv_aload_n F.x F.b dL_law_490 rfl (lv_at hl 23 rfl) ?_
          refine kXi F w hst (LC := [wXo G.2.1 (ad 0) (xF ad) .null K9, wSh G.2.1 (ad 1) S9]) (LR := [[(z, .inl (G.2.1 4, 80, .inr (.inl sm)))], wSh G.2.1 (ad 2) Fc, wTe G.2.1 (ad 4) C9, wSb G.2.1 (ad 5) ou, wAd G.2.1 (ad 6) D8, wAb G.2.1 (ad 7) B, wHo G.2.1 (ad 3) (nxt cu) (cap ct) (hput hs cu (b9, P9)), hsL G.2.1 (hput hs cu (b9, P9))]) (As := []) (rest := [.int pd]) ((t_X6_bond F.1 (x := ad 0) (a := ad 1) (rf := xF ad) (sv := .null) rfl (show f_X6_bond K9 S9 = some (S9.1 3) from rfl)).toX : CX G yX6_bond cX6_bond 1 .int 0 0 0 0 [.ref ((ad 0) 0)] (fl [wXo G.2.1 (ad 0) (xF ad) .null K9, wSh G.2.1 (ad 1) S9]) _ _) m_X6_bond v_X6_bond q311 (ci := 10) (q0 := 1) rfl rfl rfl 10 [1, 2, 0, 3, 4, 5, 6, 7, 8, 9] rfl rfl rfl ⟨Nat.le_of_ble_eq_true rfl, Nat.le_of_ble_eq_true rfl⟩ rfl hl.1 rfl (Nat.le_of_ble_eq_true rfl) dL_law_491 ⟨by show _ ≤ 660961; omega, by show _ ≤ 7109381; omega⟩ (fun _ _ _ _ _ _ hx => False.elim hx) (fun r9 w1 H locs h9 w => ?_)
          obtain ⟨rfl, h9⟩ := h9
          have w := w.jn (L1 := [wXo G.2.1 (ad 0) (xF ad) .null K9, wSh G.2.1 (ad 1) S9]) (L' := [[(z, .inl (G.2.1 4, 80, .inr (.inl sm)))], wXo G.2.1 (ad 0) (xF ad) .null K9, wSh G.2.1 (ad 1) S9, wSh G.2.1 (ad 2) Fc, wTe G.2.1 (ad 4) C9, wSb G.2.1 (ad 5) ou, wAd G.2.1 (ad 6) D8, wAb G.2.1 (ad 7) B, wHo G.2.1 (ad 3) (nxt cu) (cap ct) (hput hs cu (b9, P9)), hsL G.2.1 (hput hs cu (b9, P9))]) h9 10 [2, 0, 1, 3, 4, 5, 6, 7, 8, 9] rfl rfl rfl
          refine lv_iload F.x F.b dL_law_494 (lv_at hl 8 rfl) ?_
          refine lv_isub F.x F.b dL_law_496 ?_
          refine lv_goto (tgt := 501) F.x F.b dL_law_497 (by decide) ?_
          refine lv_iadd F.x F.b dL_law_501 ?_
          refine lv_istore (lv' := [(5, .int (pd + ((S9.1 3) - (S.1 3)))), (25, .int 1), (24, .int 0), (23, .int 0), (22, .int 0), (21, .int (nI r)), (20, .int (nI mo)), (19, .int (nI q)), (18, .int Q9), (17, .int (S.1 3)), (16, .int (S.1 6)), (15, .int (nI rr)), (14, .int (nI e)), (13, .int D9), (12, .int (nI a)), (11, .int (nI c)), (10, .int (nI kd)), (9, .int (nI ct)), (7, .long (sumF S c t q)), (6, .int (nI i)), (4, .int (nI k)), (3, .int (nI made)), (2, .ref z), (1, .ref ((ad 0) 0)), (0, .ref b)]) F.x F.b dL_law_502 hl (by decide) rfl (fun ls hl => ?_)
          have hpd9 : S9.1 3 + S9.1 4 = pd + (S9.1 3 - S.1 3) := by rw [e4, ← hpd]; exact pd_dep
          refine K504 (nI r) (pd + (S9.1 3 - S.1 3)) K9 S9 C9 _ _ _ (nxt cu) (cap ct) c9 t9 q9 (hput hs cu (b9, P9)) _ _ _ H locs ls g9 (nxt9 hI.1) hpd9 (KB _ hpd9) (by omega) (by omega) w (lv_sub hl [1, 5, 17, 18, 19, 0, 20, 21, 22, 23, 24] rfl)
        · have e4 := hye.1 (by omega)
          have e3 := hye.2.1 (by omega) (by omega) (by omega)
          obtain ⟨hq0, hq1, hq2, pp, hp, hid, hsd⟩ := hye.2.2.2.1 (by omega)
          have hc9 := g9.c16
          have hsl : f_X3_slotWith S9 (nI r) = some (nI pp) := by rw [← hid]; exact g9.slot hp
          refine lv_istore (lv' := [(21, .int (nI r)), (20, .int (nI mo)), (19, .int (nI q)), (18, .int Q9), (17, .int (S.1 3)), (16, .int (S.1 6)), (15, .int (nI rr)), (14, .int (nI e)), (13, .int D9), (12, .int (nI a)), (11, .int (nI c)), (10, .int (nI kd)), (9, .int (nI ct)), (7, .long (sumF S c t q)), (6, .int (nI i)), (5, .int pd), (4, .int (nI k)), (3, .int (nI made)), (2, .ref z), (1, .ref ((ad 0) 0)), (0, .ref b)]) F.x F.b dL_law_215 hl (by decide) rfl (fun ls hl => ?_)
          refine lv_iload F.x F.b dL_law_217 (lv_at hl 11 rfl) ?_
          refine lv_bipush (v := 12) F.x F.b dL_law_219 (by decide) ?_
          refine lv_icmp_le (tgt := 242) F.x F.b dL_law_221 (by decide) (fun _ => ?_) (fun c9 => absurd (show nI kd ≤ 12 from (nI_leI (a := kd) (b := 12) (by omega) (by omega)).mpr (by omega)) c9)
          refine lv_iconst (v := 0) F.x F.b dL_law_242 (by decide) ?_
          refine lv_istore (lv' := [(22, .int 0), (21, .int (nI r)), (20, .int (nI mo)), (19, .int (nI q)), (18, .int Q9), (17, .int (S.1 3)), (16, .int (S.1 6)), (15, .int (nI rr)), (14, .int (nI e)), (13, .int D9), (12, .int (nI a)), (11, .int (nI c)), (10, .int (nI kd)), (9, .int (nI ct)), (7, .long (sumF S c t q)), (6, .int (nI i)), (5, .int pd), (4, .int (nI k)), (3, .int (nI made)), (2, .ref z), (1, .ref ((ad 0) 0)), (0, .ref b)]) F.x F.b dL_law_243 hl (by decide) rfl (fun ls hl => ?_)
          refine lv_iload F.x F.b dL_law_245 (lv_at hl 12 rfl) ?_
          refine lv_bipush (v := 43) F.x F.b dL_law_247 (by decide) ?_
          refine lv_icmp_le (tgt := 256) F.x F.b dL_law_249 (by decide) (fun _ => ?_) (fun c9 => absurd (show nI kd ≤ 43 from (nI_leI (a := kd) (b := 43) (by omega) (by omega)).mpr (by omega)) c9)
          refine lv_iconst (v := 0) F.x F.b dL_law_256 (by decide) ?_
          refine lv_istore (lv' := [(23, .int 0), (22, .int 0), (21, .int (nI r)), (20, .int (nI mo)), (19, .int (nI q)), (18, .int Q9), (17, .int (S.1 3)), (16, .int (S.1 6)), (15, .int (nI rr)), (14, .int (nI e)), (13, .int D9), (12, .int (nI a)), (11, .int (nI c)), (10, .int (nI kd)), (9, .int (nI ct)), (7, .long (sumF S c t q)), (6, .int (nI i)), (5, .int pd), (4, .int (nI k)), (3, .int (nI made)), (2, .ref z), (1, .ref ((ad 0) 0)), (0, .ref b)]) F.x F.b dL_law_257 hl (by decide) rfl (fun ls hl => ?_)
          refine lv_iload F.x F.b dL_law_259 (lv_at hl 13 rfl) ?_
          refine lv_bipush (v := 8) F.x F.b dL_law_261 (by decide) ?_
          refine lv_icmp_eq (tgt := 273) F.x F.b dL_law_263 (by decide) (fun c9 => absurd c9 (show ¬ nI kd = 8 from fun z => absurd ((nI_eq (a := kd) (b := 8) (by omega) (by omega)).mp z) (by omega))) (fun _ => ?_)
          refine lv_iload F.x F.b dL_law_266 (lv_at hl 13 rfl) ?_
          refine lv_bipush (v := 11) F.x F.b dL_law_268 (by decide) ?_
          refine lv_icmp_ne (tgt := 284) F.x F.b dL_law_270 (by decide) (fun c9 => absurd (show nI kd = 11 from (nI_eq (a := kd) (b := 11) (by omega) (by omega)).mpr (by omega)) c9) (fun _ => ?_)
          refine lv_iload F.x F.b dL_law_273 (lv_at hl 2 rfl) ?_
          refine lv_bipush (v := (-70)) F.x F.b dL_law_275 (by decide) ?_
          refine lv_icmp_le (tgt := 284) F.x F.b dL_law_277 (by decide) (fun c9 => absurd c9 (n70 hr9)) (fun _ => ?_)
          refine lv_iconst (v := 1) F.x F.b dL_law_280 (by decide) ?_
          refine lv_goto (tgt := 285) F.x F.b dL_law_281 (by decide) ?_
          refine lv_istore (lv' := [(24, .int 1), (23, .int 0), (22, .int 0), (21, .int (nI r)), (20, .int (nI mo)), (19, .int (nI q)), (18, .int Q9), (17, .int (S.1 3)), (16, .int (S.1 6)), (15, .int (nI rr)), (14, .int (nI e)), (13, .int D9), (12, .int (nI a)), (11, .int (nI c)), (10, .int (nI kd)), (9, .int (nI ct)), (7, .long (sumF S c t q)), (6, .int (nI i)), (5, .int pd), (4, .int (nI k)), (3, .int (nI made)), (2, .ref z), (1, .ref ((ad 0) 0)), (0, .ref b)]) F.x F.b dL_law_285 hl (by decide) rfl (fun ls hl => ?_)
          refine lv_iload F.x F.b dL_law_287 (lv_at hl 2 rfl) ?_
          refine lv_if_eq (tgt := 325) F.x F.b dL_law_289 (by decide) (fun _ => ?_) (fun c9 => absurd rfl c9)
          refine lv_iconst (v := 1) F.x F.b dL_law_325 (by decide) ?_
          refine lv_goto (tgt := 330) F.x F.b dL_law_326 (by decide) ?_
          refine lv_istore (lv' := [(25, .int 1), (24, .int 1), (23, .int 0), (22, .int 0), (21, .int (nI r)), (20, .int (nI mo)), (19, .int (nI q)), (18, .int Q9), (17, .int (S.1 3)), (16, .int (S.1 6)), (15, .int (nI rr)), (14, .int (nI e)), (13, .int D9), (12, .int (nI a)), (11, .int (nI c)), (10, .int (nI kd)), (9, .int (nI ct)), (7, .long (sumF S c t q)), (6, .int (nI i)), (5, .int pd), (4, .int (nI k)), (3, .int (nI made)), (2, .ref z), (1, .ref ((ad 0) 0)), (0, .ref b)]) F.x F.b dL_law_330 hl (by decide) rfl (fun ls hl => ?_)
          refine lv_iload F.x F.b dL_law_332 (lv_at hl 0 rfl) ?_
          refine lv_iload F.x F.b dL_law_334 (lv_at hl 2 rfl) ?_
          refine lv_if_eq (tgt := 417) F.x F.b dL_law_336 (by decide) (fun _ => ?_) (fun c9 => absurd rfl c9)
          refine lv_iconst (v := 1) F.x F.b dL_law_417 (by decide) ?_
          refine lv_goto (tgt := 422) F.x F.b dL_law_418 (by decide) ?_
          refine lv_iand F.x F.b dL_law_422 ?_
          rw [show ((1 : Int32) &&& 1) = 1 from by decide]
          refine lv_istore (lv' := [(25, .int 1), (24, .int 1), (23, .int 0), (22, .int 0), (21, .int (nI r)), (20, .int (nI mo)), (19, .int (nI q)), (18, .int Q9), (17, .int (S.1 3)), (16, .int (S.1 6)), (15, .int (nI rr)), (14, .int (nI e)), (13, .int D9), (12, .int (nI a)), (11, .int (nI c)), (10, .int (nI kd)), (9, .int (nI ct)), (7, .long (sumF S c t q)), (6, .int (nI i)), (5, .int pd), (4, .int (nI k)), (3, .int (nI made)), (2, .ref z), (1, .ref ((ad 0) 0)), (0, .ref b)]) F.x F.b dL_law_423 hl (by decide) rfl (fun ls hl => ?_)
          refine lv_iload F.x F.b dL_law_425 (lv_at hl 0 rfl) ?_
          refine lv_iload F.x F.b dL_law_427 (lv_at hl 1 rfl) ?_
          refine lv_if_eq (tgt := 459) F.x F.b dL_law_429 (by decide) (fun c9 => absurd c9 (by decide)) (fun _ => ?_)
          refine lv_iload F.x F.b dL_law_432 (lv_at hl 4 rfl) ?_
          refine lv_iload F.x F.b dL_law_434 (lv_at hl 7 rfl) ?_
          refine lv_icmp_ne (tgt := 463) F.x F.b dL_law_436 (by decide) (fun c9 => absurd (show nI r = Q9 from by rw [hQ9 hq0, hq2]) c9) (fun _ => ?_)
          refine lv_aload_n F.x F.b dL_law_439 rfl (lv_at hl 23 rfl) ?_
          refine lv_iload F.x F.b dL_law_440 (lv_at hl 4 rfl) ?_
          refine kLi F w hst (LC := [wXo G.2.1 (ad 0) (xF ad) .null K9, wSh G.2.1 (ad 1) S9]) (LR := [[(z, .inl (G.2.1 4, 80, .inr (.inl sm)))], wSh G.2.1 (ad 2) Fc, wTe G.2.1 (ad 4) C9, wSb G.2.1 (ad 5) ou, wAd G.2.1 (ad 6) D8, wAb G.2.1 (ad 7) B, wHo G.2.1 (ad 3) (nxt cu) (cap ct) (hput hs cu (b9, P9)), hsL G.2.1 (hput hs cu (b9, P9))]) (As := [.ref ((ad 0) 0), .int (nI r)]) (rest := [.int 1]) (l_isSealed_ok F.1 hsl (by omega) (Or.inl hsd)) mh_isSealed vh_isSealed (List.mem_of_getElem? (i := 503) (by decide +kernel)) 10 [1, 2, 0, 3, 4, 5, 6, 7, 8, 9] rfl rfl rfl ⟨Nat.le_of_ble_eq_true rfl, Nat.le_of_ble_eq_true rfl⟩ rfl hl.1 rfl (Nat.le_of_ble_eq_true rfl) dL_law_442 ⟨by show _ ≤ 660961; omega, by show _ ≤ 7109381; omega⟩ (fun r9 w1 H locs h9 w => ?_)
          obtain ⟨rfl, h9⟩ := h9
          have w := w.jn (L1 := [wXo G.2.1 (ad 0) (xF ad) .null K9, wSh G.2.1 (ad 1) S9]) (L' := [[(z, .inl (G.2.1 4, 80, .inr (.inl sm)))], wXo G.2.1 (ad 0) (xF ad) .null K9, wSh G.2.1 (ad 1) S9, wSh G.2.1 (ad 2) Fc, wTe G.2.1 (ad 4) C9, wSb G.2.1 (ad 5) ou, wAd G.2.1 (ad 6) D8, wAb G.2.1 (ad 7) B, wHo G.2.1 (ad 3) (nxt cu) (cap ct) (hput hs cu (b9, P9)), hsL G.2.1 (hput hs cu (b9, P9))]) h9 10 [2, 0, 1, 3, 4, 5, 6, 7, 8, 9] rfl rfl rfl
          rw [show ((S9.2 5 pp) : Int32) = 0 from hsd]
          refine lv_if_ne (tgt := 463) F.x F.b dL_law_445 (by decide) (fun c9 => absurd rfl c9) (fun _ => ?_)
          refine lv_aload_n F.x F.b dL_law_448 rfl (lv_at hl 23 rfl) ?_
          refine kXi F w hst (LC := [wXo G.2.1 (ad 0) (xF ad) .null K9, wSh G.2.1 (ad 1) S9]) (LR := [[(z, .inl (G.2.1 4, 80, .inr (.inl sm)))], wSh G.2.1 (ad 2) Fc, wTe G.2.1 (ad 4) C9, wSb G.2.1 (ad 5) ou, wAd G.2.1 (ad 6) D8, wAb G.2.1 (ad 7) B, wHo G.2.1 (ad 3) (nxt cu) (cap ct) (hput hs cu (b9, P9)), hsL G.2.1 (hput hs cu (b9, P9))]) (As := []) (rest := [.int 1]) ((t_X6_queueLength F.1 (x := ad 0) (a := ad 1) (rf := xF ad) (sv := .null) rfl (show f_X6_queueLength K9 S9 = some (S9.1 7) from rfl)).toX : CX G yX6_queueLength cX6_queueLength 1 .int 0 0 0 0 [.ref ((ad 0) 0)] (fl [wXo G.2.1 (ad 0) (xF ad) .null K9, wSh G.2.1 (ad 1) S9]) _ _) m_X6_queueLength v_X6_queueLength q307 (ci := 10) (q0 := 1) rfl rfl rfl 10 [1, 2, 0, 3, 4, 5, 6, 7, 8, 9] rfl rfl rfl ⟨Nat.le_of_ble_eq_true rfl, Nat.le_of_ble_eq_true rfl⟩ rfl hl.1 rfl (Nat.le_of_ble_eq_true rfl) dL_law_449 ⟨by show _ ≤ 660961; omega, by show _ ≤ 7109381; omega⟩ (fun _ _ _ _ _ _ hx => False.elim hx) (fun r9 w1 H locs h9 w => ?_)
          obtain ⟨rfl, h9⟩ := h9
          have w := w.jn (L1 := [wXo G.2.1 (ad 0) (xF ad) .null K9, wSh G.2.1 (ad 1) S9]) (L' := [[(z, .inl (G.2.1 4, 80, .inr (.inl sm)))], wXo G.2.1 (ad 0) (xF ad) .null K9, wSh G.2.1 (ad 1) S9, wSh G.2.1 (ad 2) Fc, wTe G.2.1 (ad 4) C9, wSb G.2.1 (ad 5) ou, wAd G.2.1 (ad 6) D8, wAb G.2.1 (ad 7) B, wHo G.2.1 (ad 3) (nxt cu) (cap ct) (hput hs cu (b9, P9)), hsL G.2.1 (hput hs cu (b9, P9))]) h9 10 [2, 0, 1, 3, 4, 5, 6, 7, 8, 9] rfl rfl rfl
          rw [show ((S9.1 7) : Int32) = (nI q9) from g9.q1]
          refine lv_iload F.x F.b dL_law_452 (lv_at hl 6 rfl) ?_
          refine lv_iconst (v := 1) F.x F.b dL_law_454 (by decide) ?_
          refine lv_isub F.x F.b dL_law_455 ?_
          refine lv_icmp_ne (tgt := 463) F.x F.b dL_law_456 (by decide) (fun c9 => absurd (show nI q9 = nI q - 1 from by rw [m_one (by omega), hq1]) c9) (fun _ => ?_)
          refine lv_iconst (v := 1) F.x F.b dL_law_459 (by decide) ?_
          refine lv_goto (tgt := 464) F.x F.b dL_law_460 (by decide) ?_
          refine lv_iand F.x F.b dL_law_464 ?_
          rw [show ((1 : Int32) &&& 1) = 1 from by decide]
          refine lv_istore (lv' := [(25, .int 1), (24, .int 1), (23, .int 0), (22, .int 0), (21, .int (nI r)), (20, .int (nI mo)), (19, .int (nI q)), (18, .int Q9), (17, .int (S.1 3)), (16, .int (S.1 6)), (15, .int (nI rr)), (14, .int (nI e)), (13, .int D9), (12, .int (nI a)), (11, .int (nI c)), (10, .int (nI kd)), (9, .int (nI ct)), (7, .long (sumF S c t q)), (6, .int (nI i)), (5, .int pd), (4, .int (nI k)), (3, .int (nI made)), (2, .ref z), (1, .ref ((ad 0) 0)), (0, .ref b)]) F.x F.b dL_law_465 hl (by decide) rfl (fun ls hl => ?_)
          refine lv_iload F.x F.b dL_law_467 (lv_at hl 19 rfl) ?_
          refine lv_iload F.x F.b dL_law_469 (lv_at hl 15 rfl) ?_
          refine lv_bipush (v := 8) F.x F.b dL_law_471 (by decide) ?_
          refine lv_icmp_le (tgt := 500) F.x F.b dL_law_473 (by decide) (fun c9 => absurd c9 (show ¬ nI kd ≤ 8 from fun z => absurd ((nI_leI (a := kd) (b := 8) (by omega) (by omega)).mp z) (by omega))) (fun _ => ?_)
          refine lv_iload F.x F.b dL_law_476 (lv_at hl 15 rfl) ?_
          refine lv_bipush (v := 11) F.x F.b dL_law_478 (by decide) ?_
          refine lv_icmp_ge (tgt := 500) F.x F.b dL_law_480 (by decide) (fun _ => ?_) (fun c9 => absurd (show (11 : Int32) ≤ nI kd from (nI_leI (a := 11) (b := kd) (by omega) (by omega)).mpr (by omega)) c9)
          refine lv_iconst (v := 0) F.x F.b dL_law_500 (by decide) ?_
          refine lv_iadd F.x F.b dL_law_501 ?_
          refine lv_istore (lv' := [(5, .int (pd + 0)), (25, .int 1), (24, .int 1), (23, .int 0), (22, .int 0), (21, .int (nI r)), (20, .int (nI mo)), (19, .int (nI q)), (18, .int Q9), (17, .int (S.1 3)), (16, .int (S.1 6)), (15, .int (nI rr)), (14, .int (nI e)), (13, .int D9), (12, .int (nI a)), (11, .int (nI c)), (10, .int (nI kd)), (9, .int (nI ct)), (7, .long (sumF S c t q)), (6, .int (nI i)), (4, .int (nI k)), (3, .int (nI made)), (2, .ref z), (1, .ref ((ad 0) 0)), (0, .ref b)]) F.x F.b dL_law_502 hl (by decide) rfl (fun ls hl => ?_)
          have hpd9 : S9.1 3 + S9.1 4 = pd + 0 := by rw [e3, e4, hpd]; exact (Int32.add_zero pd).symm
          refine K504 (nI r) (pd + 0) K9 S9 C9 _ _ _ (nxt cu) (cap ct) c9 t9 q9 (hput hs cu (b9, P9)) _ _ _ H locs ls g9 (nxt9 hI.1) hpd9 (KB _ hpd9) (by omega) (by omega) w (lv_sub hl [1, 5, 17, 18, 19, 0, 20, 21, 22, 23, 24] rfl)
        · have e4 := hye.1 (by omega)
          have e3 := hye.2.1 (by omega) (by omega) (by omega)
          refine lv_istore (lv' := [(21, .int (nI r)), (20, .int (nI mo)), (19, .int (nI q)), (18, .int Q9), (17, .int (S.1 3)), (16, .int (S.1 6)), (15, .int (nI rr)), (14, .int (nI e)), (13, .int D9), (12, .int (nI a)), (11, .int (nI c)), (10, .int (nI kd)), (9, .int (nI ct)), (7, .long (sumF S c t q)), (6, .int (nI i)), (5, .int pd), (4, .int (nI k)), (3, .int (nI made)), (2, .ref z), (1, .ref ((ad 0) 0)), (0, .ref b)]) F.x F.b dL_law_215 hl (by decide) rfl (fun ls hl => ?_)
          refine lv_iload F.x F.b dL_law_217 (lv_at hl 11 rfl) ?_
          refine lv_bipush (v := 12) F.x F.b dL_law_219 (by decide) ?_
          refine lv_icmp_le (tgt := 242) F.x F.b dL_law_221 (by decide) (fun _ => ?_) (fun c9 => absurd (show nI kd ≤ 12 from (nI_leI (a := kd) (b := 12) (by omega) (by omega)).mpr (by omega)) c9)
          refine lv_iconst (v := 0) F.x F.b dL_law_242 (by decide) ?_
          refine lv_istore (lv' := [(22, .int 0), (21, .int (nI r)), (20, .int (nI mo)), (19, .int (nI q)), (18, .int Q9), (17, .int (S.1 3)), (16, .int (S.1 6)), (15, .int (nI rr)), (14, .int (nI e)), (13, .int D9), (12, .int (nI a)), (11, .int (nI c)), (10, .int (nI kd)), (9, .int (nI ct)), (7, .long (sumF S c t q)), (6, .int (nI i)), (5, .int pd), (4, .int (nI k)), (3, .int (nI made)), (2, .ref z), (1, .ref ((ad 0) 0)), (0, .ref b)]) F.x F.b dL_law_243 hl (by decide) rfl (fun ls hl => ?_)
          refine lv_iload F.x F.b dL_law_245 (lv_at hl 12 rfl) ?_
          refine lv_bipush (v := 43) F.x F.b dL_law_247 (by decide) ?_
          refine lv_icmp_le (tgt := 256) F.x F.b dL_law_249 (by decide) (fun _ => ?_) (fun c9 => absurd (show nI kd ≤ 43 from (nI_leI (a := kd) (b := 43) (by omega) (by omega)).mpr (by omega)) c9)
          refine lv_iconst (v := 0) F.x F.b dL_law_256 (by decide) ?_
          refine lv_istore (lv' := [(23, .int 0), (22, .int 0), (21, .int (nI r)), (20, .int (nI mo)), (19, .int (nI q)), (18, .int Q9), (17, .int (S.1 3)), (16, .int (S.1 6)), (15, .int (nI rr)), (14, .int (nI e)), (13, .int D9), (12, .int (nI a)), (11, .int (nI c)), (10, .int (nI kd)), (9, .int (nI ct)), (7, .long (sumF S c t q)), (6, .int (nI i)), (5, .int pd), (4, .int (nI k)), (3, .int (nI made)), (2, .ref z), (1, .ref ((ad 0) 0)), (0, .ref b)]) F.x F.b dL_law_257 hl (by decide) rfl (fun ls hl => ?_)
          refine lv_iload F.x F.b dL_law_259 (lv_at hl 13 rfl) ?_
          refine lv_bipush (v := 8) F.x F.b dL_law_261 (by decide) ?_
          refine lv_icmp_eq (tgt := 273) F.x F.b dL_law_263 (by decide) (fun c9 => absurd c9 (show ¬ nI kd = 8 from fun z => absurd ((nI_eq (a := kd) (b := 8) (by omega) (by omega)).mp z) (by omega))) (fun _ => ?_)
          refine lv_iload F.x F.b dL_law_266 (lv_at hl 13 rfl) ?_
          refine lv_bipush (v := 11) F.x F.b dL_law_268 (by decide) ?_
          refine lv_icmp_ne (tgt := 284) F.x F.b dL_law_270 (by decide) (fun _ => ?_) (fun c9 => absurd c9 (show ¬ nI kd = 11 from fun z => absurd ((nI_eq (a := kd) (b := 11) (by omega) (by omega)).mp z) (by omega)))
          refine lv_iconst (v := 0) F.x F.b dL_law_284 (by decide) ?_
          refine lv_istore (lv' := [(24, .int 0), (23, .int 0), (22, .int 0), (21, .int (nI r)), (20, .int (nI mo)), (19, .int (nI q)), (18, .int Q9), (17, .int (S.1 3)), (16, .int (S.1 6)), (15, .int (nI rr)), (14, .int (nI e)), (13, .int D9), (12, .int (nI a)), (11, .int (nI c)), (10, .int (nI kd)), (9, .int (nI ct)), (7, .long (sumF S c t q)), (6, .int (nI i)), (5, .int pd), (4, .int (nI k)), (3, .int (nI made)), (2, .ref z), (1, .ref ((ad 0) 0)), (0, .ref b)]) F.x F.b dL_law_285 hl (by decide) rfl (fun ls hl => ?_)
          refine lv_iload F.x F.b dL_law_287 (lv_at hl 2 rfl) ?_
          refine lv_if_eq (tgt := 325) F.x F.b dL_law_289 (by decide) (fun _ => ?_) (fun c9 => absurd rfl c9)
          refine lv_iconst (v := 1) F.x F.b dL_law_325 (by decide) ?_
          refine lv_goto (tgt := 330) F.x F.b dL_law_326 (by decide) ?_
          refine lv_istore (lv' := [(25, .int 1), (24, .int 0), (23, .int 0), (22, .int 0), (21, .int (nI r)), (20, .int (nI mo)), (19, .int (nI q)), (18, .int Q9), (17, .int (S.1 3)), (16, .int (S.1 6)), (15, .int (nI rr)), (14, .int (nI e)), (13, .int D9), (12, .int (nI a)), (11, .int (nI c)), (10, .int (nI kd)), (9, .int (nI ct)), (7, .long (sumF S c t q)), (6, .int (nI i)), (5, .int pd), (4, .int (nI k)), (3, .int (nI made)), (2, .ref z), (1, .ref ((ad 0) 0)), (0, .ref b)]) F.x F.b dL_law_330 hl (by decide) rfl (fun ls hl => ?_)
          refine lv_iload F.x F.b dL_law_332 (lv_at hl 0 rfl) ?_
          refine lv_iload F.x F.b dL_law_334 (lv_at hl 2 rfl) ?_
          refine lv_if_eq (tgt := 417) F.x F.b dL_law_336 (by decide) (fun _ => ?_) (fun c9 => absurd rfl c9)
          refine lv_iconst (v := 1) F.x F.b dL_law_417 (by decide) ?_
          refine lv_goto (tgt := 422) F.x F.b dL_law_418 (by decide) ?_
          refine lv_iand F.x F.b dL_law_422 ?_
          rw [show ((1 : Int32) &&& 1) = 1 from by decide]
          refine lv_istore (lv' := [(25, .int 1), (24, .int 0), (23, .int 0), (22, .int 0), (21, .int (nI r)), (20, .int (nI mo)), (19, .int (nI q)), (18, .int Q9), (17, .int (S.1 3)), (16, .int (S.1 6)), (15, .int (nI rr)), (14, .int (nI e)), (13, .int D9), (12, .int (nI a)), (11, .int (nI c)), (10, .int (nI kd)), (9, .int (nI ct)), (7, .long (sumF S c t q)), (6, .int (nI i)), (5, .int pd), (4, .int (nI k)), (3, .int (nI made)), (2, .ref z), (1, .ref ((ad 0) 0)), (0, .ref b)]) F.x F.b dL_law_423 hl (by decide) rfl (fun ls hl => ?_)
          refine lv_iload F.x F.b dL_law_425 (lv_at hl 0 rfl) ?_
          refine lv_iload F.x F.b dL_law_427 (lv_at hl 1 rfl) ?_
          refine lv_if_eq (tgt := 459) F.x F.b dL_law_429 (by decide) (fun _ => ?_) (fun c9 => absurd rfl c9)
          refine lv_iconst (v := 1) F.x F.b dL_law_459 (by decide) ?_
          refine lv_goto (tgt := 464) F.x F.b dL_law_460 (by decide) ?_
          refine lv_iand F.x F.b dL_law_464 ?_
          rw [show ((1 : Int32) &&& 1) = 1 from by decide]
          refine lv_istore (lv' := [(25, .int 1), (24, .int 0), (23, .int 0), (22, .int 0), (21, .int (nI r)), (20, .int (nI mo)), (19, .int (nI q)), (18, .int Q9), (17, .int (S.1 3)), (16, .int (S.1 6)), (15, .int (nI rr)), (14, .int (nI e)), (13, .int D9), (12, .int (nI a)), (11, .int (nI c)), (10, .int (nI kd)), (9, .int (nI ct)), (7, .long (sumF S c t q)), (6, .int (nI i)), (5, .int pd), (4, .int (nI k)), (3, .int (nI made)), (2, .ref z), (1, .ref ((ad 0) 0)), (0, .ref b)]) F.x F.b dL_law_465 hl (by decide) rfl (fun ls hl => ?_)
          refine lv_iload F.x F.b dL_law_467 (lv_at hl 19 rfl) ?_
          refine lv_iload F.x F.b dL_law_469 (lv_at hl 15 rfl) ?_
          refine lv_bipush (v := 8) F.x F.b dL_law_471 (by decide) ?_
          refine lv_icmp_le (tgt := 500) F.x F.b dL_law_473 (by decide) (fun c9 => absurd c9 (show ¬ nI kd ≤ 8 from fun z => absurd ((nI_leI (a := kd) (b := 8) (by omega) (by omega)).mp z) (by omega))) (fun _ => ?_)
          refine lv_iload F.x F.b dL_law_476 (lv_at hl 15 rfl) ?_
          refine lv_bipush (v := 11) F.x F.b dL_law_478 (by decide) ?_
          refine lv_icmp_ge (tgt := 500) F.x F.b dL_law_480 (by decide) (fun _ => ?_) (fun c9 => absurd (show (11 : Int32) ≤ nI kd from (nI_leI (a := 11) (b := kd) (by omega) (by omega)).mpr (by omega)) c9)
          refine lv_iconst (v := 0) F.x F.b dL_law_500 (by decide) ?_
          refine lv_iadd F.x F.b dL_law_501 ?_
          refine lv_istore (lv' := [(5, .int (pd + 0)), (25, .int 1), (24, .int 0), (23, .int 0), (22, .int 0), (21, .int (nI r)), (20, .int (nI mo)), (19, .int (nI q)), (18, .int Q9), (17, .int (S.1 3)), (16, .int (S.1 6)), (15, .int (nI rr)), (14, .int (nI e)), (13, .int D9), (12, .int (nI a)), (11, .int (nI c)), (10, .int (nI kd)), (9, .int (nI ct)), (7, .long (sumF S c t q)), (6, .int (nI i)), (4, .int (nI k)), (3, .int (nI made)), (2, .ref z), (1, .ref ((ad 0) 0)), (0, .ref b)]) F.x F.b dL_law_502 hl (by decide) rfl (fun ls hl => ?_)
          have hpd9 : S9.1 3 + S9.1 4 = pd + 0 := by rw [e3, e4, hpd]; exact (Int32.add_zero pd).symm
          refine K504 (nI r) (pd + 0) K9 S9 C9 _ _ _ (nxt cu) (cap ct) c9 t9 q9 (hput hs cu (b9, P9)) _ _ _ H locs ls g9 (nxt9 hI.1) hpd9 (KB _ hpd9) (by omega) (by omega) w (lv_sub hl [1, 5, 17, 18, 19, 0, 20, 21, 22, 23, 24] rfl)
        · have e4 := hye.1 (by omega)
          have e3 := hye.2.1 (by omega) (by omega) (by omega)
          obtain ⟨hp1, hp2, hp3, hp4⟩ := hye.2.2.1 (by omega) (by omega)
          refine lv_istore (lv' := [(21, .int (nI r)), (20, .int (nI mo)), (19, .int (nI q)), (18, .int Q9), (17, .int (S.1 3)), (16, .int (S.1 6)), (15, .int (nI rr)), (14, .int (nI e)), (13, .int D9), (12, .int (nI a)), (11, .int (nI c)), (10, .int (nI kd)), (9, .int (nI ct)), (7, .long (sumF S c t q)), (6, .int (nI i)), (5, .int pd), (4, .int (nI k)), (3, .int (nI made)), (2, .ref z), (1, .ref ((ad 0) 0)), (0, .ref b)]) F.x F.b dL_law_215 hl (by decide) rfl (fun ls hl => ?_)
          refine lv_iload F.x F.b dL_law_217 (lv_at hl 11 rfl) ?_
          refine lv_bipush (v := 12) F.x F.b dL_law_219 (by decide) ?_
          refine lv_icmp_le (tgt := 242) F.x F.b dL_law_221 (by decide) (fun c9 => absurd c9 (show ¬ nI kd ≤ 12 from fun z => absurd ((nI_leI (a := kd) (b := 12) (by omega) (by omega)).mp z) (by omega))) (fun _ => ?_)
          refine lv_iload F.x F.b dL_law_224 (lv_at hl 11 rfl) ?_
          refine lv_bipush (v := 16) F.x F.b dL_law_226 (by decide) ?_
          refine lv_icmp_ge (tgt := 242) F.x F.b dL_law_228 (by decide) (fun c9 => absurd c9 (show ¬ (16 : Int32) ≤ nI kd from fun z => absurd ((nI_leI (a := 16) (b := kd) (by omega) (by omega)).mp z) (by omega))) (fun _ => ?_)
          refine lv_iload F.x F.b dL_law_231 (lv_at hl 0 rfl) ?_
          refine lv_bipush (v := (-70)) F.x F.b dL_law_233 (by decide) ?_
          refine lv_icmp_le (tgt := 242) F.x F.b dL_law_235 (by decide) (fun c9 => absurd c9 (n70 hr9)) (fun _ => ?_)
          refine lv_iconst (v := 1) F.x F.b dL_law_238 (by decide) ?_
          refine lv_goto (tgt := 243) F.x F.b dL_law_239 (by decide) ?_
          refine lv_istore (lv' := [(22, .int 1), (21, .int (nI r)), (20, .int (nI mo)), (19, .int (nI q)), (18, .int Q9), (17, .int (S.1 3)), (16, .int (S.1 6)), (15, .int (nI rr)), (14, .int (nI e)), (13, .int D9), (12, .int (nI a)), (11, .int (nI c)), (10, .int (nI kd)), (9, .int (nI ct)), (7, .long (sumF S c t q)), (6, .int (nI i)), (5, .int pd), (4, .int (nI k)), (3, .int (nI made)), (2, .ref z), (1, .ref ((ad 0) 0)), (0, .ref b)]) F.x F.b dL_law_243 hl (by decide) rfl (fun ls hl => ?_)
          refine lv_iload F.x F.b dL_law_245 (lv_at hl 12 rfl) ?_
          refine lv_bipush (v := 43) F.x F.b dL_law_247 (by decide) ?_
          refine lv_icmp_le (tgt := 256) F.x F.b dL_law_249 (by decide) (fun _ => ?_) (fun c9 => absurd (show nI kd ≤ 43 from (nI_leI (a := kd) (b := 43) (by omega) (by omega)).mpr (by omega)) c9)
          refine lv_iconst (v := 0) F.x F.b dL_law_256 (by decide) ?_
          refine lv_istore (lv' := [(23, .int 0), (22, .int 1), (21, .int (nI r)), (20, .int (nI mo)), (19, .int (nI q)), (18, .int Q9), (17, .int (S.1 3)), (16, .int (S.1 6)), (15, .int (nI rr)), (14, .int (nI e)), (13, .int D9), (12, .int (nI a)), (11, .int (nI c)), (10, .int (nI kd)), (9, .int (nI ct)), (7, .long (sumF S c t q)), (6, .int (nI i)), (5, .int pd), (4, .int (nI k)), (3, .int (nI made)), (2, .ref z), (1, .ref ((ad 0) 0)), (0, .ref b)]) F.x F.b dL_law_257 hl (by decide) rfl (fun ls hl => ?_)
          refine lv_iload F.x F.b dL_law_259 (lv_at hl 13 rfl) ?_
          refine lv_bipush (v := 8) F.x F.b dL_law_261 (by decide) ?_
          refine lv_icmp_eq (tgt := 273) F.x F.b dL_law_263 (by decide) (fun c9 => absurd c9 (show ¬ nI kd = 8 from fun z => absurd ((nI_eq (a := kd) (b := 8) (by omega) (by omega)).mp z) (by omega))) (fun _ => ?_)
          refine lv_iload F.x F.b dL_law_266 (lv_at hl 13 rfl) ?_
          refine lv_bipush (v := 11) F.x F.b dL_law_268 (by decide) ?_
          refine lv_icmp_ne (tgt := 284) F.x F.b dL_law_270 (by decide) (fun _ => ?_) (fun c9 => absurd c9 (show ¬ nI kd = 11 from fun z => absurd ((nI_eq (a := kd) (b := 11) (by omega) (by omega)).mp z) (by omega)))
          refine lv_iconst (v := 0) F.x F.b dL_law_284 (by decide) ?_
          refine lv_istore (lv' := [(24, .int 0), (23, .int 0), (22, .int 1), (21, .int (nI r)), (20, .int (nI mo)), (19, .int (nI q)), (18, .int Q9), (17, .int (S.1 3)), (16, .int (S.1 6)), (15, .int (nI rr)), (14, .int (nI e)), (13, .int D9), (12, .int (nI a)), (11, .int (nI c)), (10, .int (nI kd)), (9, .int (nI ct)), (7, .long (sumF S c t q)), (6, .int (nI i)), (5, .int pd), (4, .int (nI k)), (3, .int (nI made)), (2, .ref z), (1, .ref ((ad 0) 0)), (0, .ref b)]) F.x F.b dL_law_285 hl (by decide) rfl (fun ls hl => ?_)
          refine lv_iload F.x F.b dL_law_287 (lv_at hl 2 rfl) ?_
          refine lv_if_eq (tgt := 325) F.x F.b dL_law_289 (by decide) (fun c9 => absurd c9 (by decide)) (fun _ => ?_)
          refine lv_aload_n F.x F.b dL_law_292 rfl (lv_at hl 22 rfl) ?_
          refine kXi F w hst (LC := [wXo G.2.1 (ad 0) (xF ad) .null K9, wSh G.2.1 (ad 1) S9]) (LR := [[(z, .inl (G.2.1 4, 80, .inr (.inl sm)))], wSh G.2.1 (ad 2) Fc, wTe G.2.1 (ad 4) C9, wSb G.2.1 (ad 5) ou, wAd G.2.1 (ad 6) D8, wAb G.2.1 (ad 7) B, wHo G.2.1 (ad 3) (nxt cu) (cap ct) (hput hs cu (b9, P9)), hsL G.2.1 (hput hs cu (b9, P9))]) (As := []) (rest := []) ((t_X6_dampCount F.1 (x := ad 0) (a := ad 1) (rf := xF ad) (sv := .null) rfl (show f_X6_dampCount K9 S9 = some (nI rr) from by rw [f_X6_dampCount, hda _ _ hp1 hp2]; rfl)).toX : CX G yX6_dampCount cX6_dampCount 1 .int 1 22 0 0 [.ref ((ad 0) 0)] (fl [wXo G.2.1 (ad 0) (xF ad) .null K9, wSh G.2.1 (ad 1) S9]) _ _) m_X6_dampCount v_X6_dampCount q295 (ci := 10) (q0 := 1) rfl rfl rfl 10 [1, 2, 0, 3, 4, 5, 6, 7, 8, 9] rfl rfl rfl ⟨Nat.le_of_ble_eq_true rfl, Nat.le_of_ble_eq_true rfl⟩ rfl hl.1 rfl (Nat.le_of_ble_eq_true rfl) dL_law_293 ⟨by show _ ≤ 660961; omega, by show _ ≤ 7109381; omega⟩ (fun _ _ _ _ _ _ hx => False.elim hx) (fun r9 w1 H locs h9 w => ?_)
          obtain ⟨rfl, h9⟩ := h9
          have w := w.jn (L1 := [wXo G.2.1 (ad 0) (xF ad) .null K9, wSh G.2.1 (ad 1) S9]) (L' := [[(z, .inl (G.2.1 4, 80, .inr (.inl sm)))], wXo G.2.1 (ad 0) (xF ad) .null K9, wSh G.2.1 (ad 1) S9, wSh G.2.1 (ad 2) Fc, wTe G.2.1 (ad 4) C9, wSb G.2.1 (ad 5) ou, wAd G.2.1 (ad 6) D8, wAb G.2.1 (ad 7) B, wHo G.2.1 (ad 3) (nxt cu) (cap ct) (hput hs cu (b9, P9)), hsL G.2.1 (hput hs cu (b9, P9))]) h9 10 [2, 0, 1, 3, 4, 5, 6, 7, 8, 9] rfl rfl rfl
          refine lv_iload F.x F.b dL_law_296 (lv_at hl 9 rfl) ?_
          refine lv_icmp_ne (tgt := 329) F.x F.b dL_law_298 (by decide) (fun c9 => absurd rfl c9) (fun _ => ?_)
          refine lv_aload_n F.x F.b dL_law_301 rfl (lv_at hl 22 rfl) ?_
          refine kXi F w hst (LC := [wXo G.2.1 (ad 0) (xF ad) .null K9, wSh G.2.1 (ad 1) S9]) (LR := [[(z, .inl (G.2.1 4, 80, .inr (.inl sm)))], wSh G.2.1 (ad 2) Fc, wTe G.2.1 (ad 4) C9, wSb G.2.1 (ad 5) ou, wAd G.2.1 (ad 6) D8, wAb G.2.1 (ad 7) B, wHo G.2.1 (ad 3) (nxt cu) (cap ct) (hput hs cu (b9, P9)), hsL G.2.1 (hput hs cu (b9, P9))]) (As := []) (rest := []) ((t_X6_destroyedCount F.1 (x := ad 0) (a := ad 1) (rf := xF ad) (sv := .null) rfl (show f_X6_destroyedCount K9 S9 = some (S9.1 6) from rfl)).toX : CX G yX6_destroyedCount cX6_destroyedCount 1 .int 0 0 0 0 [.ref ((ad 0) 0)] (fl [wXo G.2.1 (ad 0) (xF ad) .null K9, wSh G.2.1 (ad 1) S9]) _ _) m_X6_destroyedCount v_X6_destroyedCount q303 (ci := 10) (q0 := 1) rfl rfl rfl 10 [1, 2, 0, 3, 4, 5, 6, 7, 8, 9] rfl rfl rfl ⟨Nat.le_of_ble_eq_true rfl, Nat.le_of_ble_eq_true rfl⟩ rfl hl.1 rfl (Nat.le_of_ble_eq_true rfl) dL_law_302 ⟨by show _ ≤ 660961; omega, by show _ ≤ 7109381; omega⟩ (fun _ _ _ _ _ _ hx => False.elim hx) (fun r9 w1 H locs h9 w => ?_)
          obtain ⟨rfl, h9⟩ := h9
          have w := w.jn (L1 := [wXo G.2.1 (ad 0) (xF ad) .null K9, wSh G.2.1 (ad 1) S9]) (L' := [[(z, .inl (G.2.1 4, 80, .inr (.inl sm)))], wXo G.2.1 (ad 0) (xF ad) .null K9, wSh G.2.1 (ad 1) S9, wSh G.2.1 (ad 2) Fc, wTe G.2.1 (ad 4) C9, wSb G.2.1 (ad 5) ou, wAd G.2.1 (ad 6) D8, wAb G.2.1 (ad 7) B, wHo G.2.1 (ad 3) (nxt cu) (cap ct) (hput hs cu (b9, P9)), hsL G.2.1 (hput hs cu (b9, P9))]) h9 10 [2, 0, 1, 3, 4, 5, 6, 7, 8, 9] rfl rfl rfl
          refine lv_iload F.x F.b dL_law_305 (lv_at hl 8 rfl) ?_
          refine lv_iload F.x F.b dL_law_307 (lv_at hl 3 rfl) ?_
          refine lv_iadd F.x F.b dL_law_309 ?_
          refine lv_icmp_ne (tgt := 329) F.x F.b dL_law_310 (by decide) (fun c9 => absurd hp4 c9) (fun _ => ?_)
          refine lv_aload_n F.x F.b dL_law_313 rfl (lv_at hl 22 rfl) ?_
          refine kXi F w hst (LC := [wXo G.2.1 (ad 0) (xF ad) .null K9, wSh G.2.1 (ad 1) S9]) (LR := [[(z, .inl (G.2.1 4, 80, .inr (.inl sm)))], wSh G.2.1 (ad 2) Fc, wTe G.2.1 (ad 4) C9, wSb G.2.1 (ad 5) ou, wAd G.2.1 (ad 6) D8, wAb G.2.1 (ad 7) B, wHo G.2.1 (ad 3) (nxt cu) (cap ct) (hput hs cu (b9, P9)), hsL G.2.1 (hput hs cu (b9, P9))]) (As := []) (rest := []) ((t_X6_lotCount F.1 (x := ad 0) (a := ad 1) (rf := xF ad) (sv := .null) rfl (show f_X6_lotCount K9 S9 = some (S9.1 0) from rfl)).toX : CX G yX6_lotCount cX6_lotCount 1 .int 0 0 0 0 [.ref ((ad 0) 0)] (fl [wXo G.2.1 (ad 0) (xF ad) .null K9, wSh G.2.1 (ad 1) S9]) _ _) m_X6_lotCount v_X6_lotCount q291 (ci := 10) (q0 := 1) rfl rfl rfl 10 [1, 2, 0, 3, 4, 5, 6, 7, 8, 9] rfl rfl rfl ⟨Nat.le_of_ble_eq_true rfl, Nat.le_of_ble_eq_true rfl⟩ rfl hl.1 rfl (Nat.le_of_ble_eq_true rfl) dL_law_314 ⟨by show _ ≤ 660961; omega, by show _ ≤ 7109381; omega⟩ (fun _ _ _ _ _ _ hx => False.elim hx) (fun r9 w1 H locs h9 w => ?_)
          obtain ⟨rfl, h9⟩ := h9
          have w := w.jn (L1 := [wXo G.2.1 (ad 0) (xF ad) .null K9, wSh G.2.1 (ad 1) S9]) (L' := [[(z, .inl (G.2.1 4, 80, .inr (.inl sm)))], wXo G.2.1 (ad 0) (xF ad) .null K9, wSh G.2.1 (ad 1) S9, wSh G.2.1 (ad 2) Fc, wTe G.2.1 (ad 4) C9, wSb G.2.1 (ad 5) ou, wAd G.2.1 (ad 6) D8, wAb G.2.1 (ad 7) B, wHo G.2.1 (ad 3) (nxt cu) (cap ct) (hput hs cu (b9, P9)), hsL G.2.1 (hput hs cu (b9, P9))]) h9 10 [2, 0, 1, 3, 4, 5, 6, 7, 8, 9] rfl rfl rfl
          rw [show ((S9.1 0) : Int32) = (nI c9) from g9.c1]
          refine lv_iload F.x F.b dL_law_317 (lv_at hl 13 rfl) ?_
          refine lv_iload F.x F.b dL_law_319 (lv_at hl 3 rfl) ?_
          refine lv_isub F.x F.b dL_law_321 ?_
          refine lv_icmp_ne (tgt := 329) F.x F.b dL_law_322 (by decide) (fun c9 => absurd (sub_r hp3) c9) (fun _ => ?_)
          refine lv_iconst (v := 1) F.x F.b dL_law_325 (by decide) ?_
          refine lv_goto (tgt := 330) F.x F.b dL_law_326 (by decide) ?_
          refine lv_istore (lv' := [(25, .int 1), (24, .int 0), (23, .int 0), (22, .int 1), (21, .int (nI r)), (20, .int (nI mo)), (19, .int (nI q)), (18, .int Q9), (17, .int (S.1 3)), (16, .int (S.1 6)), (15, .int (nI rr)), (14, .int (nI e)), (13, .int D9), (12, .int (nI a)), (11, .int (nI c)), (10, .int (nI kd)), (9, .int (nI ct)), (7, .long (sumF S c t q)), (6, .int (nI i)), (5, .int pd), (4, .int (nI k)), (3, .int (nI made)), (2, .ref z), (1, .ref ((ad 0) 0)), (0, .ref b)]) F.x F.b dL_law_330 hl (by decide) rfl (fun ls hl => ?_)
          refine lv_iload F.x F.b dL_law_332 (lv_at hl 0 rfl) ?_
          refine lv_iload F.x F.b dL_law_334 (lv_at hl 2 rfl) ?_
          refine lv_if_eq (tgt := 417) F.x F.b dL_law_336 (by decide) (fun _ => ?_) (fun c9 => absurd rfl c9)
          refine lv_iconst (v := 1) F.x F.b dL_law_417 (by decide) ?_
          refine lv_goto (tgt := 422) F.x F.b dL_law_418 (by decide) ?_
          refine lv_iand F.x F.b dL_law_422 ?_
          rw [show ((1 : Int32) &&& 1) = 1 from by decide]
          refine lv_istore (lv' := [(25, .int 1), (24, .int 0), (23, .int 0), (22, .int 1), (21, .int (nI r)), (20, .int (nI mo)), (19, .int (nI q)), (18, .int Q9), (17, .int (S.1 3)), (16, .int (S.1 6)), (15, .int (nI rr)), (14, .int (nI e)), (13, .int D9), (12, .int (nI a)), (11, .int (nI c)), (10, .int (nI kd)), (9, .int (nI ct)), (7, .long (sumF S c t q)), (6, .int (nI i)), (5, .int pd), (4, .int (nI k)), (3, .int (nI made)), (2, .ref z), (1, .ref ((ad 0) 0)), (0, .ref b)]) F.x F.b dL_law_423 hl (by decide) rfl (fun ls hl => ?_)
          refine lv_iload F.x F.b dL_law_425 (lv_at hl 0 rfl) ?_
          refine lv_iload F.x F.b dL_law_427 (lv_at hl 1 rfl) ?_
          refine lv_if_eq (tgt := 459) F.x F.b dL_law_429 (by decide) (fun _ => ?_) (fun c9 => absurd rfl c9)
          refine lv_iconst (v := 1) F.x F.b dL_law_459 (by decide) ?_
          refine lv_goto (tgt := 464) F.x F.b dL_law_460 (by decide) ?_
          refine lv_iand F.x F.b dL_law_464 ?_
          rw [show ((1 : Int32) &&& 1) = 1 from by decide]
          refine lv_istore (lv' := [(25, .int 1), (24, .int 0), (23, .int 0), (22, .int 1), (21, .int (nI r)), (20, .int (nI mo)), (19, .int (nI q)), (18, .int Q9), (17, .int (S.1 3)), (16, .int (S.1 6)), (15, .int (nI rr)), (14, .int (nI e)), (13, .int D9), (12, .int (nI a)), (11, .int (nI c)), (10, .int (nI kd)), (9, .int (nI ct)), (7, .long (sumF S c t q)), (6, .int (nI i)), (5, .int pd), (4, .int (nI k)), (3, .int (nI made)), (2, .ref z), (1, .ref ((ad 0) 0)), (0, .ref b)]) F.x F.b dL_law_465 hl (by decide) rfl (fun ls hl => ?_)
          refine lv_iload F.x F.b dL_law_467 (lv_at hl 19 rfl) ?_
          refine lv_iload F.x F.b dL_law_469 (lv_at hl 15 rfl) ?_
          refine lv_bipush (v := 8) F.x F.b dL_law_471 (by decide) ?_
          refine lv_icmp_le (tgt := 500) F.x F.b dL_law_473 (by decide) (fun c9 => absurd c9 (show ¬ nI kd ≤ 8 from fun z => absurd ((nI_leI (a := kd) (b := 8) (by omega) (by omega)).mp z) (by omega))) (fun _ => ?_)
          refine lv_iload F.x F.b dL_law_476 (lv_at hl 15 rfl) ?_
          refine lv_bipush (v := 11) F.x F.b dL_law_478 (by decide) ?_
          refine lv_icmp_ge (tgt := 500) F.x F.b dL_law_480 (by decide) (fun _ => ?_) (fun c9 => absurd (show (11 : Int32) ≤ nI kd from (nI_leI (a := 11) (b := kd) (by omega) (by omega)).mpr (by omega)) c9)
          refine lv_iconst (v := 0) F.x F.b dL_law_500 (by decide) ?_
          refine lv_iadd F.x F.b dL_law_501 ?_
          refine lv_istore (lv' := [(5, .int (pd + 0)), (25, .int 1), (24, .int 0), (23, .int 0), (22, .int 1), (21, .int (nI r)), (20, .int (nI mo)), (19, .int (nI q)), (18, .int Q9), (17, .int (S.1 3)), (16, .int (S.1 6)), (15, .int (nI rr)), (14, .int (nI e)), (13, .int D9), (12, .int (nI a)), (11, .int (nI c)), (10, .int (nI kd)), (9, .int (nI ct)), (7, .long (sumF S c t q)), (6, .int (nI i)), (4, .int (nI k)), (3, .int (nI made)), (2, .ref z), (1, .ref ((ad 0) 0)), (0, .ref b)]) F.x F.b dL_law_502 hl (by decide) rfl (fun ls hl => ?_)
          have hpd9 : S9.1 3 + S9.1 4 = pd + 0 := by rw [e3, e4, hpd]; exact (Int32.add_zero pd).symm
          refine K504 (nI r) (pd + 0) K9 S9 C9 _ _ _ (nxt cu) (cap ct) c9 t9 q9 (hput hs cu (b9, P9)) _ _ _ H locs ls g9 (nxt9 hI.1) hpd9 (KB _ hpd9) (by omega) (by omega) w (lv_sub hl [1, 5, 17, 18, 19, 0, 20, 21, 22, 23, 24] rfl)
        · have e4 := hye.1 (by omega)
          have e3 := hye.2.1 (by omega) (by omega) (by omega)
          refine lv_istore (lv' := [(21, .int (nI r)), (20, .int (nI mo)), (19, .int (nI q)), (18, .int Q9), (17, .int (S.1 3)), (16, .int (S.1 6)), (15, .int (nI rr)), (14, .int (nI e)), (13, .int D9), (12, .int (nI a)), (11, .int (nI c)), (10, .int (nI kd)), (9, .int (nI ct)), (7, .long (sumF S c t q)), (6, .int (nI i)), (5, .int pd), (4, .int (nI k)), (3, .int (nI made)), (2, .ref z), (1, .ref ((ad 0) 0)), (0, .ref b)]) F.x F.b dL_law_215 hl (by decide) rfl (fun ls hl => ?_)
          refine lv_iload F.x F.b dL_law_217 (lv_at hl 11 rfl) ?_
          refine lv_bipush (v := 12) F.x F.b dL_law_219 (by decide) ?_
          refine lv_icmp_le (tgt := 242) F.x F.b dL_law_221 (by decide) (fun c9 => absurd c9 (show ¬ nI kd ≤ 12 from fun z => absurd ((nI_leI (a := kd) (b := 12) (by omega) (by omega)).mp z) (by omega))) (fun _ => ?_)
          refine lv_iload F.x F.b dL_law_224 (lv_at hl 11 rfl) ?_
          refine lv_bipush (v := 16) F.x F.b dL_law_226 (by decide) ?_
          refine lv_icmp_ge (tgt := 242) F.x F.b dL_law_228 (by decide) (fun _ => ?_) (fun c9 => absurd (show (16 : Int32) ≤ nI kd from (nI_leI (a := 16) (b := kd) (by omega) (by omega)).mpr (by omega)) c9)
          refine lv_iconst (v := 0) F.x F.b dL_law_242 (by decide) ?_
          refine lv_istore (lv' := [(22, .int 0), (21, .int (nI r)), (20, .int (nI mo)), (19, .int (nI q)), (18, .int Q9), (17, .int (S.1 3)), (16, .int (S.1 6)), (15, .int (nI rr)), (14, .int (nI e)), (13, .int D9), (12, .int (nI a)), (11, .int (nI c)), (10, .int (nI kd)), (9, .int (nI ct)), (7, .long (sumF S c t q)), (6, .int (nI i)), (5, .int pd), (4, .int (nI k)), (3, .int (nI made)), (2, .ref z), (1, .ref ((ad 0) 0)), (0, .ref b)]) F.x F.b dL_law_243 hl (by decide) rfl (fun ls hl => ?_)
          refine lv_iload F.x F.b dL_law_245 (lv_at hl 12 rfl) ?_
          refine lv_bipush (v := 43) F.x F.b dL_law_247 (by decide) ?_
          refine lv_icmp_le (tgt := 256) F.x F.b dL_law_249 (by decide) (fun _ => ?_) (fun c9 => absurd (show nI kd ≤ 43 from (nI_leI (a := kd) (b := 43) (by omega) (by omega)).mpr (by omega)) c9)
          refine lv_iconst (v := 0) F.x F.b dL_law_256 (by decide) ?_
          refine lv_istore (lv' := [(23, .int 0), (22, .int 0), (21, .int (nI r)), (20, .int (nI mo)), (19, .int (nI q)), (18, .int Q9), (17, .int (S.1 3)), (16, .int (S.1 6)), (15, .int (nI rr)), (14, .int (nI e)), (13, .int D9), (12, .int (nI a)), (11, .int (nI c)), (10, .int (nI kd)), (9, .int (nI ct)), (7, .long (sumF S c t q)), (6, .int (nI i)), (5, .int pd), (4, .int (nI k)), (3, .int (nI made)), (2, .ref z), (1, .ref ((ad 0) 0)), (0, .ref b)]) F.x F.b dL_law_257 hl (by decide) rfl (fun ls hl => ?_)
          refine lv_iload F.x F.b dL_law_259 (lv_at hl 13 rfl) ?_
          refine lv_bipush (v := 8) F.x F.b dL_law_261 (by decide) ?_
          refine lv_icmp_eq (tgt := 273) F.x F.b dL_law_263 (by decide) (fun c9 => absurd c9 (show ¬ nI kd = 8 from fun z => absurd ((nI_eq (a := kd) (b := 8) (by omega) (by omega)).mp z) (by omega))) (fun _ => ?_)
          refine lv_iload F.x F.b dL_law_266 (lv_at hl 13 rfl) ?_
          refine lv_bipush (v := 11) F.x F.b dL_law_268 (by decide) ?_
          refine lv_icmp_ne (tgt := 284) F.x F.b dL_law_270 (by decide) (fun _ => ?_) (fun c9 => absurd c9 (show ¬ nI kd = 11 from fun z => absurd ((nI_eq (a := kd) (b := 11) (by omega) (by omega)).mp z) (by omega)))
          refine lv_iconst (v := 0) F.x F.b dL_law_284 (by decide) ?_
          refine lv_istore (lv' := [(24, .int 0), (23, .int 0), (22, .int 0), (21, .int (nI r)), (20, .int (nI mo)), (19, .int (nI q)), (18, .int Q9), (17, .int (S.1 3)), (16, .int (S.1 6)), (15, .int (nI rr)), (14, .int (nI e)), (13, .int D9), (12, .int (nI a)), (11, .int (nI c)), (10, .int (nI kd)), (9, .int (nI ct)), (7, .long (sumF S c t q)), (6, .int (nI i)), (5, .int pd), (4, .int (nI k)), (3, .int (nI made)), (2, .ref z), (1, .ref ((ad 0) 0)), (0, .ref b)]) F.x F.b dL_law_285 hl (by decide) rfl (fun ls hl => ?_)
          refine lv_iload F.x F.b dL_law_287 (lv_at hl 2 rfl) ?_
          refine lv_if_eq (tgt := 325) F.x F.b dL_law_289 (by decide) (fun _ => ?_) (fun c9 => absurd rfl c9)
          refine lv_iconst (v := 1) F.x F.b dL_law_325 (by decide) ?_
          refine lv_goto (tgt := 330) F.x F.b dL_law_326 (by decide) ?_
          refine lv_istore (lv' := [(25, .int 1), (24, .int 0), (23, .int 0), (22, .int 0), (21, .int (nI r)), (20, .int (nI mo)), (19, .int (nI q)), (18, .int Q9), (17, .int (S.1 3)), (16, .int (S.1 6)), (15, .int (nI rr)), (14, .int (nI e)), (13, .int D9), (12, .int (nI a)), (11, .int (nI c)), (10, .int (nI kd)), (9, .int (nI ct)), (7, .long (sumF S c t q)), (6, .int (nI i)), (5, .int pd), (4, .int (nI k)), (3, .int (nI made)), (2, .ref z), (1, .ref ((ad 0) 0)), (0, .ref b)]) F.x F.b dL_law_330 hl (by decide) rfl (fun ls hl => ?_)
          refine lv_iload F.x F.b dL_law_332 (lv_at hl 0 rfl) ?_
          refine lv_iload F.x F.b dL_law_334 (lv_at hl 2 rfl) ?_
          refine lv_if_eq (tgt := 417) F.x F.b dL_law_336 (by decide) (fun _ => ?_) (fun c9 => absurd rfl c9)
          refine lv_iconst (v := 1) F.x F.b dL_law_417 (by decide) ?_
          refine lv_goto (tgt := 422) F.x F.b dL_law_418 (by decide) ?_
          refine lv_iand F.x F.b dL_law_422 ?_
          rw [show ((1 : Int32) &&& 1) = 1 from by decide]
          refine lv_istore (lv' := [(25, .int 1), (24, .int 0), (23, .int 0), (22, .int 0), (21, .int (nI r)), (20, .int (nI mo)), (19, .int (nI q)), (18, .int Q9), (17, .int (S.1 3)), (16, .int (S.1 6)), (15, .int (nI rr)), (14, .int (nI e)), (13, .int D9), (12, .int (nI a)), (11, .int (nI c)), (10, .int (nI kd)), (9, .int (nI ct)), (7, .long (sumF S c t q)), (6, .int (nI i)), (5, .int pd), (4, .int (nI k)), (3, .int (nI made)), (2, .ref z), (1, .ref ((ad 0) 0)), (0, .ref b)]) F.x F.b dL_law_423 hl (by decide) rfl (fun ls hl => ?_)
          refine lv_iload F.x F.b dL_law_425 (lv_at hl 0 rfl) ?_
          refine lv_iload F.x F.b dL_law_427 (lv_at hl 1 rfl) ?_
          refine lv_if_eq (tgt := 459) F.x F.b dL_law_429 (by decide) (fun _ => ?_) (fun c9 => absurd rfl c9)
          refine lv_iconst (v := 1) F.x F.b dL_law_459 (by decide) ?_
          refine lv_goto (tgt := 464) F.x F.b dL_law_460 (by decide) ?_
          refine lv_iand F.x F.b dL_law_464 ?_
          rw [show ((1 : Int32) &&& 1) = 1 from by decide]
          refine lv_istore (lv' := [(25, .int 1), (24, .int 0), (23, .int 0), (22, .int 0), (21, .int (nI r)), (20, .int (nI mo)), (19, .int (nI q)), (18, .int Q9), (17, .int (S.1 3)), (16, .int (S.1 6)), (15, .int (nI rr)), (14, .int (nI e)), (13, .int D9), (12, .int (nI a)), (11, .int (nI c)), (10, .int (nI kd)), (9, .int (nI ct)), (7, .long (sumF S c t q)), (6, .int (nI i)), (5, .int pd), (4, .int (nI k)), (3, .int (nI made)), (2, .ref z), (1, .ref ((ad 0) 0)), (0, .ref b)]) F.x F.b dL_law_465 hl (by decide) rfl (fun ls hl => ?_)
          refine lv_iload F.x F.b dL_law_467 (lv_at hl 19 rfl) ?_
          refine lv_iload F.x F.b dL_law_469 (lv_at hl 15 rfl) ?_
          refine lv_bipush (v := 8) F.x F.b dL_law_471 (by decide) ?_
          refine lv_icmp_le (tgt := 500) F.x F.b dL_law_473 (by decide) (fun c9 => absurd c9 (show ¬ nI kd ≤ 8 from fun z => absurd ((nI_leI (a := kd) (b := 8) (by omega) (by omega)).mp z) (by omega))) (fun _ => ?_)
          refine lv_iload F.x F.b dL_law_476 (lv_at hl 15 rfl) ?_
          refine lv_bipush (v := 11) F.x F.b dL_law_478 (by decide) ?_
          refine lv_icmp_ge (tgt := 500) F.x F.b dL_law_480 (by decide) (fun _ => ?_) (fun c9 => absurd (show (11 : Int32) ≤ nI kd from (nI_leI (a := 11) (b := kd) (by omega) (by omega)).mpr (by omega)) c9)
          refine lv_iconst (v := 0) F.x F.b dL_law_500 (by decide) ?_
          refine lv_iadd F.x F.b dL_law_501 ?_
          refine lv_istore (lv' := [(5, .int (pd + 0)), (25, .int 1), (24, .int 0), (23, .int 0), (22, .int 0), (21, .int (nI r)), (20, .int (nI mo)), (19, .int (nI q)), (18, .int Q9), (17, .int (S.1 3)), (16, .int (S.1 6)), (15, .int (nI rr)), (14, .int (nI e)), (13, .int D9), (12, .int (nI a)), (11, .int (nI c)), (10, .int (nI kd)), (9, .int (nI ct)), (7, .long (sumF S c t q)), (6, .int (nI i)), (4, .int (nI k)), (3, .int (nI made)), (2, .ref z), (1, .ref ((ad 0) 0)), (0, .ref b)]) F.x F.b dL_law_502 hl (by decide) rfl (fun ls hl => ?_)
          have hpd9 : S9.1 3 + S9.1 4 = pd + 0 := by rw [e3, e4, hpd]; exact (Int32.add_zero pd).symm
          refine K504 (nI r) (pd + 0) K9 S9 C9 _ _ _ (nxt cu) (cap ct) c9 t9 q9 (hput hs cu (b9, P9)) _ _ _ H locs ls g9 (nxt9 hI.1) hpd9 (KB _ hpd9) (by omega) (by omega) w (lv_sub hl [1, 5, 17, 18, 19, 0, 20, 21, 22, 23, 24] rfl)
        · obtain ⟨hc1, hnone, pp, hp, hid, hle9, rfl, e3, e4⟩ := hye.2.2.2.2 (by omega)
          rcases hD9 with ⟨p', hp', hid', rfl⟩ | ⟨hnone2, -⟩
          · obtain rfl : pp = p' := h.idInj hp hp' (hid.trans hid'.symm)
            have howe := h.oweLe hp
            obtain ⟨co, -, hco, eco⟩ := h.bd
            have ev : nv (S.1 3) = co := by rw [eco]; exact nI_clamp (by omega)
            have hle : owe S t pp ≤ co := by rw [← ev]; exact hle9
            have hsl : f_X3_slotWith S9 (nI a) = some (-1) := (g9.slotOr (nI a)).elim (fun z => z.1) (fun ⟨x, x1, x2, _⟩ => absurd x2 (hnone x x1))
            refine lv_istore (lv' := [(21, .int (nI (owe S t pp))), (20, .int (nI mo)), (19, .int (nI q)), (18, .int Q9), (17, .int (S.1 3)), (16, .int (S.1 6)), (15, .int (nI rr)), (14, .int (nI e)), (13, .int (nI (owe S t pp))), (12, .int (nI a)), (11, .int (nI c)), (10, .int (nI kd)), (9, .int (nI ct)), (7, .long (sumF S c t q)), (6, .int (nI i)), (5, .int pd), (4, .int (nI k)), (3, .int (nI made)), (2, .ref z), (1, .ref ((ad 0) 0)), (0, .ref b)]) F.x F.b dL_law_215 hl (by decide) rfl (fun ls hl => ?_)
            refine lv_iload F.x F.b dL_law_217 (lv_at hl 11 rfl) ?_
            refine lv_bipush (v := 12) F.x F.b dL_law_219 (by decide) ?_
            refine lv_icmp_le (tgt := 242) F.x F.b dL_law_221 (by decide) (fun c9 => absurd c9 (show ¬ nI kd ≤ 12 from fun z => absurd ((nI_leI (a := kd) (b := 12) (by omega) (by omega)).mp z) (by omega))) (fun _ => ?_)
            refine lv_iload F.x F.b dL_law_224 (lv_at hl 11 rfl) ?_
            refine lv_bipush (v := 16) F.x F.b dL_law_226 (by decide) ?_
            refine lv_icmp_ge (tgt := 242) F.x F.b dL_law_228 (by decide) (fun _ => ?_) (fun c9 => absurd (show (16 : Int32) ≤ nI kd from (nI_leI (a := 16) (b := kd) (by omega) (by omega)).mpr (by omega)) c9)
            refine lv_iconst (v := 0) F.x F.b dL_law_242 (by decide) ?_
            refine lv_istore (lv' := [(22, .int 0), (21, .int (nI (owe S t pp))), (20, .int (nI mo)), (19, .int (nI q)), (18, .int Q9), (17, .int (S.1 3)), (16, .int (S.1 6)), (15, .int (nI rr)), (14, .int (nI e)), (13, .int (nI (owe S t pp))), (12, .int (nI a)), (11, .int (nI c)), (10, .int (nI kd)), (9, .int (nI ct)), (7, .long (sumF S c t q)), (6, .int (nI i)), (5, .int pd), (4, .int (nI k)), (3, .int (nI made)), (2, .ref z), (1, .ref ((ad 0) 0)), (0, .ref b)]) F.x F.b dL_law_243 hl (by decide) rfl (fun ls hl => ?_)
            refine lv_iload F.x F.b dL_law_245 (lv_at hl 12 rfl) ?_
            refine lv_bipush (v := 43) F.x F.b dL_law_247 (by decide) ?_
            refine lv_icmp_le (tgt := 256) F.x F.b dL_law_249 (by decide) (fun c9 => absurd c9 (show ¬ nI kd ≤ 43 from fun z => absurd ((nI_leI (a := kd) (b := 43) (by omega) (by omega)).mp z) (by omega))) (fun _ => ?_)
            refine lv_iconst (v := 1) F.x F.b dL_law_252 (by decide) ?_
            refine lv_goto (tgt := 257) F.x F.b dL_law_253 (by decide) ?_
            refine lv_istore (lv' := [(23, .int 1), (22, .int 0), (21, .int (nI (owe S t pp))), (20, .int (nI mo)), (19, .int (nI q)), (18, .int Q9), (17, .int (S.1 3)), (16, .int (S.1 6)), (15, .int (nI rr)), (14, .int (nI e)), (13, .int (nI (owe S t pp))), (12, .int (nI a)), (11, .int (nI c)), (10, .int (nI kd)), (9, .int (nI ct)), (7, .long (sumF S c t q)), (6, .int (nI i)), (5, .int pd), (4, .int (nI k)), (3, .int (nI made)), (2, .ref z), (1, .ref ((ad 0) 0)), (0, .ref b)]) F.x F.b dL_law_257 hl (by decide) rfl (fun ls hl => ?_)
            refine lv_iload F.x F.b dL_law_259 (lv_at hl 13 rfl) ?_
            refine lv_bipush (v := 8) F.x F.b dL_law_261 (by decide) ?_
            refine lv_icmp_eq (tgt := 273) F.x F.b dL_law_263 (by decide) (fun c9 => absurd c9 (show ¬ nI kd = 8 from fun z => absurd ((nI_eq (a := kd) (b := 8) (by omega) (by omega)).mp z) (by omega))) (fun _ => ?_)
            refine lv_iload F.x F.b dL_law_266 (lv_at hl 13 rfl) ?_
            refine lv_bipush (v := 11) F.x F.b dL_law_268 (by decide) ?_
            refine lv_icmp_ne (tgt := 284) F.x F.b dL_law_270 (by decide) (fun _ => ?_) (fun c9 => absurd c9 (show ¬ nI kd = 11 from fun z => absurd ((nI_eq (a := kd) (b := 11) (by omega) (by omega)).mp z) (by omega)))
            refine lv_iconst (v := 0) F.x F.b dL_law_284 (by decide) ?_
            refine lv_istore (lv' := [(24, .int 0), (23, .int 1), (22, .int 0), (21, .int (nI (owe S t pp))), (20, .int (nI mo)), (19, .int (nI q)), (18, .int Q9), (17, .int (S.1 3)), (16, .int (S.1 6)), (15, .int (nI rr)), (14, .int (nI e)), (13, .int (nI (owe S t pp))), (12, .int (nI a)), (11, .int (nI c)), (10, .int (nI kd)), (9, .int (nI ct)), (7, .long (sumF S c t q)), (6, .int (nI i)), (5, .int pd), (4, .int (nI k)), (3, .int (nI made)), (2, .ref z), (1, .ref ((ad 0) 0)), (0, .ref b)]) F.x F.b dL_law_285 hl (by decide) rfl (fun ls hl => ?_)
            refine lv_iload F.x F.b dL_law_287 (lv_at hl 2 rfl) ?_
            refine lv_if_eq (tgt := 325) F.x F.b dL_law_289 (by decide) (fun _ => ?_) (fun c9 => absurd rfl c9)
            refine lv_iconst (v := 1) F.x F.b dL_law_325 (by decide) ?_
            refine lv_goto (tgt := 330) F.x F.b dL_law_326 (by decide) ?_
            refine lv_istore (lv' := [(25, .int 1), (24, .int 0), (23, .int 1), (22, .int 0), (21, .int (nI (owe S t pp))), (20, .int (nI mo)), (19, .int (nI q)), (18, .int Q9), (17, .int (S.1 3)), (16, .int (S.1 6)), (15, .int (nI rr)), (14, .int (nI e)), (13, .int (nI (owe S t pp))), (12, .int (nI a)), (11, .int (nI c)), (10, .int (nI kd)), (9, .int (nI ct)), (7, .long (sumF S c t q)), (6, .int (nI i)), (5, .int pd), (4, .int (nI k)), (3, .int (nI made)), (2, .ref z), (1, .ref ((ad 0) 0)), (0, .ref b)]) F.x F.b dL_law_330 hl (by decide) rfl (fun ls hl => ?_)
            refine lv_iload F.x F.b dL_law_332 (lv_at hl 0 rfl) ?_
            refine lv_iload F.x F.b dL_law_334 (lv_at hl 2 rfl) ?_
            refine lv_if_eq (tgt := 417) F.x F.b dL_law_336 (by decide) (fun c9 => absurd c9 (by decide)) (fun _ => ?_)
            refine lv_iload F.x F.b dL_law_339 (lv_at hl 12 rfl) ?_
            refine lv_if_ge (tgt := 354) F.x F.b dL_law_341 (by decide) (fun _ => ?_) (fun c9 => absurd (nI_pos' (n := owe S t pp) (by omega)) c9)
            refine lv_iload F.x F.b dL_law_354 (lv_at hl 12 rfl) ?_
            refine lv_iload F.x F.b dL_law_356 (lv_at hl 8 rfl) ?_
            refine lv_icmp_le (tgt := 371) F.x F.b dL_law_358 (by decide) (fun _ => ?_) (fun c9 => absurd (show nI (owe S t pp) ≤ S.1 3 from by rw [eco]; exact (nI_leI (a := owe S t pp) (b := co) (by omega) (by omega)).mpr hle) c9)
            refine lv_iload F.x F.b dL_law_371 (lv_at hl 4 rfl) ?_
            refine lv_iload F.x F.b dL_law_373 (lv_at hl 12 rfl) ?_
            refine lv_icmp_ne (tgt := 421) F.x F.b dL_law_375 (by decide) (fun c9 => absurd rfl c9) (fun _ => ?_)
            refine lv_aload_n F.x F.b dL_law_378 rfl (lv_at hl 23 rfl) ?_
            refine kXi F w hst (LC := [wXo G.2.1 (ad 0) (xF ad) .null K9, wSh G.2.1 (ad 1) S9]) (LR := [[(z, .inl (G.2.1 4, 80, .inr (.inl sm)))], wSh G.2.1 (ad 2) Fc, wTe G.2.1 (ad 4) C9, wSb G.2.1 (ad 5) ou, wAd G.2.1 (ad 6) D8, wAb G.2.1 (ad 7) B, wHo G.2.1 (ad 3) (nxt cu) (cap ct) (hput hs cu (b9, P9)), hsL G.2.1 (hput hs cu (b9, P9))]) (As := []) (rest := [.int 1]) ((t_X6_bond F.1 (x := ad 0) (a := ad 1) (rf := xF ad) (sv := .null) rfl (show f_X6_bond K9 S9 = some (S9.1 3) from rfl)).toX : CX G yX6_bond cX6_bond 1 .int 0 0 0 0 [.ref ((ad 0) 0)] (fl [wXo G.2.1 (ad 0) (xF ad) .null K9, wSh G.2.1 (ad 1) S9]) _ _) m_X6_bond v_X6_bond q311 (ci := 10) (q0 := 1) rfl rfl rfl 10 [1, 2, 0, 3, 4, 5, 6, 7, 8, 9] rfl rfl rfl ⟨Nat.le_of_ble_eq_true rfl, Nat.le_of_ble_eq_true rfl⟩ rfl hl.1 rfl (Nat.le_of_ble_eq_true rfl) dL_law_379 ⟨by show _ ≤ 660961; omega, by show _ ≤ 7109381; omega⟩ (fun _ _ _ _ _ _ hx => False.elim hx) (fun r9 w1 H locs h9 w => ?_)
            obtain ⟨rfl, h9⟩ := h9
            have w := w.jn (L1 := [wXo G.2.1 (ad 0) (xF ad) .null K9, wSh G.2.1 (ad 1) S9]) (L' := [[(z, .inl (G.2.1 4, 80, .inr (.inl sm)))], wXo G.2.1 (ad 0) (xF ad) .null K9, wSh G.2.1 (ad 1) S9, wSh G.2.1 (ad 2) Fc, wTe G.2.1 (ad 4) C9, wSb G.2.1 (ad 5) ou, wAd G.2.1 (ad 6) D8, wAb G.2.1 (ad 7) B, wHo G.2.1 (ad 3) (nxt cu) (cap ct) (hput hs cu (b9, P9)), hsL G.2.1 (hput hs cu (b9, P9))]) h9 10 [2, 0, 1, 3, 4, 5, 6, 7, 8, 9] rfl rfl rfl
            refine lv_iload F.x F.b dL_law_382 (lv_at hl 8 rfl) ?_
            refine lv_iload F.x F.b dL_law_384 (lv_at hl 12 rfl) ?_
            refine lv_isub F.x F.b dL_law_386 ?_
            refine lv_icmp_ne (tgt := 421) F.x F.b dL_law_387 (by decide) (fun c9 => absurd e3 c9) (fun _ => ?_)
            refine lv_aload_n F.x F.b dL_law_390 rfl (lv_at hl 23 rfl) ?_
            refine kXi F w hst (LC := [wXo G.2.1 (ad 0) (xF ad) .null K9, wSh G.2.1 (ad 1) S9]) (LR := [[(z, .inl (G.2.1 4, 80, .inr (.inl sm)))], wSh G.2.1 (ad 2) Fc, wTe G.2.1 (ad 4) C9, wSb G.2.1 (ad 5) ou, wAd G.2.1 (ad 6) D8, wAb G.2.1 (ad 7) B, wHo G.2.1 (ad 3) (nxt cu) (cap ct) (hput hs cu (b9, P9)), hsL G.2.1 (hput hs cu (b9, P9))]) (As := []) (rest := [.int 1]) ((t_X6_lotCount F.1 (x := ad 0) (a := ad 1) (rf := xF ad) (sv := .null) rfl (show f_X6_lotCount K9 S9 = some (S9.1 0) from rfl)).toX : CX G yX6_lotCount cX6_lotCount 1 .int 0 0 0 0 [.ref ((ad 0) 0)] (fl [wXo G.2.1 (ad 0) (xF ad) .null K9, wSh G.2.1 (ad 1) S9]) _ _) m_X6_lotCount v_X6_lotCount q291 (ci := 10) (q0 := 1) rfl rfl rfl 10 [1, 2, 0, 3, 4, 5, 6, 7, 8, 9] rfl rfl rfl ⟨Nat.le_of_ble_eq_true rfl, Nat.le_of_ble_eq_true rfl⟩ rfl hl.1 rfl (Nat.le_of_ble_eq_true rfl) dL_law_391 ⟨by show _ ≤ 660961; omega, by show _ ≤ 7109381; omega⟩ (fun _ _ _ _ _ _ hx => False.elim hx) (fun r9 w1 H locs h9 w => ?_)
            obtain ⟨rfl, h9⟩ := h9
            have w := w.jn (L1 := [wXo G.2.1 (ad 0) (xF ad) .null K9, wSh G.2.1 (ad 1) S9]) (L' := [[(z, .inl (G.2.1 4, 80, .inr (.inl sm)))], wXo G.2.1 (ad 0) (xF ad) .null K9, wSh G.2.1 (ad 1) S9, wSh G.2.1 (ad 2) Fc, wTe G.2.1 (ad 4) C9, wSb G.2.1 (ad 5) ou, wAd G.2.1 (ad 6) D8, wAb G.2.1 (ad 7) B, wHo G.2.1 (ad 3) (nxt cu) (cap ct) (hput hs cu (b9, P9)), hsL G.2.1 (hput hs cu (b9, P9))]) h9 10 [2, 0, 1, 3, 4, 5, 6, 7, 8, 9] rfl rfl rfl
            rw [show ((S9.1 0) : Int32) = (nI c9) from g9.c1]
            refine lv_iload F.x F.b dL_law_394 (lv_at hl 14 rfl) ?_
            refine lv_iconst (v := 1) F.x F.b dL_law_396 (by decide) ?_
            refine lv_isub F.x F.b dL_law_397 ?_
            refine lv_icmp_ne (tgt := 421) F.x F.b dL_law_398 (by decide) (fun c9 => absurd (cb_one hc1 (Nat.lt_of_le_of_lt (Nat.zero_le pp) hp)) c9) (fun _ => ?_)
            refine lv_aload_n F.x F.b dL_law_401 rfl (lv_at hl 23 rfl) ?_
            refine lv_iload F.x F.b dL_law_402 (lv_at hl 13 rfl) ?_
            refine kLi F w hst (LC := [wXo G.2.1 (ad 0) (xF ad) .null K9, wSh G.2.1 (ad 1) S9]) (LR := [[(z, .inl (G.2.1 4, 80, .inr (.inl sm)))], wSh G.2.1 (ad 2) Fc, wTe G.2.1 (ad 4) C9, wSb G.2.1 (ad 5) ou, wAd G.2.1 (ad 6) D8, wAb G.2.1 (ad 7) B, wHo G.2.1 (ad 3) (nxt cu) (cap ct) (hput hs cu (b9, P9)), hsL G.2.1 (hput hs cu (b9, P9))]) (As := [.ref ((ad 0) 0), .int (nI a)]) (rest := [.int 1]) (l_quantity_no F.1 gM hNC hsl) mh_quantity vh_quantity (List.mem_of_getElem? (i := 471) (by decide +kernel)) 10 [1, 2, 0, 3, 4, 5, 6, 7, 8, 9] rfl rfl rfl ⟨Nat.le_of_ble_eq_true rfl, Nat.le_of_ble_eq_true rfl⟩ rfl hl.1 rfl (Nat.le_of_ble_eq_true rfl) dL_law_404 ⟨by show _ ≤ 660961; omega, by show _ ≤ 7109381; omega⟩ (fun r9 w1 H locs h9 w => ?_)
            obtain ⟨rfl, h9⟩ := h9
            have w := w.jn (L1 := [wXo G.2.1 (ad 0) (xF ad) .null K9, wSh G.2.1 (ad 1) S9]) (L' := [[(z, .inl (G.2.1 4, 80, .inr (.inl sm)))], wXo G.2.1 (ad 0) (xF ad) .null K9, wSh G.2.1 (ad 1) S9, wSh G.2.1 (ad 2) Fc, wTe G.2.1 (ad 4) C9, wSb G.2.1 (ad 5) ou, wAd G.2.1 (ad 6) D8, wAb G.2.1 (ad 7) B, wHo G.2.1 (ad 3) (nxt cu) (cap ct) (hput hs cu (b9, P9)), hsL G.2.1 (hput hs cu (b9, P9))]) h9 10 [2, 0, 1, 3, 4, 5, 6, 7, 8, 9] rfl rfl rfl
            refine lv_bipush (v := (-75)) F.x F.b dL_law_407 (by decide) ?_
            refine lv_icmp_ne (tgt := 421) F.x F.b dL_law_409 (by decide) (fun c9 => absurd rfl c9) (fun _ => ?_)
            refine lv_iload F.x F.b dL_law_412 (lv_at hl 5 rfl) ?_
            refine lv_if_le (tgt := 421) F.x F.b dL_law_414 (by decide) (fun c9 => absurd c9 (nI_nle (n := mo) (hm4 pp hp hle9) (by omega))) (fun _ => ?_)
            refine lv_iconst (v := 1) F.x F.b dL_law_417 (by decide) ?_
            refine lv_goto (tgt := 422) F.x F.b dL_law_418 (by decide) ?_
            refine lv_iand F.x F.b dL_law_422 ?_
            rw [show ((1 : Int32) &&& 1) = 1 from by decide]
            refine lv_istore (lv' := [(25, .int 1), (24, .int 0), (23, .int 1), (22, .int 0), (21, .int (nI (owe S t pp))), (20, .int (nI mo)), (19, .int (nI q)), (18, .int Q9), (17, .int (S.1 3)), (16, .int (S.1 6)), (15, .int (nI rr)), (14, .int (nI e)), (13, .int (nI (owe S t pp))), (12, .int (nI a)), (11, .int (nI c)), (10, .int (nI kd)), (9, .int (nI ct)), (7, .long (sumF S c t q)), (6, .int (nI i)), (5, .int pd), (4, .int (nI k)), (3, .int (nI made)), (2, .ref z), (1, .ref ((ad 0) 0)), (0, .ref b)]) F.x F.b dL_law_423 hl (by decide) rfl (fun ls hl => ?_)
            refine lv_iload F.x F.b dL_law_425 (lv_at hl 0 rfl) ?_
            refine lv_iload F.x F.b dL_law_427 (lv_at hl 1 rfl) ?_
            refine lv_if_eq (tgt := 459) F.x F.b dL_law_429 (by decide) (fun _ => ?_) (fun c9 => absurd rfl c9)
            refine lv_iconst (v := 1) F.x F.b dL_law_459 (by decide) ?_
            refine lv_goto (tgt := 464) F.x F.b dL_law_460 (by decide) ?_
            refine lv_iand F.x F.b dL_law_464 ?_
            rw [show ((1 : Int32) &&& 1) = 1 from by decide]
            refine lv_istore (lv' := [(25, .int 1), (24, .int 0), (23, .int 1), (22, .int 0), (21, .int (nI (owe S t pp))), (20, .int (nI mo)), (19, .int (nI q)), (18, .int Q9), (17, .int (S.1 3)), (16, .int (S.1 6)), (15, .int (nI rr)), (14, .int (nI e)), (13, .int (nI (owe S t pp))), (12, .int (nI a)), (11, .int (nI c)), (10, .int (nI kd)), (9, .int (nI ct)), (7, .long (sumF S c t q)), (6, .int (nI i)), (5, .int pd), (4, .int (nI k)), (3, .int (nI made)), (2, .ref z), (1, .ref ((ad 0) 0)), (0, .ref b)]) F.x F.b dL_law_465 hl (by decide) rfl (fun ls hl => ?_)
            refine lv_iload F.x F.b dL_law_467 (lv_at hl 19 rfl) ?_
            refine lv_iload F.x F.b dL_law_469 (lv_at hl 15 rfl) ?_
            refine lv_bipush (v := 8) F.x F.b dL_law_471 (by decide) ?_
            refine lv_icmp_le (tgt := 500) F.x F.b dL_law_473 (by decide) (fun c9 => absurd c9 (show ¬ nI kd ≤ 8 from fun z => absurd ((nI_leI (a := kd) (b := 8) (by omega) (by omega)).mp z) (by omega))) (fun _ => ?_)
            refine lv_iload F.x F.b dL_law_476 (lv_at hl 15 rfl) ?_
            refine lv_bipush (v := 11) F.x F.b dL_law_478 (by decide) ?_
            refine lv_icmp_ge (tgt := 500) F.x F.b dL_law_480 (by decide) (fun _ => ?_) (fun c9 => absurd (show (11 : Int32) ≤ nI kd from (nI_leI (a := 11) (b := kd) (by omega) (by omega)).mpr (by omega)) c9)
            refine lv_iconst (v := 0) F.x F.b dL_law_500 (by decide) ?_
            refine lv_iadd F.x F.b dL_law_501 ?_
            refine lv_istore (lv' := [(5, .int (pd + 0)), (25, .int 1), (24, .int 0), (23, .int 1), (22, .int 0), (21, .int (nI (owe S t pp))), (20, .int (nI mo)), (19, .int (nI q)), (18, .int Q9), (17, .int (S.1 3)), (16, .int (S.1 6)), (15, .int (nI rr)), (14, .int (nI e)), (13, .int (nI (owe S t pp))), (12, .int (nI a)), (11, .int (nI c)), (10, .int (nI kd)), (9, .int (nI ct)), (7, .long (sumF S c t q)), (6, .int (nI i)), (4, .int (nI k)), (3, .int (nI made)), (2, .ref z), (1, .ref ((ad 0) 0)), (0, .ref b)]) F.x F.b dL_law_502 hl (by decide) rfl (fun ls hl => ?_)
            have hpd9 : S9.1 3 + S9.1 4 = pd + 0 := by rw [e3, e4, ← hpd]; exact pd_rel
            refine K504 (nI (owe S t pp)) (pd + 0) K9 S9 C9 _ _ _ (nxt cu) (cap ct) c9 t9 q9 (hput hs cu (b9, P9)) _ _ _ H locs ls g9 (nxt9 hI.1) hpd9 (KB _ hpd9) (by omega) (by omega) w (lv_sub hl [1, 5, 17, 18, 19, 0, 20, 21, 22, 23, 24] rfl)
          · exact absurd hid (hnone2 pp hp)
    have K150 : ∀ (kd a : Nat) (D9 : Int32) (cells slots : Nat) (H : Heap) (locs : List Loc) (ls : Array Slot), kd < 48 → a < 100 → ((∃ p, p < c ∧ S.2 0 p = nI a ∧ D9 = nI (owe S t p)) ∨ ((∀ p, p < c → S.2 0 p ≠ nI a) ∧ D9 = -75)) → cells ≤ 400 * i + 505 → slots ≤ 4000 * i + 5050 → Wd G A s.heap (fl [[(z, .inl (G.2.1 4, 80, .inr (.inl sm)))], wXo G.2.1 (ad 0) (xF ad) .null K, wSh G.2.1 (ad 1) S, wSh G.2.1 (ad 2) Fc, wTe G.2.1 (ad 4) C, wSb G.2.1 (ad 5) ou, wAd G.2.1 (ad 6) D, wAb G.2.1 (ad 7) B, wHo G.2.1 (ad 3) cu ct hs, hsL G.2.1 hs]) H locs → lv_has ls 26 [(12, .int (nI a)), (11, .int (nI c)), (10, .int (nI kd)), (9, .int (nI ct)), (7, .long (sumF S c t q)), (6, .int (nI i)), (5, .int pd), (4, .int (nI k)), (3, .int (nI made)), (2, .ref z), (1, .ref ((ad 0) 0)), (0, .ref b)] → W p l e0 room_1 s m0 args below meth cm H locs cells slots QQ (F0 m0 150 ls [.int D9]) := by
      intro kd a D9 cells slots H locs ls hkd ha hD9 hc9 hs9 w hl
      refine lv_istore (lv' := [(13, .int D9), (12, .int (nI a)), (11, .int (nI c)), (10, .int (nI kd)), (9, .int (nI ct)), (7, .long (sumF S c t q)), (6, .int (nI i)), (5, .int pd), (4, .int (nI k)), (3, .int (nI made)), (2, .ref z), (1, .ref ((ad 0) 0)), (0, .ref b)]) F.x F.b dL_law_150 hl (by decide) rfl (fun ls hl => ?_)
      refine lv_aload_n F.x F.b dL_law_152 rfl (lv_at hl 12 rfl) ?_
      refine lv_iload F.x F.b dL_law_153 (lv_at hl 8 rfl) ?_
      refine lv_iconst (v := 1) F.x F.b dL_law_155 (by decide) ?_
      refine lv_iadd F.x F.b dL_law_156 ?_
      rw [show (((nI k) + 1) : Int32) = (nI (k + 1)) from (nI_add k 1)]
      refine lv_iconst (v := 4) F.x F.b dL_law_157 (by decide) ?_
      rw [show (4 : Int32) = (nI 4) from rfl]
      refine kBi F w hst (LC := []) (LR := [[(z, .inl (G.2.1 4, 80, .inr (.inl sm)))], wXo G.2.1 (ad 0) (xF ad) .null K, wSh G.2.1 (ad 1) S, wSh G.2.1 (ad 2) Fc, wTe G.2.1 (ad 4) C, wSb G.2.1 (ad 5) ou, wAd G.2.1 (ad 6) D, wAb G.2.1 (ad 7) B, wHo G.2.1 (ad 3) cu ct hs, hsL G.2.1 hs]) (As := [.ref b, .int (nI (k + 1)), .int (nI 4)]) (rest := []) (w_pick F.1 hXS (k := k + 1) (n := 4) (by omega) (by omega) (by omega)) m_L_pick v_L_pick q353 10 [0, 1, 2, 3, 4, 5, 6, 7, 8, 9] rfl rfl rfl ⟨Nat.le_of_ble_eq_true rfl, Nat.le_of_ble_eq_true rfl⟩ rfl hl.1 rfl (Nat.le_of_ble_eq_true rfl) dL_law_158 ⟨by show _ ≤ 660961; omega, by show _ ≤ 7109381; omega⟩ (fun r9 w1 H locs h9 w => ?_)
      obtain ⟨⟨e, he, rfl⟩, h9⟩ := h9
      have w := w.jn (L1 := []) (L' := [[(z, .inl (G.2.1 4, 80, .inr (.inl sm)))], wXo G.2.1 (ad 0) (xF ad) .null K, wSh G.2.1 (ad 1) S, wSh G.2.1 (ad 2) Fc, wTe G.2.1 (ad 4) C, wSb G.2.1 (ad 5) ou, wAd G.2.1 (ad 6) D, wAb G.2.1 (ad 7) B, wHo G.2.1 (ad 3) cu ct hs, hsL G.2.1 hs]) h9 10 [0, 1, 2, 3, 4, 5, 6, 7, 8, 9] rfl rfl rfl
      refine lv_istore (lv' := [(14, .int (nI e)), (13, .int D9), (12, .int (nI a)), (11, .int (nI c)), (10, .int (nI kd)), (9, .int (nI ct)), (7, .long (sumF S c t q)), (6, .int (nI i)), (5, .int pd), (4, .int (nI k)), (3, .int (nI made)), (2, .ref z), (1, .ref ((ad 0) 0)), (0, .ref b)]) F.x F.b dL_law_161 hl (by decide) rfl (fun ls hl => ?_)
      refine lv_aload_n F.x F.b dL_law_163 rfl (lv_at hl 12 rfl) ?_
      refine lv_iload F.x F.b dL_law_164 (lv_at hl 0 rfl) ?_
      obtain ⟨F1, F2, rr, a1, a2, a3, a4, -, -, -, a7⟩ := h.after Fc (e := e) (by omega)
      refine kLi F w hst (LC := [wXo G.2.1 (ad 0) (xF ad) .null K, wSh G.2.1 (ad 1) S, wSh G.2.1 (ad 2) Fc]) (LR := [[(z, .inl (G.2.1 4, 80, .inr (.inl sm)))], wTe G.2.1 (ad 4) C, wSb G.2.1 (ad 5) ou, wAd G.2.1 (ad 6) D, wAb G.2.1 (ad 7) B, wHo G.2.1 (ad 3) cu ct hs, hsL G.2.1 hs]) (As := [.ref ((ad 0) 0), .int (nI e)]) (rest := []) (l_dampAfter_ok F.1 (nn := e) (by omega) a1 a2 a3 a4) mh_dampAfter vh_dampAfter (List.mem_of_getElem? (i := 518) (by decide +kernel)) 10 [1, 2, 3, 0, 4, 5, 6, 7, 8, 9] rfl rfl rfl ⟨Nat.le_of_ble_eq_true rfl, Nat.le_of_ble_eq_true rfl⟩ rfl hl.1 rfl (Nat.le_of_ble_eq_true rfl) dL_law_166 ⟨by show _ ≤ 660961; omega, by show _ ≤ 7109381; omega⟩ (fun r9 w1 H locs h9 w => ?_)
      obtain ⟨rfl, h9⟩ := h9
      have w := w.jn (L1 := [wXo G.2.1 (ad 0) (xF ad) .null K, wSh G.2.1 (ad 1) S, wSh G.2.1 (ad 2) F2]) (L' := [[(z, .inl (G.2.1 4, 80, .inr (.inl sm)))], wXo G.2.1 (ad 0) (xF ad) .null K, wSh G.2.1 (ad 1) S, wSh G.2.1 (ad 2) F2, wTe G.2.1 (ad 4) C, wSb G.2.1 (ad 5) ou, wAd G.2.1 (ad 6) D, wAb G.2.1 (ad 7) B, wHo G.2.1 (ad 3) cu ct hs, hsL G.2.1 hs]) h9 10 [3, 0, 1, 2, 4, 5, 6, 7, 8, 9] rfl rfl rfl
      refine lv_istore (lv' := [(15, .int (nI rr)), (14, .int (nI e)), (13, .int D9), (12, .int (nI a)), (11, .int (nI c)), (10, .int (nI kd)), (9, .int (nI ct)), (7, .long (sumF S c t q)), (6, .int (nI i)), (5, .int pd), (4, .int (nI k)), (3, .int (nI made)), (2, .ref z), (1, .ref ((ad 0) 0)), (0, .ref b)]) F.x F.b dL_law_169 hl (by decide) rfl (fun ls hl => ?_)
      refine lv_aload_n F.x F.b dL_law_171 rfl (lv_at hl 13 rfl) ?_
      refine kXi F w hst (LC := [wXo G.2.1 (ad 0) (xF ad) .null K, wSh G.2.1 (ad 1) S]) (LR := [[(z, .inl (G.2.1 4, 80, .inr (.inl sm)))], wSh G.2.1 (ad 2) F2, wTe G.2.1 (ad 4) C, wSb G.2.1 (ad 5) ou, wAd G.2.1 (ad 6) D, wAb G.2.1 (ad 7) B, wHo G.2.1 (ad 3) cu ct hs, hsL G.2.1 hs]) (As := []) (rest := []) ((t_X6_destroyedCount F.1 (x := ad 0) (a := ad 1) (rf := xF ad) (sv := .null) rfl (show f_X6_destroyedCount K S = some (S.1 6) from rfl)).toX : CX G yX6_destroyedCount cX6_destroyedCount 1 .int 0 0 0 0 [.ref ((ad 0) 0)] (fl [wXo G.2.1 (ad 0) (xF ad) .null K, wSh G.2.1 (ad 1) S]) _ _) m_X6_destroyedCount v_X6_destroyedCount q303 (ci := 10) (q0 := 1) rfl rfl rfl 10 [1, 2, 0, 3, 4, 5, 6, 7, 8, 9] rfl rfl rfl ⟨Nat.le_of_ble_eq_true rfl, Nat.le_of_ble_eq_true rfl⟩ rfl hl.1 rfl (Nat.le_of_ble_eq_true rfl) dL_law_172 ⟨by show _ ≤ 660961; omega, by show _ ≤ 7109381; omega⟩ (fun _ _ _ _ _ _ hx => False.elim hx) (fun r9 w1 H locs h9 w => ?_)
      obtain ⟨rfl, h9⟩ := h9
      have w := w.jn (L1 := [wXo G.2.1 (ad 0) (xF ad) .null K, wSh G.2.1 (ad 1) S]) (L' := [[(z, .inl (G.2.1 4, 80, .inr (.inl sm)))], wXo G.2.1 (ad 0) (xF ad) .null K, wSh G.2.1 (ad 1) S, wSh G.2.1 (ad 2) F2, wTe G.2.1 (ad 4) C, wSb G.2.1 (ad 5) ou, wAd G.2.1 (ad 6) D, wAb G.2.1 (ad 7) B, wHo G.2.1 (ad 3) cu ct hs, hsL G.2.1 hs]) h9 10 [2, 0, 1, 3, 4, 5, 6, 7, 8, 9] rfl rfl rfl
      refine lv_istore (lv' := [(16, .int (S.1 6)), (15, .int (nI rr)), (14, .int (nI e)), (13, .int D9), (12, .int (nI a)), (11, .int (nI c)), (10, .int (nI kd)), (9, .int (nI ct)), (7, .long (sumF S c t q)), (6, .int (nI i)), (5, .int pd), (4, .int (nI k)), (3, .int (nI made)), (2, .ref z), (1, .ref ((ad 0) 0)), (0, .ref b)]) F.x F.b dL_law_175 hl (by decide) rfl (fun ls hl => ?_)
      refine lv_aload_n F.x F.b dL_law_177 rfl (lv_at hl 14 rfl) ?_
      refine kXi F w hst (LC := [wXo G.2.1 (ad 0) (xF ad) .null K, wSh G.2.1 (ad 1) S]) (LR := [[(z, .inl (G.2.1 4, 80, .inr (.inl sm)))], wSh G.2.1 (ad 2) F2, wTe G.2.1 (ad 4) C, wSb G.2.1 (ad 5) ou, wAd G.2.1 (ad 6) D, wAb G.2.1 (ad 7) B, wHo G.2.1 (ad 3) cu ct hs, hsL G.2.1 hs]) (As := []) (rest := []) ((t_X6_bond F.1 (x := ad 0) (a := ad 1) (rf := xF ad) (sv := .null) rfl (show f_X6_bond K S = some (S.1 3) from rfl)).toX : CX G yX6_bond cX6_bond 1 .int 0 0 0 0 [.ref ((ad 0) 0)] (fl [wXo G.2.1 (ad 0) (xF ad) .null K, wSh G.2.1 (ad 1) S]) _ _) m_X6_bond v_X6_bond q311 (ci := 10) (q0 := 1) rfl rfl rfl 10 [1, 2, 0, 3, 4, 5, 6, 7, 8, 9] rfl rfl rfl ⟨Nat.le_of_ble_eq_true rfl, Nat.le_of_ble_eq_true rfl⟩ rfl hl.1 rfl (Nat.le_of_ble_eq_true rfl) dL_law_178 ⟨by show _ ≤ 660961; omega, by show _ ≤ 7109381; omega⟩ (fun _ _ _ _ _ _ hx => False.elim hx) (fun r9 w1 H locs h9 w => ?_)
      obtain ⟨rfl, h9⟩ := h9
      have w := w.jn (L1 := [wXo G.2.1 (ad 0) (xF ad) .null K, wSh G.2.1 (ad 1) S]) (L' := [[(z, .inl (G.2.1 4, 80, .inr (.inl sm)))], wXo G.2.1 (ad 0) (xF ad) .null K, wSh G.2.1 (ad 1) S, wSh G.2.1 (ad 2) F2, wTe G.2.1 (ad 4) C, wSb G.2.1 (ad 5) ou, wAd G.2.1 (ad 6) D, wAb G.2.1 (ad 7) B, wHo G.2.1 (ad 3) cu ct hs, hsL G.2.1 hs]) h9 10 [2, 0, 1, 3, 4, 5, 6, 7, 8, 9] rfl rfl rfl
      refine lv_istore (lv' := [(17, .int (S.1 3)), (16, .int (S.1 6)), (15, .int (nI rr)), (14, .int (nI e)), (13, .int D9), (12, .int (nI a)), (11, .int (nI c)), (10, .int (nI kd)), (9, .int (nI ct)), (7, .long (sumF S c t q)), (6, .int (nI i)), (5, .int pd), (4, .int (nI k)), (3, .int (nI made)), (2, .ref z), (1, .ref ((ad 0) 0)), (0, .ref b)]) F.x F.b dL_law_181 hl (by decide) rfl (fun ls hl => ?_)
      refine lv_aload_n F.x F.b dL_law_183 rfl (lv_at hl 15 rfl) ?_
      refine lv_iconst (v := 0) F.x F.b dL_law_184 (by decide) ?_
      rw [show (0 : Int32) = (nI 0) from rfl]
      rcases Nat.eq_zero_or_pos q with hq0 | hq0
      · rw [show ((nI 0) : Int32) = 0 from rfl]
        refine kLi F w hst (LC := [wXo G.2.1 (ad 0) (xF ad) .null K, wSh G.2.1 (ad 1) S]) (LR := [[(z, .inl (G.2.1 4, 80, .inr (.inl sm)))], wSh G.2.1 (ad 2) F2, wTe G.2.1 (ad 4) C, wSb G.2.1 (ad 5) ou, wAd G.2.1 (ad 6) D, wAb G.2.1 (ad 7) B, wHo G.2.1 (ad 3) cu ct hs, hsL G.2.1 hs]) (As := [.ref ((ad 0) 0), .int 0]) (rest := []) (l_queued_no F.1 gM hNC (Or.inr (by rw [h.q1, hq0]; decide))) mh_queued vh_queued (List.mem_of_getElem? (i := 597) (by decide +kernel)) 10 [1, 2, 0, 3, 4, 5, 6, 7, 8, 9] rfl rfl rfl ⟨Nat.le_of_ble_eq_true rfl, Nat.le_of_ble_eq_true rfl⟩ rfl hl.1 rfl (Nat.le_of_ble_eq_true rfl) dL_law_185 ⟨by show _ ≤ 660961; omega, by show _ ≤ 7109381; omega⟩ (fun r9 w1 H locs h9 w => ?_)
        obtain ⟨rfl, h9⟩ := h9
        have w := w.jn (L1 := [wXo G.2.1 (ad 0) (xF ad) .null K, wSh G.2.1 (ad 1) S]) (L' := [[(z, .inl (G.2.1 4, 80, .inr (.inl sm)))], wXo G.2.1 (ad 0) (xF ad) .null K, wSh G.2.1 (ad 1) S, wSh G.2.1 (ad 2) F2, wTe G.2.1 (ad 4) C, wSb G.2.1 (ad 5) ou, wAd G.2.1 (ad 6) D, wAb G.2.1 (ad 7) B, wHo G.2.1 (ad 3) cu ct hs, hsL G.2.1 hs]) h9 10 [2, 0, 1, 3, 4, 5, 6, 7, 8, 9] rfl rfl rfl
        exact K188 kd a e rr D9 (-77) F2 _ _ H locs ls hkd ha (by omega) hD9 a7 (fun z => absurd hq0 z) (by omega) (by omega) w (lv_sub hl [0, 1, 2, 3, 4, 5, 6, 7, 8, 9, 10, 11, 12, 13, 14, 15, 16] rfl)
      · refine kLi F w hst (LC := [wXo G.2.1 (ad 0) (xF ad) .null K, wSh G.2.1 (ad 1) S]) (LR := [[(z, .inl (G.2.1 4, 80, .inr (.inl sm)))], wSh G.2.1 (ad 2) F2, wTe G.2.1 (ad 4) C, wSb G.2.1 (ad 5) ou, wAd G.2.1 (ad 6) D, wAb G.2.1 (ad 7) B, wHo G.2.1 (ad 3) cu ct hs, hsL G.2.1 hs]) (As := [.ref ((ad 0) 0), .int (nI 0)]) (rest := []) (l_queued_ok F.1 h.q1 (kk := 0) hq0 h.q16) mh_queued vh_queued (List.mem_of_getElem? (i := 597) (by decide +kernel)) 10 [1, 2, 0, 3, 4, 5, 6, 7, 8, 9] rfl rfl rfl ⟨Nat.le_of_ble_eq_true rfl, Nat.le_of_ble_eq_true rfl⟩ rfl hl.1 rfl (Nat.le_of_ble_eq_true rfl) dL_law_185 ⟨by show _ ≤ 660961; omega, by show _ ≤ 7109381; omega⟩ (fun r9 w1 H locs h9 w => ?_)
        obtain ⟨rfl, h9⟩ := h9
        have w := w.jn (L1 := [wXo G.2.1 (ad 0) (xF ad) .null K, wSh G.2.1 (ad 1) S]) (L' := [[(z, .inl (G.2.1 4, 80, .inr (.inl sm)))], wXo G.2.1 (ad 0) (xF ad) .null K, wSh G.2.1 (ad 1) S, wSh G.2.1 (ad 2) F2, wTe G.2.1 (ad 4) C, wSb G.2.1 (ad 5) ou, wAd G.2.1 (ad 6) D, wAb G.2.1 (ad 7) B, wHo G.2.1 (ad 3) cu ct hs, hsL G.2.1 hs]) h9 10 [2, 0, 1, 3, 4, 5, 6, 7, 8, 9] rfl rfl rfl
        exact K188 kd a e rr D9 (S.2 9 0) F2 _ _ H locs ls hkd ha (by omega) hD9 a7 (fun _ => rfl) (by omega) (by omega) w (lv_sub hl [0, 1, 2, 3, 4, 5, 6, 7, 8, 9, 10, 11, 12, 13, 14, 15, 16] rfl)
    have K142 : ∀ (kd a : Nat) (cells slots : Nat) (H : Heap) (locs : List Loc) (ls : Array Slot), kd < 48 → a < 100 → cells ≤ 400 * i + 502 → slots ≤ 4000 * i + 5020 → Wd G A s.heap (fl [[(z, .inl (G.2.1 4, 80, .inr (.inl sm)))], wXo G.2.1 (ad 0) (xF ad) .null K, wSh G.2.1 (ad 1) S, wSh G.2.1 (ad 2) Fc, wTe G.2.1 (ad 4) C, wSb G.2.1 (ad 5) ou, wAd G.2.1 (ad 6) D, wAb G.2.1 (ad 7) B, wHo G.2.1 (ad 3) cu ct hs, hsL G.2.1 hs]) H locs → lv_has ls 26 [(11, .int (nI c)), (10, .int (nI kd)), (9, .int (nI ct)), (7, .long (sumF S c t q)), (6, .int (nI i)), (5, .int pd), (4, .int (nI k)), (3, .int (nI made)), (2, .ref z), (1, .ref ((ad 0) 0)), (0, .ref b)] → W p l e0 room_1 s m0 args below meth cm H locs cells slots QQ (F0 m0 142 ls [.int (nI a)]) := by
      intro kd a cells slots H locs ls hkd ha hc9 hs9 w hl
      refine lv_istore (lv' := [(12, .int (nI a)), (11, .int (nI c)), (10, .int (nI kd)), (9, .int (nI ct)), (7, .long (sumF S c t q)), (6, .int (nI i)), (5, .int pd), (4, .int (nI k)), (3, .int (nI made)), (2, .ref z), (1, .ref ((ad 0) 0)), (0, .ref b)]) F.x F.b dL_law_142 hl (by decide) rfl (fun ls hl => ?_)
      refine lv_aload_n F.x F.b dL_law_144 rfl (lv_at hl 10 rfl) ?_
      refine lv_iload F.x F.b dL_law_145 (lv_at hl 0 rfl) ?_
      rcases h.slotOr (nI a) with ⟨hsl, hno⟩ | ⟨pp, hp, hid, hsl⟩
      · refine kLi F w hst (LC := [wXo G.2.1 (ad 0) (xF ad) .null K, wSh G.2.1 (ad 1) S]) (LR := [[(z, .inl (G.2.1 4, 80, .inr (.inl sm)))], wSh G.2.1 (ad 2) Fc, wTe G.2.1 (ad 4) C, wSb G.2.1 (ad 5) ou, wAd G.2.1 (ad 6) D, wAb G.2.1 (ad 7) B, wHo G.2.1 (ad 3) cu ct hs, hsL G.2.1 hs]) (As := [.ref ((ad 0) 0), .int (nI a)]) (rest := []) (l_duty_no F.1 gM hNC hsl) mh_duty vh_duty (List.mem_of_getElem? (i := 510) (by decide +kernel)) 10 [1, 2, 0, 3, 4, 5, 6, 7, 8, 9] rfl rfl rfl ⟨Nat.le_of_ble_eq_true rfl, Nat.le_of_ble_eq_true rfl⟩ rfl hl.1 rfl (Nat.le_of_ble_eq_true rfl) dL_law_147 ⟨by show _ ≤ 660961; omega, by show _ ≤ 7109381; omega⟩ (fun r9 w1 H locs h9 w => ?_)
        obtain ⟨rfl, h9⟩ := h9
        have w := w.jn (L1 := [wXo G.2.1 (ad 0) (xF ad) .null K, wSh G.2.1 (ad 1) S]) (L' := [[(z, .inl (G.2.1 4, 80, .inr (.inl sm)))], wXo G.2.1 (ad 0) (xF ad) .null K, wSh G.2.1 (ad 1) S, wSh G.2.1 (ad 2) Fc, wTe G.2.1 (ad 4) C, wSb G.2.1 (ad 5) ou, wAd G.2.1 (ad 6) D, wAb G.2.1 (ad 7) B, wHo G.2.1 (ad 3) cu ct hs, hsL G.2.1 hs]) h9 10 [2, 0, 1, 3, 4, 5, 6, 7, 8, 9] rfl rfl rfl
        exact K150 kd a (-75) _ _ H locs ls hkd ha (Or.inr ⟨hno, rfl⟩) (by omega) (by omega) w (lv_sub hl [0, 1, 2, 3, 4, 5, 6, 7, 8, 9, 10, 11] rfl)
      · refine kLi F w hst (LC := [wXo G.2.1 (ad 0) (xF ad) .null K, wSh G.2.1 (ad 1) S]) (LR := [[(z, .inl (G.2.1 4, 80, .inr (.inl sm)))], wSh G.2.1 (ad 2) Fc, wTe G.2.1 (ad 4) C, wSb G.2.1 (ad 5) ou, wAd G.2.1 (ad 6) D, wAb G.2.1 (ad 7) B, wHo G.2.1 (ad 3) cu ct hs, hsL G.2.1 hs]) (As := [.ref ((ad 0) 0), .int (nI a)]) (rest := []) (l_duty_ok F.1 hsl (by omega) (h.dutyOf hp)) mh_duty vh_duty (List.mem_of_getElem? (i := 510) (by decide +kernel)) 10 [1, 2, 0, 3, 4, 5, 6, 7, 8, 9] rfl rfl rfl ⟨Nat.le_of_ble_eq_true rfl, Nat.le_of_ble_eq_true rfl⟩ rfl hl.1 rfl (Nat.le_of_ble_eq_true rfl) dL_law_147 ⟨by show _ ≤ 660961; omega, by show _ ≤ 7109381; omega⟩ (fun r9 w1 H locs h9 w => ?_)
        obtain ⟨rfl, h9⟩ := h9
        have w := w.jn (L1 := [wXo G.2.1 (ad 0) (xF ad) .null K, wSh G.2.1 (ad 1) S]) (L' := [[(z, .inl (G.2.1 4, 80, .inr (.inl sm)))], wXo G.2.1 (ad 0) (xF ad) .null K, wSh G.2.1 (ad 1) S, wSh G.2.1 (ad 2) Fc, wTe G.2.1 (ad 4) C, wSb G.2.1 (ad 5) ou, wAd G.2.1 (ad 6) D, wAb G.2.1 (ad 7) B, wHo G.2.1 (ad 3) cu ct hs, hsL G.2.1 hs]) h9 10 [2, 0, 1, 3, 4, 5, 6, 7, 8, 9] rfl rfl rfl
        exact K150 kd a (nI (owe S t pp)) _ _ H locs ls hkd ha (Or.inl ⟨pp, hp, hid, rfl⟩) (by omega) (by omega) w (lv_sub hl [0, 1, 2, 3, 4, 5, 6, 7, 8, 9, 10, 11] rfl)
    have K92 : ∀ (kd : Nat) (cells slots : Nat) (H : Heap) (locs : List Loc) (ls : Array Slot), kd < 48 → cells ≤ 400 * i + 501 → slots ≤ 4000 * i + 5010 → Wd G A s.heap (fl [[(z, .inl (G.2.1 4, 80, .inr (.inl sm)))], wXo G.2.1 (ad 0) (xF ad) .null K, wSh G.2.1 (ad 1) S, wSh G.2.1 (ad 2) Fc, wTe G.2.1 (ad 4) C, wSb G.2.1 (ad 5) ou, wAd G.2.1 (ad 6) D, wAb G.2.1 (ad 7) B, wHo G.2.1 (ad 3) cu ct hs, hsL G.2.1 hs]) H locs → lv_has ls 26 [(9, .int (nI ct)), (7, .long (sumF S c t q)), (6, .int (nI i)), (5, .int pd), (4, .int (nI k)), (3, .int (nI made)), (2, .ref z), (1, .ref ((ad 0) 0)), (0, .ref b)] → W p l e0 room_1 s m0 args below meth cm H locs cells slots QQ (F0 m0 92 ls [.int (nI kd)]) := by
      intro kd cells slots H locs ls hkd hc9 hs9 w hl
      refine lv_istore (lv' := [(10, .int (nI kd)), (9, .int (nI ct)), (7, .long (sumF S c t q)), (6, .int (nI i)), (5, .int pd), (4, .int (nI k)), (3, .int (nI made)), (2, .ref z), (1, .ref ((ad 0) 0)), (0, .ref b)]) F.x F.b dL_law_92 hl (by decide) rfl (fun ls hl => ?_)
      refine lv_aload_n F.x F.b dL_law_94 rfl (lv_at hl 8 rfl) ?_
      refine kXi F w hst (LC := [wXo G.2.1 (ad 0) (xF ad) .null K, wSh G.2.1 (ad 1) S]) (LR := [[(z, .inl (G.2.1 4, 80, .inr (.inl sm)))], wSh G.2.1 (ad 2) Fc, wTe G.2.1 (ad 4) C, wSb G.2.1 (ad 5) ou, wAd G.2.1 (ad 6) D, wAb G.2.1 (ad 7) B, wHo G.2.1 (ad 3) cu ct hs, hsL G.2.1 hs]) (As := []) (rest := []) ((t_X6_lotCount F.1 (x := ad 0) (a := ad 1) (rf := xF ad) (sv := .null) rfl (show f_X6_lotCount K S = some (S.1 0) from rfl)).toX : CX G yX6_lotCount cX6_lotCount 1 .int 0 0 0 0 [.ref ((ad 0) 0)] (fl [wXo G.2.1 (ad 0) (xF ad) .null K, wSh G.2.1 (ad 1) S]) _ _) m_X6_lotCount v_X6_lotCount q291 (ci := 10) (q0 := 1) rfl rfl rfl 10 [1, 2, 0, 3, 4, 5, 6, 7, 8, 9] rfl rfl rfl ⟨Nat.le_of_ble_eq_true rfl, Nat.le_of_ble_eq_true rfl⟩ rfl hl.1 rfl (Nat.le_of_ble_eq_true rfl) dL_law_95 ⟨by show _ ≤ 660961; omega, by show _ ≤ 7109381; omega⟩ (fun _ _ _ _ _ _ hx => False.elim hx) (fun r9 w1 H locs h9 w => ?_)
      obtain ⟨rfl, h9⟩ := h9
      have w := w.jn (L1 := [wXo G.2.1 (ad 0) (xF ad) .null K, wSh G.2.1 (ad 1) S]) (L' := [[(z, .inl (G.2.1 4, 80, .inr (.inl sm)))], wXo G.2.1 (ad 0) (xF ad) .null K, wSh G.2.1 (ad 1) S, wSh G.2.1 (ad 2) Fc, wTe G.2.1 (ad 4) C, wSb G.2.1 (ad 5) ou, wAd G.2.1 (ad 6) D, wAb G.2.1 (ad 7) B, wHo G.2.1 (ad 3) cu ct hs, hsL G.2.1 hs]) h9 10 [2, 0, 1, 3, 4, 5, 6, 7, 8, 9] rfl rfl rfl
      rw [show ((S.1 0) : Int32) = (nI c) from h.c1]
      refine lv_istore (lv' := [(11, .int (nI c)), (10, .int (nI kd)), (9, .int (nI ct)), (7, .long (sumF S c t q)), (6, .int (nI i)), (5, .int pd), (4, .int (nI k)), (3, .int (nI made)), (2, .ref z), (1, .ref ((ad 0) 0)), (0, .ref b)]) F.x F.b dL_law_98 hl (by decide) rfl (fun ls hl => ?_)
      refine lv_iload F.x F.b dL_law_100 (lv_at hl 0 rfl) ?_
      rcases Nat.eq_zero_or_pos c with hcz | hcz
      · refine lv_if_eq (tgt := 115) F.x F.b dL_law_102 (by decide) (fun _ => ?_) (fun c9 => absurd (show nI c = 0 by rw [hcz]; rfl) c9)
        refine lv_aload_n F.x F.b dL_law_115 rfl (lv_at hl 10 rfl) ?_
        refine lv_iload F.x F.b dL_law_116 (lv_at hl 6 rfl) ?_
        refine lv_iconst (v := 2) F.x F.b dL_law_118 (by decide) ?_
        refine lv_iadd F.x F.b dL_law_119 ?_
        rw [show (((nI k) + 2) : Int32) = (nI (k + 2)) from (nI_add k 2)]
        refine lv_bipush (v := 30) F.x F.b dL_law_120 (by decide) ?_
        rw [show (30 : Int32) = (nI 30) from rfl]
        refine kBi F w hst (LC := []) (LR := [[(z, .inl (G.2.1 4, 80, .inr (.inl sm)))], wXo G.2.1 (ad 0) (xF ad) .null K, wSh G.2.1 (ad 1) S, wSh G.2.1 (ad 2) Fc, wTe G.2.1 (ad 4) C, wSb G.2.1 (ad 5) ou, wAd G.2.1 (ad 6) D, wAb G.2.1 (ad 7) B, wHo G.2.1 (ad 3) cu ct hs, hsL G.2.1 hs]) (As := [.ref b, .int (nI (k + 2)), .int (nI 30)]) (rest := []) (w_pick F.1 hXS (k := k + 2) (n := 30) (by omega) (by omega) (by omega)) m_L_pick v_L_pick q353 10 [0, 1, 2, 3, 4, 5, 6, 7, 8, 9] rfl rfl rfl ⟨Nat.le_of_ble_eq_true rfl, Nat.le_of_ble_eq_true rfl⟩ rfl hl.1 rfl (Nat.le_of_ble_eq_true rfl) dL_law_122 ⟨by show _ ≤ 660961; omega, by show _ ≤ 7109381; omega⟩ (fun r9 w1 H locs h9 w => ?_)
        obtain ⟨⟨a, ha, rfl⟩, h9⟩ := h9
        have w := w.jn (L1 := []) (L' := [[(z, .inl (G.2.1 4, 80, .inr (.inl sm)))], wXo G.2.1 (ad 0) (xF ad) .null K, wSh G.2.1 (ad 1) S, wSh G.2.1 (ad 2) Fc, wTe G.2.1 (ad 4) C, wSb G.2.1 (ad 5) ou, wAd G.2.1 (ad 6) D, wAb G.2.1 (ad 7) B, wHo G.2.1 (ad 3) cu ct hs, hsL G.2.1 hs]) h9 10 [0, 1, 2, 3, 4, 5, 6, 7, 8, 9] rfl rfl rfl
        refine lv_goto (tgt := 142) F.x F.b dL_law_125 (by decide) ?_
        exact K142 kd a _ _ H locs ls hkd (by omega) (by omega) (by omega) w (lv_sub hl [0, 1, 2, 3, 4, 5, 6, 7, 8, 9, 10] rfl)
      · refine lv_if_eq (tgt := 115) F.x F.b dL_law_102 (by decide) (fun c9 => absurd c9 (show ¬ nI c = 0 from fun z => absurd ((nI_eq (a := c) (b := 0) (by omega) (by omega)).mp z) (by omega))) (fun _ => ?_)
        refine lv_iload F.x F.b dL_law_105 (lv_at hl 4 rfl) ?_
        refine lv_bipush (v := 13) F.x F.b dL_law_107 (by decide) ?_
        refine lv_irem F.x F.b dL_law_109 (by decide) ?_
        refine lv_bipush (v := 12) F.x F.b dL_law_110 (by decide) ?_
        rcases Decidable.em (((nI i) - (nI i) / 13 * 13) = 12) with z9 | z9
        · refine lv_icmp_ne (tgt := 128) F.x F.b dL_law_112 (by decide) (fun c9 => absurd z9 c9) (fun _ => ?_)
          refine lv_aload_n F.x F.b dL_law_115 rfl (lv_at hl 10 rfl) ?_
          refine lv_iload F.x F.b dL_law_116 (lv_at hl 6 rfl) ?_
          refine lv_iconst (v := 2) F.x F.b dL_law_118 (by decide) ?_
          refine lv_iadd F.x F.b dL_law_119 ?_
          rw [show (((nI k) + 2) : Int32) = (nI (k + 2)) from (nI_add k 2)]
          refine lv_bipush (v := 30) F.x F.b dL_law_120 (by decide) ?_
          rw [show (30 : Int32) = (nI 30) from rfl]
          refine kBi F w hst (LC := []) (LR := [[(z, .inl (G.2.1 4, 80, .inr (.inl sm)))], wXo G.2.1 (ad 0) (xF ad) .null K, wSh G.2.1 (ad 1) S, wSh G.2.1 (ad 2) Fc, wTe G.2.1 (ad 4) C, wSb G.2.1 (ad 5) ou, wAd G.2.1 (ad 6) D, wAb G.2.1 (ad 7) B, wHo G.2.1 (ad 3) cu ct hs, hsL G.2.1 hs]) (As := [.ref b, .int (nI (k + 2)), .int (nI 30)]) (rest := []) (w_pick F.1 hXS (k := k + 2) (n := 30) (by omega) (by omega) (by omega)) m_L_pick v_L_pick q353 10 [0, 1, 2, 3, 4, 5, 6, 7, 8, 9] rfl rfl rfl ⟨Nat.le_of_ble_eq_true rfl, Nat.le_of_ble_eq_true rfl⟩ rfl hl.1 rfl (Nat.le_of_ble_eq_true rfl) dL_law_122 ⟨by show _ ≤ 660961; omega, by show _ ≤ 7109381; omega⟩ (fun r9 w1 H locs h9 w => ?_)
          obtain ⟨⟨a, ha, rfl⟩, h9⟩ := h9
          have w := w.jn (L1 := []) (L' := [[(z, .inl (G.2.1 4, 80, .inr (.inl sm)))], wXo G.2.1 (ad 0) (xF ad) .null K, wSh G.2.1 (ad 1) S, wSh G.2.1 (ad 2) Fc, wTe G.2.1 (ad 4) C, wSb G.2.1 (ad 5) ou, wAd G.2.1 (ad 6) D, wAb G.2.1 (ad 7) B, wHo G.2.1 (ad 3) cu ct hs, hsL G.2.1 hs]) h9 10 [0, 1, 2, 3, 4, 5, 6, 7, 8, 9] rfl rfl rfl
          refine lv_goto (tgt := 142) F.x F.b dL_law_125 (by decide) ?_
          exact K142 kd a _ _ H locs ls hkd (by omega) (by omega) (by omega) w (lv_sub hl [0, 1, 2, 3, 4, 5, 6, 7, 8, 9, 10] rfl)
        · refine lv_icmp_ne (tgt := 128) F.x F.b dL_law_112 (by decide) (fun _ => ?_) (fun c9 => absurd c9 z9)
          refine lv_aload_n F.x F.b dL_law_128 rfl (lv_at hl 9 rfl) ?_
          refine lv_aload_n F.x F.b dL_law_129 rfl (lv_at hl 10 rfl) ?_
          refine lv_iload F.x F.b dL_law_130 (lv_at hl 6 rfl) ?_
          refine lv_iconst (v := 2) F.x F.b dL_law_132 (by decide) ?_
          refine lv_iadd F.x F.b dL_law_133 ?_
          rw [show (((nI k) + 2) : Int32) = (nI (k + 2)) from (nI_add k 2)]
          refine lv_iload F.x F.b dL_law_134 (lv_at hl 0 rfl) ?_
          refine kBi F w hst (LC := []) (LR := [[(z, .inl (G.2.1 4, 80, .inr (.inl sm)))], wXo G.2.1 (ad 0) (xF ad) .null K, wSh G.2.1 (ad 1) S, wSh G.2.1 (ad 2) Fc, wTe G.2.1 (ad 4) C, wSb G.2.1 (ad 5) ou, wAd G.2.1 (ad 6) D, wAb G.2.1 (ad 7) B, wHo G.2.1 (ad 3) cu ct hs, hsL G.2.1 hs]) (As := [.ref b, .int (nI (k + 2)), .int (nI c)]) (rest := [.ref ((ad 0) 0)]) (w_pick F.1 hXS (k := k + 2) (n := c) (by omega) (by omega) (by omega)) m_L_pick v_L_pick q353 10 [0, 1, 2, 3, 4, 5, 6, 7, 8, 9] rfl rfl rfl ⟨Nat.le_of_ble_eq_true rfl, Nat.le_of_ble_eq_true rfl⟩ rfl hl.1 rfl (Nat.le_of_ble_eq_true rfl) dL_law_136 ⟨by show _ ≤ 660961; omega, by show _ ≤ 7109381; omega⟩ (fun r9 w1 H locs h9 w => ?_)
          obtain ⟨⟨pk, hpk, rfl⟩, h9⟩ := h9
          have w := w.jn (L1 := []) (L' := [[(z, .inl (G.2.1 4, 80, .inr (.inl sm)))], wXo G.2.1 (ad 0) (xF ad) .null K, wSh G.2.1 (ad 1) S, wSh G.2.1 (ad 2) Fc, wTe G.2.1 (ad 4) C, wSb G.2.1 (ad 5) ou, wAd G.2.1 (ad 6) D, wAb G.2.1 (ad 7) B, wHo G.2.1 (ad 3) cu ct hs, hsL G.2.1 hs]) h9 10 [0, 1, 2, 3, 4, 5, 6, 7, 8, 9] rfl rfl rfl
          obtain ⟨v, -, hv, ev⟩ := h.D.2 pk hpk
          refine kLi F w hst (LC := [wXo G.2.1 (ad 0) (xF ad) .null K, wSh G.2.1 (ad 1) S]) (LR := [[(z, .inl (G.2.1 4, 80, .inr (.inl sm)))], wSh G.2.1 (ad 2) Fc, wTe G.2.1 (ad 4) C, wSb G.2.1 (ad 5) ou, wAd G.2.1 (ad 6) D, wAb G.2.1 (ad 7) B, wHo G.2.1 (ad 3) cu ct hs, hsL G.2.1 hs]) (As := [.ref ((ad 0) 0), .int (nI pk)]) (rest := []) (l_lot_ok F.1 h.c1 (kk := pk) hpk h.c16) mh_lot vh_lot (List.mem_of_getElem? (i := 360) (by decide +kernel)) 10 [1, 2, 0, 3, 4, 5, 6, 7, 8, 9] rfl rfl rfl ⟨Nat.le_of_ble_eq_true rfl, Nat.le_of_ble_eq_true rfl⟩ rfl hl.1 rfl (Nat.le_of_ble_eq_true rfl) dL_law_139 ⟨by show _ ≤ 660961; omega, by show _ ≤ 7109381; omega⟩ (fun r9 w1 H locs h9 w => ?_)
          obtain ⟨rfl, h9⟩ := h9
          have w := w.jn (L1 := [wXo G.2.1 (ad 0) (xF ad) .null K, wSh G.2.1 (ad 1) S]) (L' := [[(z, .inl (G.2.1 4, 80, .inr (.inl sm)))], wXo G.2.1 (ad 0) (xF ad) .null K, wSh G.2.1 (ad 1) S, wSh G.2.1 (ad 2) Fc, wTe G.2.1 (ad 4) C, wSb G.2.1 (ad 5) ou, wAd G.2.1 (ad 6) D, wAb G.2.1 (ad 7) B, wHo G.2.1 (ad 3) cu ct hs, hsL G.2.1 hs]) h9 10 [2, 0, 1, 3, 4, 5, 6, 7, 8, 9] rfl rfl rfl
          rw [show ((S.2 0 pk) : Int32) = (nI v) from ev]
          exact K142 kd v _ _ H locs ls hkd (by omega) (by omega) (by omega) w (lv_sub hl [0, 1, 2, 3, 4, 5, 6, 7, 8, 9, 10] rfl)
    rcases Nat.lt_or_ge i 5 with i5 | i5
    · refine lv_icmp_ge (tgt := 60) F.x F.b dL_law_53 (by decide) (fun c9 => absurd c9 (show ¬ (5 : Int32) ≤ nI i from fun z => absurd ((nI_leI (a := 5) (b := i) (by omega) (by omega)).mp z) (by omega))) (fun _ => ?_)
      refine lv_iconst (v := 0) F.x F.b dL_law_56 (by decide) ?_
      refine lv_goto (tgt := 92) F.x F.b dL_law_57 (by decide) ?_
      exact K92 0 _ _ H locs ls (by omega) (by omega) (by omega) w (lv_sub hl [0, 1, 2, 3, 4, 5, 6, 7, 8] rfl)
    · refine lv_icmp_ge (tgt := 60) F.x F.b dL_law_53 (by decide) (fun _ => ?_) (fun c9 => absurd (show (5 : Int32) ≤ nI i from (nI_leI (a := 5) (b := i) (by omega) (by omega)).mpr (by omega)) c9)
      refine lv_iload F.x F.b dL_law_60 (lv_at hl 2 rfl) ?_
      refine lv_bipush (v := 8) F.x F.b dL_law_62 (by decide) ?_
      rcases Nat.lt_or_ge i 8 with i8 | i8
      · refine lv_icmp_ge (tgt := 72) F.x F.b dL_law_64 (by decide) (fun c9 => absurd c9 (show ¬ (8 : Int32) ≤ nI i from fun z => absurd ((nI_leI (a := 8) (b := i) (by omega) (by omega)).mp z) (by omega))) (fun _ => ?_)
        refine lv_bipush (v := 20) F.x F.b dL_law_67 (by decide) ?_
        refine lv_goto (tgt := 92) F.x F.b dL_law_69 (by decide) ?_
        exact K92 20 _ _ H locs ls (by omega) (by omega) (by omega) w (lv_sub hl [0, 1, 2, 3, 4, 5, 6, 7, 8] rfl)
      · refine lv_icmp_ge (tgt := 72) F.x F.b dL_law_64 (by decide) (fun _ => ?_) (fun c9 => absurd (show (8 : Int32) ≤ nI i from (nI_leI (a := 8) (b := i) (by omega) (by omega)).mpr (by omega)) c9)
        refine lv_iload F.x F.b dL_law_72 (lv_at hl 2 rfl) ?_
        refine lv_bipush (v := 10) F.x F.b dL_law_74 (by decide) ?_
        rcases Nat.lt_or_ge i 10 with i10 | i10
        · refine lv_icmp_ge (tgt := 84) F.x F.b dL_law_76 (by decide) (fun c9 => absurd c9 (show ¬ (10 : Int32) ≤ nI i from fun z => absurd ((nI_leI (a := 10) (b := i) (by omega) (by omega)).mp z) (by omega))) (fun _ => ?_)
          refine lv_bipush (v := 16) F.x F.b dL_law_79 (by decide) ?_
          refine lv_goto (tgt := 92) F.x F.b dL_law_81 (by decide) ?_
          exact K92 16 _ _ H locs ls (by omega) (by omega) (by omega) w (lv_sub hl [0, 1, 2, 3, 4, 5, 6, 7, 8] rfl)
        · refine lv_icmp_ge (tgt := 84) F.x F.b dL_law_76 (by decide) (fun _ => ?_) (fun c9 => absurd (show (10 : Int32) ≤ nI i from (nI_leI (a := 10) (b := i) (by omega) (by omega)).mpr (by omega)) c9)
          refine lv_aload_n F.x F.b dL_law_84 rfl (lv_at hl 8 rfl) ?_
          refine lv_iload F.x F.b dL_law_85 (lv_at hl 4 rfl) ?_
          refine lv_bipush (v := 48) F.x F.b dL_law_87 (by decide) ?_
          rw [show (48 : Int32) = (nI 48) from rfl]
          refine kBi F w hst (LC := []) (LR := [[(z, .inl (G.2.1 4, 80, .inr (.inl sm)))], wXo G.2.1 (ad 0) (xF ad) .null K, wSh G.2.1 (ad 1) S, wSh G.2.1 (ad 2) Fc, wTe G.2.1 (ad 4) C, wSb G.2.1 (ad 5) ou, wAd G.2.1 (ad 6) D, wAb G.2.1 (ad 7) B, wHo G.2.1 (ad 3) cu ct hs, hsL G.2.1 hs]) (As := [.ref b, .int (nI k), .int (nI 48)]) (rest := []) (w_pick F.1 hXS (k := k) (n := 48) (by omega) (by omega) (by omega)) m_L_pick v_L_pick q353 10 [0, 1, 2, 3, 4, 5, 6, 7, 8, 9] rfl rfl rfl ⟨Nat.le_of_ble_eq_true rfl, Nat.le_of_ble_eq_true rfl⟩ rfl hl.1 rfl (Nat.le_of_ble_eq_true rfl) dL_law_89 ⟨by show _ ≤ 660961; omega, by show _ ≤ 7109381; omega⟩ (fun r9 w1 H locs h9 w => ?_)
          obtain ⟨⟨kd, hkd, rfl⟩, h9⟩ := h9
          have w := w.jn (L1 := []) (L' := [[(z, .inl (G.2.1 4, 80, .inr (.inl sm)))], wXo G.2.1 (ad 0) (xF ad) .null K, wSh G.2.1 (ad 1) S, wSh G.2.1 (ad 2) Fc, wTe G.2.1 (ad 4) C, wSb G.2.1 (ad 5) ou, wAd G.2.1 (ad 6) D, wAb G.2.1 (ad 7) B, wHo G.2.1 (ad 3) cu ct hs, hsL G.2.1 hs]) h9 10 [0, 1, 2, 3, 4, 5, 6, 7, 8, 9] rfl rfl rfl
          exact K92 kd _ _ H locs ls hkd (by omega) (by omega) w (lv_sub hl [0, 1, 2, 3, 4, 5, 6, 7, 8] rfl)

/-! printed by wip/whole/tools/gen99l.py: the law's loop -/
theorem lp_cmp {i L : Nat} (hL : L ≤ 2560) (hi : i ≤ 2560) : (nI L - 5 < nI i ↔ L < i + 5) := by
  rcases Nat.lt_or_ge L 5 with h | h
  · have h1 : nI L - 5 < 0 := by
      have : ∀ L < 5, nI L - 5 < 0 := by decide +kernel
      exact this L h
    exact ⟨fun _ => by omega, fun _ => Int32.lt_of_lt_of_le h1 (nI_pos' (by omega))⟩
  · have e : nI L - 5 = nI (L - 5) := by
      rw [show nI L = nI (L - 5) + nI 5 from by rw [nI_add]; congr 1; omega]
      show nI (L - 5) + nI 5 - nI 5 = _
      exact Int32.add_sub_cancel _ _
    rw [e, nI_ltI (by omega) (by omega)]
    omega
set_option maxRecDepth 100000 in
set_option maxHeartbeats 4000000 in
theorem law_loop {G : cG} {p : Program} {l : Launch} {e : Env} {R : Room} {s : State} {m : MethodId} {args : Array Value} {below : List Frame} {meth : Method} {c : Code} {A : Nat → Prop} {Q : State → Prop} {ad : Nat → Nat → Nat} {fo fd : Nat} {mo : Nat → Nat} {b L : Nat} {xs : Nat → Int32} {ks kv : Nat → Nat} {d1 d2 : Nat} (F : Fx G p s m c cL_law 9 RL A) (gM : MG G) (hNC : NcG G) (hSG : SG G ks kv) (pv : PV G) (hD : DGs G d1 d2) (hst : l.stackTraces = false) (hX : va_X b L xs s s.heap) (hbA : ¬ A b) (hbl : b < s.heap.size) (hL : L ≤ 2560) (hR1 : 60 ≤ R.frames) (hR2 : 3000 ≤ R.locals) (hRc : R.cells = 603072) (hRs : R.slots = 7194730)
    (hend : ∀ (H : Heap) (locs : List Loc) (ls : Array Slot) (cells slots : Nat), va_S A s.heap H locs → cells ≤ 603072 → slots ≤ 7194730 → W p l e R s m args below meth c H locs cells slots Q (F0 m 2843 ls [.int 1])) :
    ∀ (n i N cells slots : Nat), L < i + 5 + 5 * n → i ≤ L → N ≤ 1 + 64 * i → cells ≤ 200 + 20 * i → slots ≤ 10000 + 200 * i → ∀ (K S Fc C D B : Mem) (cu ct : Nat) (hs : hS) (sv : sV) (ou : oB) (M : Mem) (f0 : Nat → Int64) (fD : Nat → UInt64) (H : Heap) (locs : List Loc) (ls : Array Slot), Wd G A s.heap (fl (wAll G.2.1 ad K S Fc C D B cu ct hs sv ou fo f0 fd fD mo M)) H locs → Top N K S C cu ct hs sv ou M → lv_has ls 9 [(5, .int (nI i)), (4, .ref fd), (3, .ref fo), (2, .ref (mo 0)), (1, .ref ((ad 0) 0)), (0, .ref b)] → W p l e R s m args below meth c H locs cells slots Q (F0 m 28 ls []) := by
  intro n
  induction n with
  | zero =>
    intro i N cells slots hn hi hN hcs hss K S Fc C D B cu ct hs sv ou M f0 fD H locs ls w h hl
    refine lv_iload F.x F.b dL_law_28 (lv_at hl 0 rfl) ?_
    refine lv_aload_n F.x F.b dL_law_30 rfl (lv_at hl 5 rfl) ?_
    refine va_slen F.x F.b hX hbl hbA w.2.2 dL_law_31 ?_
    refine lv_iconst (v := 5) F.x F.b dL_law_32 (by decide) ?_
    refine lv_isub F.x F.b dL_law_33 ?_
    refine lv_icmp_gt (tgt := 2842) F.x F.b dL_law_34 (by decide) (fun c9 => ?_) (fun c9 => absurd ((lp_cmp hL (by omega)).mpr (by omega)) c9)
    refine lv_iconst (v := 1) F.x F.b dL_law_2842 (by decide) ?_
    exact hend H locs ls cells slots w.2.2 (by omega) (by omega)
  | succ n ih =>
    intro i N cells slots hn hi hN hcs hss K S Fc C D B cu ct hs sv ou M f0 fD H locs ls w h hl
    refine lv_iload F.x F.b dL_law_28 (lv_at hl 0 rfl) ?_
    refine lv_aload_n F.x F.b dL_law_30 rfl (lv_at hl 5 rfl) ?_
    refine va_slen F.x F.b hX hbl hbA w.2.2 dL_law_31 ?_
    refine lv_iconst (v := 5) F.x F.b dL_law_32 (by decide) ?_
    refine lv_isub F.x F.b dL_law_33 ?_
    refine lv_icmp_gt (tgt := 2842) F.x F.b dL_law_34 (by decide) (fun c9 => ?_) (fun c9 => ?_)
    · refine lv_iconst (v := 1) F.x F.b dL_law_2842 (by decide) ?_
      exact hend H locs ls cells slots w.2.2 (by omega) (by omega)
    · have hi5 : i + 5 ≤ L := Nat.not_lt.mp (fun z => c9 ((lp_cmp hL (by omega)).mpr z))
      have hN2 : N < 2 ^ 29 := by omega
      have hc1 : cells + 20 ≤ R.cells := by omega
      have hs1 : slots + 200 ≤ R.slots := by omega
      have kk : KKc G p l e R s m args below meth c A Q ad fo fd mo b i N cells slots := by
        intro K S Fc C D B cu ct hs sv ou M f fD H locs ls w h hl
        refine lv_iinc (v := nI (i + 5)) (lv' := [(5, .int (nI (i + 5))), (4, .ref fd), (3, .ref fo), (2, .ref (mo 0)), (1, .ref ((ad 0) 0)), (0, .ref b)]) F.x F.b dL_law_2836 hl (k := 0) rfl (by rw [show Int32.ofInt 5 = nI 5 from by decide, nI_add]) (by decide) rfl (fun ls hl => ?_)
        refine lv_goto (tgt := 28) F.x F.b dL_law_2839 (by decide) ?_
        exact ih (i + 5) (N + 64) (cells + 20) (slots + 200) (by omega) (by omega) (by omega) (by omega) (by omega) K S Fc C D B cu ct hs sv ou M f fD H locs ls w h hl
      refine lv_aload_n F.x F.b dL_law_37 rfl (lv_at hl 5 rfl) ?_
      refine lv_iload F.x F.b dL_law_38 (lv_at hl 0 rfl) ?_
      refine rX F w hX hbA hbl (k := i) rfl (by omega) hL dL_law_40 ?_
      refine lv_bipush (v := 63) F.x F.b dL_law_41 (by decide) ?_
      refine lv_iand F.x F.b dL_law_43 ?_
      obtain ⟨v, hv, ev⟩ := pk_andE (xs i) (m := 63) 6 (by decide)
      rw [ev]
      rcases Nat.lt_or_ge v 58 with hv2 | hv2
      · have go : ∀ v ∈ [0, 1, 2, 3, 4, 5, 6, 7, 8, 9, 10, 11, 12, 13, 14, 15, 16, 17, 18, 19, 20, 21, 22, 23, 24, 25, 26, 27, 28, 29, 30, 31, 32, 33, 34, 35, 36, 37, 38, 39, 40, 41, 42, 43, 44, 45, 46, 47, 48, 49, 50, 51, 52, 53, 54, 55, 56, 57], W p l e R s m args below meth c H locs cells slots Q (F0 m 44 ls [.int (nI v)]) := by
          refine List.forall_mem_cons.mpr ⟨?_, ?_⟩
          · exact lv_tableIn (tgt := 292) F.x F.b dL_law_44 (by decide) (by decide) rfl (by decide) (cs_0 F gM hNC hSG pv hD hst hX hbA hbl hL hi5 hR1 hR2 hc1 hs1 hN2 h w hl kk)
          refine List.forall_mem_cons.mpr ⟨?_, ?_⟩
          · exact lv_tableIn (tgt := 386) F.x F.b dL_law_44 (by decide) (by decide) rfl (by decide) (cs_1 F gM hNC hSG pv hD hst hX hbA hbl hL hi5 hR1 hR2 hc1 hs1 hN2 h w hl kk)
          refine List.forall_mem_cons.mpr ⟨?_, ?_⟩
          · exact lv_tableIn (tgt := 442) F.x F.b dL_law_44 (by decide) (by decide) rfl (by decide) (cs_2 F gM hNC hSG pv hD hst hX hbA hbl hL hi5 hR1 hR2 hc1 hs1 hN2 h w hl kk)
          refine List.forall_mem_cons.mpr ⟨?_, ?_⟩
          · exact lv_tableIn (tgt := 498) F.x F.b dL_law_44 (by decide) (by decide) rfl (by decide) (cs_3 F gM hNC hSG pv hD hst hX hbA hbl hL hi5 hR1 hR2 hc1 hs1 hN2 h w hl kk)
          refine List.forall_mem_cons.mpr ⟨?_, ?_⟩
          · exact lv_tableIn (tgt := 554) F.x F.b dL_law_44 (by decide) (by decide) rfl (by decide) (cs_4 F gM hNC hSG pv hD hst hX hbA hbl hL hi5 hR1 hR2 hc1 hs1 hN2 h w hl kk)
          refine List.forall_mem_cons.mpr ⟨?_, ?_⟩
          · exact lv_tableIn (tgt := 622) F.x F.b dL_law_44 (by decide) (by decide) rfl (by decide) (cs_5 F gM hNC hSG pv hD hst hX hbA hbl hL hi5 hR1 hR2 hc1 hs1 hN2 h w hl kk)
          refine List.forall_mem_cons.mpr ⟨?_, ?_⟩
          · exact lv_tableIn (tgt := 635) F.x F.b dL_law_44 (by decide) (by decide) rfl (by decide) (cs_6 F gM hNC hSG pv hD hst hX hbA hbl hL hi5 hR1 hR2 hc1 hs1 hN2 h w hl kk)
          refine List.forall_mem_cons.mpr ⟨?_, ?_⟩
          · exact lv_tableIn (tgt := 691) F.x F.b dL_law_44 (by decide) (by decide) rfl (by decide) (cs_7 F gM hNC hSG pv hD hst hX hbA hbl hL hi5 hR1 hR2 hc1 hs1 hN2 h w hl kk)
          refine List.forall_mem_cons.mpr ⟨?_, ?_⟩
          · exact lv_tableIn (tgt := 747) F.x F.b dL_law_44 (by decide) (by decide) rfl (by decide) (cs_8 F gM hNC hSG pv hD hst hX hbA hbl hL hi5 hR1 hR2 hc1 hs1 hN2 h w hl kk)
          refine List.forall_mem_cons.mpr ⟨?_, ?_⟩
          · exact lv_tableIn (tgt := 803) F.x F.b dL_law_44 (by decide) (by decide) rfl (by decide) (cs_9 F gM hNC hSG pv hD hst hX hbA hbl hL hi5 hR1 hR2 hc1 hs1 hN2 h w hl kk)
          refine List.forall_mem_cons.mpr ⟨?_, ?_⟩
          · exact lv_tableIn (tgt := 859) F.x F.b dL_law_44 (by decide) (by decide) rfl (by decide) (cs_10 F gM hNC hSG pv hD hst hX hbA hbl hL hi5 hR1 hR2 hc1 hs1 hN2 h w hl kk)
          refine List.forall_mem_cons.mpr ⟨?_, ?_⟩
          · exact lv_tableIn (tgt := 915) F.x F.b dL_law_44 (by decide) (by decide) rfl (by decide) (cs_11 F gM hNC hSG pv hD hst hX hbA hbl hL hi5 hR1 hR2 hc1 hs1 hN2 h w hl kk)
          refine List.forall_mem_cons.mpr ⟨?_, ?_⟩
          · exact lv_tableIn (tgt := 971) F.x F.b dL_law_44 (by decide) (by decide) rfl (by decide) (cs_12 F gM hNC hSG pv hD hst hX hbA hbl hL hi5 hR1 hR2 hc1 hs1 hN2 h w hl kk)
          refine List.forall_mem_cons.mpr ⟨?_, ?_⟩
          · exact lv_tableIn (tgt := 1034) F.x F.b dL_law_44 (by decide) (by decide) rfl (by decide) (cs_13 F gM hNC hSG pv hD hst hX hbA hbl hL hi5 hR1 hR2 hc1 hs1 hN2 h w hl kk)
          refine List.forall_mem_cons.mpr ⟨?_, ?_⟩
          · exact lv_tableIn (tgt := 1097) F.x F.b dL_law_44 (by decide) (by decide) rfl (by decide) (cs_14 F gM hNC hSG pv hD hst hX hbA hbl hL hi5 hR1 hR2 hc1 hs1 hN2 h w hl kk)
          refine List.forall_mem_cons.mpr ⟨?_, ?_⟩
          · exact lv_tableIn (tgt := 1153) F.x F.b dL_law_44 (by decide) (by decide) rfl (by decide) (cs_15 F gM hNC hSG pv hD hst hX hbA hbl hL hi5 hR1 hR2 hc1 hs1 hN2 h w hl kk)
          refine List.forall_mem_cons.mpr ⟨?_, ?_⟩
          · exact lv_tableIn (tgt := 1209) F.x F.b dL_law_44 (by decide) (by decide) rfl (by decide) (cs_16 F gM hNC hSG pv hD hst hX hbA hbl hL hi5 hR1 hR2 hc1 hs1 hN2 h w hl kk)
          refine List.forall_mem_cons.mpr ⟨?_, ?_⟩
          · exact lv_tableIn (tgt := 1267) F.x F.b dL_law_44 (by decide) (by decide) rfl (by decide) (cs_17 F gM hNC hSG pv hD hst hX hbA hbl hL hi5 hR1 hR2 hc1 hs1 hN2 h w hl kk)
          refine List.forall_mem_cons.mpr ⟨?_, ?_⟩
          · exact lv_tableIn (tgt := 1323) F.x F.b dL_law_44 (by decide) (by decide) rfl (by decide) (cs_18 F gM hNC hSG pv hD hst hX hbA hbl hL hi5 hR1 hR2 hc1 hs1 hN2 h w hl kk)
          refine List.forall_mem_cons.mpr ⟨?_, ?_⟩
          · exact lv_tableIn (tgt := 1391) F.x F.b dL_law_44 (by decide) (by decide) rfl (by decide) (cs_19 F gM hNC hSG pv hD hst hX hbA hbl hL hi5 hR1 hR2 hc1 hs1 hN2 h w hl kk)
          refine List.forall_mem_cons.mpr ⟨?_, ?_⟩
          · exact lv_tableIn (tgt := 1447) F.x F.b dL_law_44 (by decide) (by decide) rfl (by decide) (cs_20 F gM hNC hSG pv hD hst hX hbA hbl hL hi5 hR1 hR2 hc1 hs1 hN2 h w hl kk)
          refine List.forall_mem_cons.mpr ⟨?_, ?_⟩
          · exact lv_tableIn (tgt := 1460) F.x F.b dL_law_44 (by decide) (by decide) rfl (by decide) (cs_21 F gM hNC hSG pv hD hst hX hbA hbl hL hi5 hR1 hR2 hc1 hs1 hN2 h w hl kk)
          refine List.forall_mem_cons.mpr ⟨?_, ?_⟩
          · exact lv_tableIn (tgt := 1516) F.x F.b dL_law_44 (by decide) (by decide) rfl (by decide) (cs_22 F gM hNC hSG pv hD hst hX hbA hbl hL hi5 hR1 hR2 hc1 hs1 hN2 h w hl kk)
          refine List.forall_mem_cons.mpr ⟨?_, ?_⟩
          · exact lv_tableIn (tgt := 1572) F.x F.b dL_law_44 (by decide) (by decide) rfl (by decide) (cs_23 F gM hNC hSG pv hD hst hX hbA hbl hL hi5 hR1 hR2 hc1 hs1 hN2 h w hl kk)
          refine List.forall_mem_cons.mpr ⟨?_, ?_⟩
          · exact lv_tableIn (tgt := 1628) F.x F.b dL_law_44 (by decide) (by decide) rfl (by decide) (cs_24 F gM hNC hSG pv hD hst hX hbA hbl hL hi5 hR1 hR2 hc1 hs1 hN2 h w hl kk)
          refine List.forall_mem_cons.mpr ⟨?_, ?_⟩
          · exact lv_tableIn (tgt := 1684) F.x F.b dL_law_44 (by decide) (by decide) rfl (by decide) (cs_25 F gM hNC hSG pv hD hst hX hbA hbl hL hi5 hR1 hR2 hc1 hs1 hN2 h w hl kk)
          refine List.forall_mem_cons.mpr ⟨?_, ?_⟩
          · exact lv_tableIn (tgt := 1740) F.x F.b dL_law_44 (by decide) (by decide) rfl (by decide) (cs_26 F gM hNC hSG pv hD hst hX hbA hbl hL hi5 hR1 hR2 hc1 hs1 hN2 h w hl kk)
          refine List.forall_mem_cons.mpr ⟨?_, ?_⟩
          · exact lv_tableIn (tgt := 1753) F.x F.b dL_law_44 (by decide) (by decide) rfl (by decide) (cs_27 F gM hNC hSG pv hD hst hX hbA hbl hL hi5 hR1 hR2 hc1 hs1 hN2 h w hl kk)
          refine List.forall_mem_cons.mpr ⟨?_, ?_⟩
          · exact lv_tableIn (tgt := 1766) F.x F.b dL_law_44 (by decide) (by decide) rfl (by decide) (cs_28 F gM hNC hSG pv hD hst hX hbA hbl hL hi5 hR1 hR2 hc1 hs1 hN2 h w hl kk)
          refine List.forall_mem_cons.mpr ⟨?_, ?_⟩
          · exact lv_tableIn (tgt := 1822) F.x F.b dL_law_44 (by decide) (by decide) rfl (by decide) (cs_29 F gM hNC hSG pv hD hst hX hbA hbl hL hi5 hR1 hR2 hc1 hs1 hN2 h w hl kk)
          refine List.forall_mem_cons.mpr ⟨?_, ?_⟩
          · exact lv_tableIn (tgt := 1835) F.x F.b dL_law_44 (by decide) (by decide) rfl (by decide) (cs_30 F gM hNC hSG pv hD hst hX hbA hbl hL hi5 hR1 hR2 hc1 hs1 hN2 h w hl kk)
          refine List.forall_mem_cons.mpr ⟨?_, ?_⟩
          · exact lv_tableIn (tgt := 1848) F.x F.b dL_law_44 (by decide) (by decide) rfl (by decide) (cs_31 F gM hNC hSG pv hD hst hX hbA hbl hL hi5 hR1 hR2 hc1 hs1 hN2 h w hl kk)
          refine List.forall_mem_cons.mpr ⟨?_, ?_⟩
          · exact lv_tableIn (tgt := 1904) F.x F.b dL_law_44 (by decide) (by decide) rfl (by decide) (cs_32 F gM hNC hSG pv hD hst hX hbA hbl hL hi5 hR1 hR2 hc1 hs1 hN2 h w hl kk)
          refine List.forall_mem_cons.mpr ⟨?_, ?_⟩
          · exact lv_tableIn (tgt := 1917) F.x F.b dL_law_44 (by decide) (by decide) rfl (by decide) (cs_33 F gM hNC hSG pv hD hst hX hbA hbl hL hi5 hR1 hR2 hc1 hs1 hN2 h w hl kk)
          refine List.forall_mem_cons.mpr ⟨?_, ?_⟩
          · exact lv_tableIn (tgt := 1930) F.x F.b dL_law_44 (by decide) (by decide) rfl (by decide) (cs_34 F gM hNC hSG pv hD hst hX hbA hbl hL hi5 hR1 hR2 hc1 hs1 hN2 h w hl kk)
          refine List.forall_mem_cons.mpr ⟨?_, ?_⟩
          · exact lv_tableIn (tgt := 1943) F.x F.b dL_law_44 (by decide) (by decide) rfl (by decide) (cs_35 F gM hNC hSG pv hD hst hX hbA hbl hL hi5 hR1 hR2 hc1 hs1 hN2 h w hl kk)
          refine List.forall_mem_cons.mpr ⟨?_, ?_⟩
          · exact lv_tableIn (tgt := 1999) F.x F.b dL_law_44 (by decide) (by decide) rfl (by decide) (cs_36 F gM hNC hSG pv hD hst hX hbA hbl hL hi5 hR1 hR2 hc1 hs1 hN2 h w hl kk)
          refine List.forall_mem_cons.mpr ⟨?_, ?_⟩
          · exact lv_tableIn (tgt := 2043) F.x F.b dL_law_44 (by decide) (by decide) rfl (by decide) (cs_37 F gM hNC hSG pv hD hst hX hbA hbl hL hi5 hR1 hR2 hc1 hs1 hN2 h w hl kk)
          refine List.forall_mem_cons.mpr ⟨?_, ?_⟩
          · exact lv_tableIn (tgt := 2056) F.x F.b dL_law_44 (by decide) (by decide) rfl (by decide) (cs_38 F gM hNC hSG pv hD hst hX hbA hbl hL hi5 hR1 hR2 hc1 hs1 hN2 h w hl kk)
          refine List.forall_mem_cons.mpr ⟨?_, ?_⟩
          · exact lv_tableIn (tgt := 2112) F.x F.b dL_law_44 (by decide) (by decide) rfl (by decide) (cs_39 F gM hNC hSG pv hD hst hX hbA hbl hL hi5 hR1 hR2 hc1 hs1 hN2 h w hl kk)
          refine List.forall_mem_cons.mpr ⟨?_, ?_⟩
          · exact lv_tableIn (tgt := 2168) F.x F.b dL_law_44 (by decide) (by decide) rfl (by decide) (cs_40 F gM hNC hSG pv hD hst hX hbA hbl hL hi5 hR1 hR2 hc1 hs1 hN2 h w hl kk)
          refine List.forall_mem_cons.mpr ⟨?_, ?_⟩
          · exact lv_tableIn (tgt := 2224) F.x F.b dL_law_44 (by decide) (by decide) rfl (by decide) (cs_41 F gM hNC hSG pv hD hst hX hbA hbl hL hi5 hR1 hR2 hc1 hs1 hN2 h w hl kk)
          refine List.forall_mem_cons.mpr ⟨?_, ?_⟩
          · exact lv_tableIn (tgt := 2237) F.x F.b dL_law_44 (by decide) (by decide) rfl (by decide) (cs_42 F gM hNC hSG pv hD hst hX hbA hbl hL hi5 hR1 hR2 hc1 hs1 hN2 h w hl kk)
          refine List.forall_mem_cons.mpr ⟨?_, ?_⟩
          · exact lv_tableIn (tgt := 2250) F.x F.b dL_law_44 (by decide) (by decide) rfl (by decide) (cs_43 F gM hNC hSG pv hD hst hX hbA hbl hL hi5 hR1 hR2 hc1 hs1 hN2 h w hl kk)
          refine List.forall_mem_cons.mpr ⟨?_, ?_⟩
          · exact lv_tableIn (tgt := 2263) F.x F.b dL_law_44 (by decide) (by decide) rfl (by decide) (cs_44 F gM hNC hSG pv hD hst hX hbA hbl hL hi5 hR1 hR2 hc1 hs1 hN2 h w hl kk)
          refine List.forall_mem_cons.mpr ⟨?_, ?_⟩
          · exact lv_tableIn (tgt := 2328) F.x F.b dL_law_44 (by decide) (by decide) rfl (by decide) (cs_45 F gM hNC hSG pv hD hst hX hbA hbl hL hi5 hR1 hR2 hc1 hs1 hN2 h w hl kk)
          refine List.forall_mem_cons.mpr ⟨?_, ?_⟩
          · exact lv_tableIn (tgt := 2394) F.x F.b dL_law_44 (by decide) (by decide) rfl (by decide) (cs_46 F gM hNC hSG pv hD hst hX hbA hbl hL hi5 hR1 hR2 hc1 hs1 hN2 h w hl kk)
          refine List.forall_mem_cons.mpr ⟨?_, ?_⟩
          · exact lv_tableIn (tgt := 2450) F.x F.b dL_law_44 (by decide) (by decide) rfl (by decide) (cs_47 F gM hNC hSG pv hD hst hX hbA hbl hL hi5 hR1 hR2 hc1 hs1 hN2 h w hl kk)
          refine List.forall_mem_cons.mpr ⟨?_, ?_⟩
          · exact lv_tableIn (tgt := 2463) F.x F.b dL_law_44 (by decide) (by decide) rfl (by decide) (cs_48 F gM hNC hSG pv hD hst hX hbA hbl hL hi5 hR1 hR2 hc1 hs1 hN2 h w hl kk)
          refine List.forall_mem_cons.mpr ⟨?_, ?_⟩
          · exact lv_tableIn (tgt := 2519) F.x F.b dL_law_44 (by decide) (by decide) rfl (by decide) (cs_49 F gM hNC hSG pv hD hst hX hbA hbl hL hi5 hR1 hR2 hc1 hs1 hN2 h w hl kk)
          refine List.forall_mem_cons.mpr ⟨?_, ?_⟩
          · exact lv_tableIn (tgt := 2532) F.x F.b dL_law_44 (by decide) (by decide) rfl (by decide) (cs_50 F gM hNC hSG pv hD hst hX hbA hbl hL hi5 hR1 hR2 hc1 hs1 hN2 h w hl kk)
          refine List.forall_mem_cons.mpr ⟨?_, ?_⟩
          · exact lv_tableIn (tgt := 2590) F.x F.b dL_law_44 (by decide) (by decide) rfl (by decide) (cs_51 F gM hNC hSG pv hD hst hX hbA hbl hL hi5 hR1 hR2 hc1 hs1 hN2 h w hl kk)
          refine List.forall_mem_cons.mpr ⟨?_, ?_⟩
          · exact lv_tableIn (tgt := 2634) F.x F.b dL_law_44 (by decide) (by decide) rfl (by decide) (cs_52 F gM hNC hSG pv hD hst hX hbA hbl hL hi5 hR1 hR2 hc1 hs1 hN2 h w hl kk)
          refine List.forall_mem_cons.mpr ⟨?_, ?_⟩
          · exact lv_tableIn (tgt := 2678) F.x F.b dL_law_44 (by decide) (by decide) rfl (by decide) (cs_53 F gM hNC hSG pv hD hst hX hbA hbl hL hi5 hR1 hR2 hc1 hs1 hN2 h w hl kk)
          refine List.forall_mem_cons.mpr ⟨?_, ?_⟩
          · exact lv_tableIn (tgt := 2722) F.x F.b dL_law_44 (by decide) (by decide) rfl (by decide) (cs_54 F gM hNC hSG pv hD hst hX hbA hbl hL hi5 hR1 hR2 hc1 hs1 hN2 h w hl kk)
          refine List.forall_mem_cons.mpr ⟨?_, ?_⟩
          · exact lv_tableIn (tgt := 2766) F.x F.b dL_law_44 (by decide) (by decide) rfl (by decide) (cs_55 F gM hNC hSG pv hD hst hX hbA hbl hL hi5 hR1 hR2 hc1 hs1 hN2 h w hl kk)
          refine List.forall_mem_cons.mpr ⟨?_, ?_⟩
          · exact lv_tableIn (tgt := 2779) F.x F.b dL_law_44 (by decide) (by decide) rfl (by decide) (cs_56 F gM hNC hSG pv hD hst hX hbA hbl hL hi5 hR1 hR2 hc1 hs1 hN2 h w hl kk)
          refine List.forall_mem_cons.mpr ⟨?_, ?_⟩
          · exact lv_tableIn (tgt := 2792) F.x F.b dL_law_44 (by decide) (by decide) rfl (by decide) (cs_57 F gM hNC hSG pv hD hst hX hbA hbl hL hi5 hR1 hR2 hc1 hs1 hN2 h w hl kk)
          exact fun _ h => absurd h List.not_mem_nil
        exact go v (show v ∈ List.range 58 from List.mem_range.mpr hv2)
      · refine lv_tableOut (tgt := 2836) F.x F.b dL_law_44 (Or.inr (by rw [nI_toInt (by omega)]; omega)) (by decide) ?_
        refine W.widen (k := cells + 20) (n := slots + 200) (by omega) (by omega) ?_
        exact kk K S Fc C D B cu ct hs sv ou M f0 fD H locs ls w (h.ask ⟨fun _ _ => rfl, fun _ _ => rfl, fun _ _ _ _ _ _ => rfl⟩) hl

/-! THE START: Phi holds, the classes are known -/
theorem g_cl : ∀ q ∈ vwCl, (∀ w ∈ u_ws q.1 q.2.1 q.2.2, w ∈ lw_tbl) ∧ Cond.instantiable q.1 q.2.2 ∈ lw_tbl := by decide +kernel
theorem strS_start {s : State} {A9 : Array Value} (hs : ∀ w ∈ flats, w.before A9 s = true) (hL : ∀ i, i < 11 → lenS.getD i 0 < 100) : ∃ ks kv : Nat → Nat, vk_S 11 lenS bytS ks kv (fun q => s.heap.size ≤ q) s s.heap ∧ ∀ i : Nat, i < 11 → (tmS i).eval A9 s none [] s = some (.ref (ks i)) := by
  have hA : ∀ a : Nat, a < s.heap.size → ¬ (fun q => s.heap.size ≤ q) a := fun a h => Nat.not_le.mpr h
  have ev : ∀ i, i < 11 → ∃ a, (tmS i).eval A9 s none [] s = some (.ref a) := fun i hi => by
    obtain ⟨a, c, cA, kA, q1, -⟩ := Cond.exactly_spec (hs _ (gS_ex i hi))
    exact ⟨a, q1⟩
  have hne : ∀ i j : Nat, i < 11 → j < 11 → i ≠ j → (Cond.not (Cond.eq (tmS i) (tmS j))).before A9 s = true ∨ (Cond.not (Cond.eq (tmS j) (tmS i))).before A9 s = true := by
    intro i j hi hj hij
    obtain ⟨a, ha⟩ := ev i hi
    obtain ⟨b, hb⟩ := ev j hj
    refine Or.inl (str_ne ha hb (fun e => ?_))
    subst e
    have fe : (valS i).eval A9 s none [] s = (valS j).eval A9 s none [] s := str_fe ha hb
    rcases gS_ne i hi j hj hij with h | ⟨k, k1, k2, h⟩
    · have h1 := va_eqt (hs _ (gS_le i hi))
      have h2 := va_eqt (hs _ (gS_le j hj))
      rw [len_cong fe, h2] at h1
      have h3 := Option.some.inj h1
      injection h3 with h4
      exact h h4.symm
    · have h1 := va_eqt (hs _ (gS_el i hi k k1))
      have h2 := va_eqt (hs _ (gS_el j hj k k2))
      rw [el_cong fe, h2] at h1
      have h3 := Option.some.inj h1
      injection h3 with h4
      exact h h4.symm
  exact vk_Sof (N := 11) (tm := tmS) (len := lenS) (byt := bytS) (A := fun q => s.heap.size ≤ q) (fun i hi => by have := hL i hi; omega) (fun i hi => hs _ (gS_ex i hi)) (fun i hi => hs _ (gS_co i hi)) (fun i hi => hs _ (gS_ar i hi)) (fun i hi => hs _ (gS_le i hi)) (fun i hi j hj => hs _ (gS_el i hi j hj)) hne hA
theorem strU_start {s : State} {A9 : Array Value} (hs : ∀ w ∈ flats, w.before A9 s = true) (hL : ∀ i, i < 4 → lenU.getD i 0 < 100) : ∃ ks kv : Nat → Nat, vk_S 4 lenU bytU ks kv (fun q => s.heap.size ≤ q) s s.heap ∧ ∀ i : Nat, i < 4 → (tmU i).eval A9 s none [] s = some (.ref (ks i)) := by
  have hA : ∀ a : Nat, a < s.heap.size → ¬ (fun q => s.heap.size ≤ q) a := fun a h => Nat.not_le.mpr h
  have ev : ∀ i, i < 4 → ∃ a, (tmU i).eval A9 s none [] s = some (.ref a) := fun i hi => by
    obtain ⟨a, c, cA, kA, q1, -⟩ := Cond.exactly_spec (hs _ (gU_ex i hi))
    exact ⟨a, q1⟩
  have hne : ∀ i j : Nat, i < 4 → j < 4 → i ≠ j → (Cond.not (Cond.eq (tmU i) (tmU j))).before A9 s = true ∨ (Cond.not (Cond.eq (tmU j) (tmU i))).before A9 s = true := by
    intro i j hi hj hij
    obtain ⟨a, ha⟩ := ev i hi
    obtain ⟨b, hb⟩ := ev j hj
    refine Or.inl (str_ne ha hb (fun e => ?_))
    subst e
    have fe : (valU i).eval A9 s none [] s = (valU j).eval A9 s none [] s := str_fe ha hb
    rcases gU_ne i hi j hj hij with h | ⟨k, k1, k2, h⟩
    · have h1 := va_eqt (hs _ (gU_le i hi))
      have h2 := va_eqt (hs _ (gU_le j hj))
      rw [len_cong fe, h2] at h1
      have h3 := Option.some.inj h1
      injection h3 with h4
      exact h h4.symm
    · have h1 := va_eqt (hs _ (gU_el i hi k k1))
      have h2 := va_eqt (hs _ (gU_el j hj k k2))
      rw [el_cong fe, h2] at h1
      have h3 := Option.some.inj h1
      injection h3 with h4
      exact h h4.symm
  exact vk_Sof (N := 4) (tm := tmU) (len := lenU) (byt := bytU) (A := fun q => s.heap.size ≤ q) (fun i hi => by have := hL i hi; omega) (fun i hi => hs _ (gU_ex i hi)) (fun i hi => hs _ (gU_co i hi)) (fun i hi => hs _ (gU_ar i hi)) (fun i hi => hs _ (gU_le i hi)) (fun i hi j hj => hs _ (gU_el i hi j hj)) hne hA
theorem phi_start {s : State} {A9 : Array Value} {b L : Nat} {xs : Nat → Int32} (hX : va_X b L xs s s.heap) (hbl : b < s.heap.size) (hL : L ≤ 260) (hts : ∀ w ∈ lw_tbl, w.before A9 s = true) (hgv : (Jvm.Cond.and given_1 narrow_1).before A9 s = true) : ∃ (ks kv : Nat → Nat) (d1 d2 : Nat) (uk uv : Nat → Nat), Phi s.heap.size ks kv d1 d2 uk uv b L xs s s.heap := by
  have hs : ∀ w ∈ flats, w.before A9 s = true := flat_of_before _ hgv
  have hA : ∀ a : Nat, a < s.heap.size → ¬ (fun q => s.heap.size ≤ q) a := fun a h => Nat.not_le.mpr h
  obtain ⟨ks, kv, hS, hK⟩ := strS_start hs (fun i hi => (lenS_ok i hi).2)
  obtain ⟨uk, uv, hU, hKU⟩ := strU_start hs lenU_lt
  obtain ⟨d1, hd1, hT1⟩ := va_Tof (ty := .byte) (N := 100) (f := fun j => .int (nI (48 + j % 10))) (A := fun q => s.heap.size ≤ q) (by decide) (hs _ g_d1.1) (va_eqt (hs _ g_d1.2.1)) (fun j hj => va_eqt (hs _ (g_d1.2.2 j hj))) hA
  obtain ⟨d2, hd2, hT2⟩ := va_Tof (ty := .byte) (N := 100) (f := fun j => .int (nI (48 + j / 10))) (A := fun q => s.heap.size ≤ q) (by decide) (hs _ g_d2.1) (va_eqt (hs _ g_d2.2.1)) (fun j hj => va_eqt (hs _ (g_d2.2.2 j hj))) hA
  obtain ⟨⟨w1, w2⟩, ⟨w3, w4⟩, ⟨w5, w6, w7⟩, ⟨w8, w9, w10⟩, w11, w12, w13, w14, w15, w16, w17⟩ := g_w
  obtain ⟨t1, t2, t3, t4⟩ := g_st
  obtain ⟨p1, p2, p3, p4, p5⟩ := g_w2
  refine ⟨ks, kv, d1, d2, uk, uv, ⟨hS, va_Zof (hts _ w1) (hts _ w2) (va_eqt (hs _ t1)) hA, va_Zqof (hts _ w3) (hts _ w4) (hs _ t2) hA, fun r hr => ?_⟩, ⟨vx_Zqof (hts _ w5) (hts _ w7) (hs _ t3) hA, vx_Zqof (hts _ w6) (hts _ w7) (hs _ t4) hA⟩, fun r hr => ?_, va_AO.of (hts _ w11), fun A => ⟨sel_up (y := yJ5_ensureCapacityInternal_d00df) (y2 := yJ5_isLatin1_aae02) ⟨by decide, by decide⟩ rfl (hts _ w12) (hts _ w14) (hts _ w15) (hts _ w13) A, sel_up (y := yJ5_newCapacity_0f7a4) (y2 := yJ5_isLatin1_aae02) ⟨by decide, by decide⟩ rfl (hts _ w12) (hts _ w16) (hts _ w17) (hts _ w13) A⟩, ⟨⟨va_Zof (hts _ w8) (hts _ w10) hd1 hA, hT1⟩, va_Zof (hts _ w9) (hts _ w10) hd2 hA, hT2⟩, fun E hE T hT hn => va_Nc.of (hs _ (g_nc E hE T hT hn)), ⟨hU, fun r hr => ?_⟩, fun A => ⟨sel_up (y := yJ5_putStringAt_47b60) (y2 := yJ5_isLatin1_aae02) ⟨by decide, by decide⟩ rfl (hts _ w12) (hts _ p1) (hts _ p2) (hts _ w13) A, sel_up (y := yJ5_inflateIfNeededFor_a7421) (y2 := yJ5_isLatin1_aae02) ⟨by decide, by decide⟩ rfl (hts _ w12) (hts _ p3) (hts _ p4) (hts _ w13) A⟩, va_Nw.of rfl (hts _ p5), hX, hbl, hbl, hL⟩
  · obtain ⟨h1, h2, h3⟩ := g_ref r hr
    refine vk_R.of (hts _ h1) ?_
    rw [h3]
    exact hK _ h2
  · obtain ⟨h1, h2⟩ := g_msg r hr
    obtain ⟨a, c, cA, kA, q1, -⟩ := Cond.exactly_spec (hs _ h2)
    exact ⟨a, vk_R.of (hts _ h1) q1⟩
  · obtain ⟨h1, h2, h3⟩ := gU_ref r hr
    refine vk_R.of (hts _ h1) ?_
    rw [h3]
    exact hKU _ h2
/-- the classes' and the arrays' numbers -/
theorem k_start {s : State} {A9 : Array Value} (c0 : ClassId) (hts : ∀ w ∈ lw_tbl, w.before A9 s = true) : ∃ (D : va_G) (T : Nat → ClassId), va_K D vwCl (tyL T) s := by
  have h0 : ∀ k : Nat, ∃ r : ClassId × (Nat → Nat), ∀ q, vwCl[k]? = some q → u_Kn s q.1 q.2.1 q.2.2 r.1 r.2 := by
    intro k
    cases hq : vwCl[k]? with
    | none => exact ⟨(c0, fun _ => 0), fun q h => nomatch h⟩
    | some q =>
      have hm := g_cl q (List.mem_of_getElem? hq)
      obtain ⟨cC, iS, h⟩ := u_known hts hm.1 (hts _ hm.2)
      exact ⟨(cC, iS), fun q' h' => by cases h'; exact h⟩
  obtain ⟨r, hr⟩ := Classical.axiomOfChoice h0
  have ar : ∀ ty : FieldType, (∀ C, ty ≠ .object C) → Cond.arrayClass ty ∈ lw_tbl → ∃ c : ClassId, ArrOfT s c ty ∧ va_RA s c ty := by
    intro ty hno hw
    obtain ⟨c, k, comp, h1, h2, h3⟩ := Cond.arrayClass_spec (hts _ hw)
    refine ⟨c, fun n z => ⟨fun k h => (by cases h), k, h2, comp, h3⟩, ?_⟩
    cases ty <;> first | exact h1 | exact absurd rfl (hno _)
  obtain ⟨c0, a0⟩ := ar .int (fun _ h => nomatch h) (List.mem_of_getElem? (i := 107) (by decide +kernel))
  obtain ⟨c1, a1⟩ := ar .char (fun _ h => nomatch h) (List.mem_of_getElem? (i := 108) (by decide +kernel))
  obtain ⟨c2, a2⟩ := ar .boolean (fun _ h => nomatch h) (List.mem_of_getElem? (i := 109) (by decide +kernel))
  obtain ⟨c3, a3⟩ := ar .byte (fun _ h => nomatch h) (List.mem_of_getElem? (i := 259) (by decide +kernel))
  obtain ⟨c4, a4⟩ := ar .long (fun _ h => nomatch h) (List.mem_of_getElem? (i := 1510) (by decide +kernel))
  obtain ⟨comp, c6, k6, h1, h2, h3, h4, h5⟩ := Cond.arrayOver_spec (hts (Cond.arrayOver (.object "CustomsShed$Shed")) (List.mem_of_getElem? (i := 182) (by decide +kernel)))
  refine ⟨(fun k => (r k).1, fun k => (r k).2), fun k => ([c0, c1, c2, c3, c4, c4, c6] : List ClassId).getD k c0, fun k q hq => hr k q hq, fun k q hq => ?_⟩
  match k, hq with
  | 0, hq => cases hq; exact a0
  | 1, hq => cases hq; exact a1
  | 2, hq => cases hq; exact a2
  | 3, hq => cases hq; exact a3
  | 4, hq => cases hq; exact a4
  | 5, hq => cases hq; exact a4
  | 6, hq => cases hq; exact ⟨fun n z => ⟨fun k h => (by cases h), k6, h3, comp, h4⟩, k6, comp, h3, h4, h1, h5⟩
  | k + 7, hq => simp [tyL] at hq

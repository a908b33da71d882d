/-! THE START: Phi holds, the classes are known -/
theorem g_cl : ∀ q ∈ vwCl, (∀ w ∈ u_ws q.1 q.2.1 q.2.2, w ∈ lw_tbl) ∧ Cond.instantiable q.1 q.2.2 ∈ lw_tbl := by decide +kernel
theorem phi_start {s : State} {A9 : Array Value} (hts : ∀ w ∈ lw_tbl, w.before A9 s = true) (hgv : (Jvm.Cond.and given_1 narrow_1).before A9 s = true) : ∃ (ks kv : Nat → Nat) (d1 d2 : Nat), Phi s.heap.size ks kv d1 d2 s s.heap := by
  have hs : ∀ w ∈ flats, w.before A9 s = true := flat_of_before _ hgv
  have hA : ∀ a : Nat, a < s.heap.size → ¬ (fun q => s.heap.size ≤ q) a := fun a h => Nat.not_le.mpr h
  have ev : ∀ i, i < 23 → ∃ a, (tmS i).eval A9 s none [] s = some (.ref a) := fun i hi => by
    obtain ⟨a, c, cA, kA, q1, -⟩ := Cond.exactly_spec (hs _ (g_ex i hi))
    exact ⟨a, q1⟩
  have hne : ∀ i j : Nat, i < 23 → j < 23 → i ≠ j → (Cond.not (Cond.eq (tmS i) (tmS j))).before A9 s = true ∨ (Cond.not (Cond.eq (tmS j) (tmS i))).before A9 s = true := by
    intro i j hi hj hij
    obtain ⟨a, ha⟩ := ev i hi
    obtain ⟨b, hb⟩ := ev j hj
    refine Or.inl (str_ne ha hb (fun e => ?_))
    subst e
    have fe : (valS i).eval A9 s none [] s = (valS j).eval A9 s none [] s := str_fe ha hb
    rcases g_ne i hi j hj hij with h | ⟨k, k1, k2, h⟩
    · have h1 := va_eqt (hs _ (g_le i hi))
      have h2 := va_eqt (hs _ (g_le j hj))
      rw [len_cong fe, h2] at h1
      have h3 := Option.some.inj h1
      injection h3 with h4
      exact h h4.symm
    · have h1 := va_eqt (hs _ (g_el i hi k k1))
      have h2 := va_eqt (hs _ (g_el j hj k k2))
      rw [el_cong fe, h2] at h1
      have h3 := Option.some.inj h1
      injection h3 with h4
      exact h h4.symm
  obtain ⟨ks, kv, hS, hK⟩ := vk_Sof (N := 23) (tm := tmS) (len := lenS) (byt := bytS) (A := fun q => s.heap.size ≤ q) (fun i hi => by have := (lenS_ok i hi).2; omega) (fun i hi => hs _ (g_ex i hi)) (fun i hi => hs _ (g_co i hi)) (fun i hi => hs _ (g_ar i hi)) (fun i hi => hs _ (g_le i hi)) (fun i hi j hj => hs _ (g_el i hi j hj)) hne hA
  obtain ⟨d1, hd1, hT1⟩ := va_Tof (ty := .byte) (N := 100) (f := fun j => .int (nI (48 + j % 10))) (A := fun q => s.heap.size ≤ q) (by decide) (hs _ g_d1.1) (va_eqt (hs _ g_d1.2.1)) (fun j hj => va_eqt (hs _ (g_d1.2.2 j hj))) hA
  obtain ⟨d2, hd2, hT2⟩ := va_Tof (ty := .byte) (N := 100) (f := fun j => .int (nI (48 + j / 10))) (A := fun q => s.heap.size ≤ q) (by decide) (hs _ g_d2.1) (va_eqt (hs _ g_d2.2.1)) (fun j hj => va_eqt (hs _ (g_d2.2.2 j hj))) hA
  obtain ⟨⟨w1, w2⟩, ⟨w3, w4⟩, ⟨w5, w6, w7⟩, ⟨w8, w9, w10⟩, w11, w12, w13, w14, w15, w16, w17⟩ := g_w
  obtain ⟨t1, t2, t3, t4⟩ := g_st
  refine ⟨ks, kv, d1, d2, ⟨hS, va_Zof (hts _ w1) (hts _ w2) (va_eqt (hs _ t1)) hA, va_Zqof (hts _ w3) (hts _ w4) (hs _ t2) hA, fun r hr => ?_⟩, ⟨vx_Zqof (hts _ w5) (hts _ w7) (hs _ t3) hA, vx_Zqof (hts _ w6) (hts _ w7) (hs _ t4) hA⟩, fun r hr => ?_, va_AO.of (hts _ w11), fun A => ⟨sel_up (y := yJ5_ensureCapacityInternal_d00df) (y2 := yJ5_isLatin1_aae02) ⟨by decide, by decide⟩ rfl (hts _ w12) (hts _ w14) (hts _ w15) (hts _ w13) A, sel_up (y := yJ5_newCapacity_0f7a4) (y2 := yJ5_isLatin1_aae02) ⟨by decide, by decide⟩ rfl (hts _ w12) (hts _ w16) (hts _ w17) (hts _ w13) A⟩, ⟨⟨va_Zof (hts _ w8) (hts _ w10) hd1 hA, hT1⟩, va_Zof (hts _ w9) (hts _ w10) hd2 hA, hT2⟩, fun E hE T hT hn => va_Nc.of (hs _ (g_nc E hE T hT hn))⟩
  · obtain ⟨h1, h2, h3⟩ := g_ref r hr
    refine vk_R.of (hts _ h1) ?_
    rcases h3 with h3 | h3
    · rw [h3]
      exact hK _ h2
    · exact va_eqR (hs _ h3) (hK _ h2)
  · obtain ⟨h1, h2⟩ := g_msg r hr
    obtain ⟨a, c, cA, kA, q1, -⟩ := Cond.exactly_spec (hs _ h2)
    exact ⟨a, vk_R.of (hts _ h1) q1⟩
/-- the classes' and the arrays' numbers -/
theorem k_start {s : State} {A9 : Array Value} (c0 : ClassId) (hts : ∀ w ∈ lw_tbl, w.before A9 s = true) : ∃ (D : va_G) (T : Nat → ClassId), va_K D vwCl (tyL T) s := by
  have h0 : ∀ k : Nat, ∃ r : ClassId × (Nat → Nat), ∀ q, vwCl[k]? = some q → u_Kn s q.1 q.2.1 q.2.2 r.1 r.2 := by
    intro k
    cases hq : vwCl[k]? with
    | none => exact ⟨(c0, fun _ => 0), fun q h => nomatch h⟩
    | some q =>
      have hm := g_cl q (List.mem_of_getElem? hq)
      obtain ⟨cC, iS, h⟩ := u_known hts hm.1 (hts _ hm.2)
      exact ⟨(cC, iS), fun q' h' => by cases h'; exact h⟩
  obtain ⟨r, hr⟩ := Classical.axiomOfChoice h0
  have ar : ∀ ty : FieldType, (∀ C, ty ≠ .object C) → Cond.arrayClass ty ∈ lw_tbl → ∃ c : ClassId, ArrOfT s c ty ∧ va_RA s c ty := by
    intro ty hno hw
    obtain ⟨c, k, comp, h1, h2, h3⟩ := Cond.arrayClass_spec (hts _ hw)
    refine ⟨c, fun n z => ⟨fun k h => (by cases h), k, h2, comp, h3⟩, ?_⟩
    cases ty <;> first | exact h1 | exact absurd rfl (hno _)
  obtain ⟨c0, a0⟩ := ar .int (fun _ h => nomatch h) (List.mem_of_getElem? (i := 148) (by decide +kernel))
  obtain ⟨c1, a1⟩ := ar .char (fun _ h => nomatch h) (List.mem_of_getElem? (i := 149) (by decide +kernel))
  obtain ⟨c2, a2⟩ := ar .boolean (fun _ h => nomatch h) (List.mem_of_getElem? (i := 150) (by decide +kernel))
  obtain ⟨c3, a3⟩ := ar .byte (fun _ h => nomatch h) (List.mem_of_getElem? (i := 300) (by decide +kernel))
  obtain ⟨c4, a4⟩ := ar .long (fun _ h => nomatch h) (List.mem_of_getElem? (i := 2038) (by decide +kernel))
  obtain ⟨c5, a5⟩ := ar .double (fun _ h => nomatch h) (List.mem_of_getElem? (i := 2039) (by decide +kernel))
  obtain ⟨comp, c6, k6, h1, h2, h3, h4, h5⟩ := Cond.arrayOver_spec (hts (Cond.arrayOver (.object "CustomsShed$Shed")) (List.mem_of_getElem? (i := 223) (by decide +kernel)))
  refine ⟨(fun k => (r k).1, fun k => (r k).2), fun k => ([c0, c1, c2, c3, c4, c5, c6] : List ClassId).getD k c0, fun k q hq => hr k q hq, fun k q hq => ?_⟩
  match k, hq with
  | 0, hq => cases hq; exact a0
  | 1, hq => cases hq; exact a1
  | 2, hq => cases hq; exact a2
  | 3, hq => cases hq; exact a3
  | 4, hq => cases hq; exact a4
  | 5, hq => cases hq; exact a5
  | 6, hq => cases hq; exact ⟨fun n z => ⟨fun k h => (by cases h), k6, h3, comp, h4⟩, k6, comp, h3, h4, h1, h5⟩
  | k + 7, hq => simp [tyL] at hq

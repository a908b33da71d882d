/-! .. the queue of the class -/
def BInv (O D : Nat → Prop) (x : Int32) (e i : Nat) (B : Mem) : Prop :=
  (e = cnt (fun y => bt x y = true) 24 ∧ i ≤ e) ∧ (∀ k, k < e → ∃ y, y < 24 ∧ B.2 0 k = nI y ∧ bt x y = true) ∧ (∀ y, y < 24 → bt x y = true → ∃ k, k < e ∧ B.2 0 k = nI y) ∧
  (∀ y, y < 24 → bt x y = true → Rk O D 24 y) ∧ (∀ y, y < 24 → D y → bt x y = true) ∧ ∀ k, k < i → ∀ y, y < 24 → B.2 0 k = nI y → ∀ z, z < 24 → (z = y + 1 ∨ z + 1 = y) → O z → bt x z = true
theorem BInv.le {O D : Nat → Prop} {x : Int32} {e i : Nat} {B : Mem} (h : BInv O D x e i B) : e ≤ 24 := by
  rw [h.1.1]
  exact cnt_le _ 24
/-- a bay more is reached -/
theorem BInv.put {O D : Nat → Prop} {x : Int32} {e i z : Nat} {B : Mem} (h : BInv O D x e i B) (hz : z < 24) (hn : ¬ bt x z = true) (hr : Rk O D 24 z) : e < 24 ∧ BInv O D (x ||| ((1 : Int32) <<< (nI z &&& 31))) (e + 1) i (wrA B 0 (nI e) (nI z)) := by
  obtain ⟨⟨a1, a2⟩, b, c, d, f, g⟩ := h
  have he : e < 24 := by
    rw [a1]
    exact cnt_lt (f := fun y => bt x y = true) hn 24 hz
  have hbt : ∀ y, y < 24 → (bt (x ||| ((1 : Int32) <<< (nI z &&& 31))) y = true ↔ bt x y = true ∨ y = z) := by
    intro y hy
    rw [bt_or hz hy, Bool.or_eq_true, decide_eq_true_eq]
    exact or_congr Iff.rfl ⟨Eq.symm, Eq.symm⟩
  refine ⟨he, ⟨?_, by omega⟩, fun k hk => ?_, fun y hy hb => ?_, fun y hy hb => ?_, fun y hy hb => (hbt y hy).mpr (Or.inl (f y hy hb)), fun k hk y hy hb w hw hyw ho => ?_⟩
  · have h1 : cnt (fun y => bt (x ||| ((1 : Int32) <<< (nI z &&& 31))) y = true) 24 = cnt (fun y => bt x y = true ∨ y = z) 24 := cnt_congr 24 hbt
    rw [h1, cnt_add (f := fun y => bt x y = true) (b := z) hn (fun y => Iff.rfl), if_pos hz, ← a1]
  · rw [wr_at _ _ (by omega)]
    by_cases e1 : k = e
    · rw [if_pos ⟨rfl, e1⟩]
      exact ⟨z, hz, rfl, (hbt z hz).mpr (Or.inr rfl)⟩
    · rw [if_neg (fun h => e1 h.2)]
      obtain ⟨y, y1, y2, y3⟩ := b k (by omega)
      exact ⟨y, y1, y2, (hbt y y1).mpr (Or.inl y3)⟩
  · by_cases e1 : y = z
    · exact ⟨e, by omega, by rw [wr_at _ _ (by omega), if_pos ⟨rfl, rfl⟩, e1]⟩
    · obtain ⟨k, k1, k2⟩ := c y hy (((hbt y hy).mp hb).resolve_right e1)
      exact ⟨k, by omega, by rw [wr_at _ _ (by omega), if_neg (by omega), k2]⟩
  · rcases (hbt y hy).mp hb with h | h
    · exact d y hy h
    · rw [h]
      exact hr
  · rw [wr_at _ _ (by omega), if_neg (by omega)] at hb
    exact (hbt w hw).mpr (Or.inl (g k hk y hy hb w hw hyw ho))
section REACH3
variable {S M : Mem} {N : Nat}
/-- one neighbour is looked at -/
theorem c_look {O D : Nat → Prop} {x2 x3 x6 : Int32} {e i y : Nat} {B : Mem} (hO : ∀ b, b < 24 → (bt x2 b = true ↔ O b)) (h : BInv O D x3 e i B) (hi : i < e) (hy : y < 24) (hB : B.2 0 i = nI y) (hx : ¬ nI y + 1 < x6)
    (hc : (∃ z, z < 24 ∧ x6 = nI z ∧ (z = y + 1 ∨ z + 1 = y)) ∨ f_X6_hasBay x2 x6 = some 0) (k : Int32 → Int32 → Mem → Option (Int32 × Mem)) (n : Nat) :
    ∃ x3' e' B', f_X3_reachByQueue_L79 x2 (nI i) S k (n + 1) x3 (nI e) x6 B = f_X3_reachByQueue_L79 x2 (nI i) S k n x3' (nI e') (x6 + 2) B' ∧ BInv O D x3' e' i B' ∧ e ≤ e' ∧ B'.2 0 i = nI y ∧ (∀ z, z < 24 → bt x3 z = true → bt x3' z = true) ∧ ∀ z, z < 24 → x6 = nI z → O z → bt x3' z = true := by
  have he := h.le
  have hib : ib (nI i) 24 = true := ib_nI (by omega) (by omega)
  have hicl : (nI i).toNatClampNeg = i := nI_clamp (by omega)
  rcases hc with ⟨z, hz, rfl, hyz⟩ | hc
  · have h2 := hb_ok x2 hz
    have h3 := hb_ok x3 hz
    by_cases o : O z
    · rw [if_pos ((hO z hz).mpr o)] at h2
      by_cases r : bt x3 z = true
      · rw [if_pos r] at h3
        refine ⟨x3, e, B, ?_, h, Nat.le_refl e, hB, fun _ _ h => h, fun w hw hzw _ => ?_⟩
        · rw [f_X3_reachByQueue_L79, if_pos hib, hicl, hB, if_neg hx, h2, ob, if_neg (by decide), h3, ob, if_neg (by decide)]
        · rw [nI_eq (by omega) (by omega)] at hzw
          rw [← hzw]
          exact r
      · rw [if_neg r] at h3
        obtain ⟨y', y1, y2, y3⟩ := h.2.1 i hi
        have hyy : y' = y := by
          rw [hB, nI_eq (by omega) (by omega)] at y2
          exact y2.symm
        rw [hyy] at y3
        obtain ⟨p1, p2⟩ := h.put hz r ((h.2.2.2.1 y hy y3).next hz hyz o)
        have hbt : ∀ w, w < 24 → (bt (x3 ||| ((1 : Int32) <<< (nI z &&& 31))) w = true ↔ bt x3 w = true ∨ w = z) := by
          intro w hw
          rw [bt_or hz hw, Bool.or_eq_true, decide_eq_true_eq]
          exact or_congr Iff.rfl ⟨Eq.symm, Eq.symm⟩
        refine ⟨_, e + 1, wrA B 0 (nI e) (nI z), ?_, p2, by omega, ?_, fun w hw hb => (hbt w hw).mpr (Or.inl hb), fun w hw hzw _ => ?_⟩
        · rw [f_X3_reachByQueue_L79, if_pos hib, hicl, hB, if_neg hx, h2, ob, if_neg (by decide), h3, ob, if_pos rfl, li_24, if_neg (nI_ge p1 (by omega)), if_pos (ib_nI (by omega) (by omega))]
          rw [show nI e + 1 = nI (e + 1) from nI_1 e]
        · rw [wr_at _ _ (by omega), if_neg (by omega), hB]
        · rw [nI_eq (by omega) (by omega)] at hzw
          exact (hbt w hw).mpr (Or.inr hzw.symm)
    · rw [if_neg (fun g => o ((hO z hz).mp g))] at h2
      refine ⟨x3, e, B, ?_, h, Nat.le_refl e, hB, fun _ _ h => h, fun w hw hzw ho => ?_⟩
      · rw [f_X3_reachByQueue_L79, if_pos hib, hicl, hB, if_neg hx, h2, ob, if_pos rfl]
      · rw [nI_eq (by omega) (by omega)] at hzw
        rw [← hzw] at ho
        exact absurd ho o
  · refine ⟨x3, e, B, ?_, h, Nat.le_refl e, hB, fun _ _ h => h, fun w hw hzw ho => ?_⟩
    · rw [f_X3_reachByQueue_L79, if_pos hib, hicl, hB, if_neg hx, hc, ob, if_pos rfl]
    · rw [hzw, hb_ok x2 hw, if_pos ((hO w hw).mpr ho)] at hc
      exact absurd (Option.some.inj hc) (by decide)
theorem c_queueLoop {O D : Nat → Prop} {x2 : Int32} (hO : ∀ b, b < 24 → (bt x2 b = true ↔ O b)) :
    ∀ (d i n : Nat) (x3 : Int32) (e : Nat) (B : Mem), i + d = 24 → d < n → BInv O D x3 e i B → ∃ B', f_X3_reachByQueue_L57 x2 S (fun y26_4 B_26 => some (y26_4, B_26)) n x3 (nI e) (nI i) B = some (nI (cnt (Rk O D 24) 24), B') := by
  have hend : ∀ (x3 : Int32) (e i : Nat) (B : Mem), BInv O D x3 e i B → e ≤ i → e = cnt (Rk O D 24) 24 := by
    intro x3 e i B ⟨⟨a1, a2⟩, b, c, dd, f, g⟩ hle
    rw [a1]
    refine cnt_congr 24 (fun y hy => ⟨dd y hy, fun h => ?_⟩)
    have key : ∀ k z, z < 24 → Rk O D k z → bt x3 z = true := by
      intro k
      induction k with
      | zero =>
        intro z hz ⟨d', d1, d2, d3, d4, d5⟩
        have : d' = z := by omega
        rw [this] at d2
        exact f z hz d2
      | succ k ih =>
        intro z hz hr
        rcases hr.step hz with h | ⟨h1, h2⟩
        · exact ih z hz h
        · rcases h2 with ⟨h3, h4⟩ | ⟨h3, h4⟩
          · obtain ⟨j, j1, j2⟩ := c (z - 1) (by omega) (ih (z - 1) (by omega) h4)
            exact g j (by omega) (z - 1) (by omega) j2 z hz (by omega) h1
          · obtain ⟨j, j1, j2⟩ := c (z + 1) (by omega) (ih (z + 1) (by omega) h4)
            exact g j (by omega) (z + 1) (by omega) j2 z hz (by omega) h1
    exact key 24 y hy h
  intro d
  induction d with
  | zero =>
    intro i n x3 e B h1 h2 h
    obtain ⟨n', rfl⟩ : ∃ n', n = n' + 1 := ⟨n - 1, by omega⟩
    have he := h.le
    refine ⟨B, ?_⟩
    rw [f_X3_reachByQueue_L57, if_pos (nI_le (by omega) (by omega)), ← hend x3 e i B h (by omega)]
  | succ d ih =>
    intro i n x3 e B h1 h2 h
    obtain ⟨n', rfl⟩ : ∃ n', n = n' + 1 := ⟨n - 1, by omega⟩
    have he := h.le
    by_cases hei : e ≤ i
    · refine ⟨B, ?_⟩
      rw [f_X3_reachByQueue_L57, if_pos (nI_le hei (by omega)), ← hend x3 e i B h hei]
    · obtain ⟨y, y1, y2, y3⟩ := h.2.1 i (by omega)
      let kk := fun (y25_3 y25_4 : Int32) (B_25 : Mem) => f_X3_reachByQueue_L57 x2 S (fun y26_4 B_26 => some (y26_4, B_26)) n' y25_3 y25_4 (nI i + 1) B_25
      have s1 : ¬ nI y + 1 < nI y - 1 := by
        rw [Int32.lt_iff_toInt_lt, li_1, nI_add, nI_toInt (by omega), pk_sub_toInt (by omega) (by omega)]
        omega
      obtain ⟨a3, a4, aB, a5, a6, a7, a8, a9, a10⟩ := c_look (S := S) hO h (by omega) y1 y2 s1 (by
        by_cases e0 : y = 0
        · refine Or.inr ?_
          rw [e0]
          exact hb_m1 x2
        · refine Or.inl ⟨y - 1, by omega, ?_, Or.inr (by omega)⟩
          rw [li_1, pk_sub (by omega)]) kk 39
      have s2 : nI y - 1 + 2 = nI y + 1 := by
        by_cases e0 : y = 0
        · rw [e0]
          decide
        · rw [li_1, li_2, pk_sub (by omega), nI_add, nI_add]
          congr 1
          omega
      rw [s2] at a5
      have s3 : ¬ nI y + 1 < nI y + 1 := by
        rw [Int32.lt_iff_toInt_lt]
        omega
      obtain ⟨b3, b4, bB, b5, b6, b7, b8, b9, b10⟩ := c_look (S := S) hO a6 (by omega) y1 a8 s3 (by
        by_cases e0 : y = 23
        · refine Or.inr ?_
          rw [e0]
          exact hb_24 x2
        · exact Or.inl ⟨y + 1, by omega, by rw [li_1, nI_add], Or.inl rfl⟩) kk 38
      have s4 : nI y + 1 < nI y + 1 + 2 := by
        rw [li_1, li_2, nI_add, nI_add, nI_ltI (by omega) (by omega)]
        omega
      have hx : f_X3_reachByQueue_L79 x2 (nI i) S kk 38 b3 (nI b4) (nI y + 1 + 2) bB = kk b3 (nI b4) bB := by
        have hb := b6.le
        rw [f_X3_reachByQueue_L79, if_pos (ib_nI (by omega) (by omega)), nI_clamp (by omega), b8, if_pos s4]
      have hI : BInv O D b3 b4 (i + 1) bB := by
        obtain ⟨⟨q1, q2⟩, q3, q4, q5, q6, q7⟩ := b6
        refine ⟨⟨q1, by omega⟩, q3, q4, q5, q6, fun k hk w hw hkw z hz hzw ho => ?_⟩
        by_cases e0 : k = i
        · rw [e0, b8, nI_eq (by omega) (by omega)] at hkw
          subst hkw
          rcases hzw with hzw | hzw
          · exact b10 z hz (by rw [li_1, nI_add, hzw]) ho
          · exact b9 z hz (a10 z hz (by rw [← hzw, li_1, pk_sub (by omega), Nat.add_sub_cancel]) ho)
        · exact q7 k (by omega) w hw hkw z hz hzw ho
      obtain ⟨B', hB'⟩ := ih (i + 1) n' b3 b4 bB (by omega) (by omega) hI
      refine ⟨B', ?_⟩
      rw [← hB', f_X3_reachByQueue_L57, if_neg (nI_ge (by omega) (by omega)), li_24, if_neg (nI_ge (by omega) (by omega)), if_pos (ib_nI (by omega) (by omega)), nI_clamp (by omega), y2]
      refine a5.trans (b5.trans (hx.trans ?_))
      show f_X3_reachByQueue_L57 x2 S _ n' b3 (nI b4) (nI i + 1) bB = _
      rw [li_1, nI_add]
theorem c_queueReach {c : Nat} (cc : S.1 0 = nI c) (hc : c ≤ 16) (L : LotsOK S c) (B : Mem) : ∃ B', f_X3_reachByQueue S B = some (nI (cnt (Rk (opn S c) (dmp S c) 24) 24), B') := by
  obtain ⟨x2, o1, o2⟩ := c_baysOfOpen cc hc L
  obtain ⟨x3, d1, d2⟩ := c_baysOfDamp cc hc L
  have hdo := dmp_opn L
  rw [f_X3_reachByQueue, o1, ob, d1, ob, li_0]
  have H := lpI (σ := Int32 × Mem) (fun n i a => f_X3_reachByQueue_L16 x2 x3 S (fun y11_4 B_11 => f_X3_reachByQueue_L57 x2 S (fun y26_4 B_26 => some (y26_4, B_26)) 40 x3 y11_4 (nI 0) B_11) n a.1 i a.2) (fun a => f_X3_reachByQueue_L57 x2 S (fun y26_4 B_26 => some (y26_4, B_26)) 40 x3 a.1 (nI 0) a.2) (fun i a => ∃ e, e = cnt (fun y => bt x3 y = true) i ∧ a.1 = nI e ∧ (∀ k, k < e → ∃ y, y < i ∧ a.2.2 0 k = nI y ∧ bt x3 y = true) ∧ ∀ y, y < i → bt x3 y = true → ∃ k, k < e ∧ a.2.2 0 k = nI y) 24 ?_ ?_ 24 40 0 (nI 0, B) (by omega) (by omega) ⟨0, rfl, rfl, fun k hk => absurd hk (by omega), fun y hy => absurd hy (by omega)⟩
  · obtain ⟨a, ⟨e, e1, e2, e3, e4⟩, h⟩ := H
    have hI : BInv (opn S c) (dmp S c) x3 e 0 a.2 := ⟨⟨e1, by omega⟩, e3, e4, fun y hy hb => (Rk.zero hdo hy ((d2 y hy).mp hb)).mono (by omega), fun y hy hb => (d2 y hy).mpr hb, fun k hk => absurd hk (by omega)⟩
    obtain ⟨B', hB'⟩ := c_queueLoop (S := S) o2 24 0 40 x3 e a.2 (by omega) (by omega) hI
    refine ⟨B', ?_⟩
    rw [← hB', ← e2]
    exact h
  · intro n a _
    simp (disch := omega) only [f_X3_reachByQueue_L16, nI_leI, nI_ltI, nI_eq, nI_add, pk_mul, pk_sub, nI_clamp, ib_nI, if_pos, if_neg, if_true, if_false, eq_self, ob, li_24]
  · intro n i a hi ⟨e, e1, e2, e3, e4⟩
    have hle : e ≤ i := by rw [e1]; exact cnt_le _ i
    have hb := hb_ok x3 hi
    by_cases r : bt x3 i = true
    · rw [if_pos r] at hb
      refine ⟨(nI (e + 1), wrA a.2 0 (nI e) (nI i)), ⟨e + 1, by rw [cnt_t (f := fun y => bt x3 y = true) r, ← e1], rfl, fun k hk => ?_, fun y hy hr => ?_⟩, ?_⟩
      · show ∃ y, y < i + 1 ∧ (wrA a.2 0 (nI e) (nI i)).2 0 k = nI y ∧ bt x3 y = true
        rw [wr_at _ _ (by omega)]
        by_cases g : k = e
        · rw [if_pos ⟨rfl, g⟩]
          exact ⟨i, by omega, rfl, r⟩
        · rw [if_neg (fun h => g h.2)]
          obtain ⟨y, y1, y2, y3⟩ := e3 k (by omega)
          exact ⟨y, by omega, y2, y3⟩
      · show ∃ k, k < e + 1 ∧ (wrA a.2 0 (nI e) (nI i)).2 0 k = nI y
        by_cases g : y = i
        · exact ⟨e, by omega, by rw [wr_at _ _ (by omega), if_pos ⟨rfl, rfl⟩, g]⟩
        · obtain ⟨k, k1, k2⟩ := e4 y (by omega) hr
          exact ⟨k, by omega, by rw [wr_at _ _ (by omega), if_neg (by omega), k2]⟩
      · rw [e2, f_X3_reachByQueue_L16, li_24, if_neg (nI_ge hi (by omega)), if_neg (nI_ge (by omega) (by omega)), hb, ob, if_neg (by decide), if_pos (ib_nI (by omega) (by omega)), li_1, nI_add, nI_add]
    · rw [if_neg r] at hb
      refine ⟨a, ⟨e, by rw [cnt_f (f := fun y => bt x3 y = true) r, ← e1], e2, fun k hk => ?_, fun y hy hr => ?_⟩, ?_⟩
      · obtain ⟨y, y1, y2, y3⟩ := e3 k hk
        exact ⟨y, by omega, y2, y3⟩
      · by_cases g : y = i
        · rw [g] at hr
          exact absurd hr r
        · exact e4 y (by omega) hr
      · rw [e2, f_X3_reachByQueue_L16, li_24, if_neg (nI_ge hi (by omega)), if_neg (nI_ge (by omega) (by omega)), hb, ob, if_pos rfl, li_1, nI_add]
theorem q_reach (s : St N S (M.2 0)) (B : Mem) : ∃ r B', f_X3_reachByQueue S B = some (r, B') ∧ f_X3_reachByStretches S = some r ∧ Val M r (f_X7_dampReach M) ∧ Val M r (f_X7_dampReachByStretches M) := by
  obtain ⟨c, t, q, R, I, D⟩ := s
  obtain ⟨B', hB'⟩ := c_queueReach R.c1 R.c I.1 B
  have hm := m_reach R I.1
  refine ⟨_, B', hB', c_stretch R.c1 R.c I.1, hm, ?_⟩
  obtain ⟨M', m1, m2⟩ := hm
  exact ⟨M', by rw [f_X7_dampReachByStretches, m1, ob], m2⟩
end REACH3

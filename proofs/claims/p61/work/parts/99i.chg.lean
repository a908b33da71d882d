/-! the changes as the law meets them -/
theorem neg3_ne {g : Nat} (hg : g < 2 ^ 31) : ¬ (-3 : Int32) = nI g := by
  intro e
  have h := congrArg Int32.toInt e
  rw [nI_toInt hg, show ((-3 : Int32)).toInt = -3 from by decide] at h
  omega
theorem Op.gd {N : Nat} {S M : Mem} {codes : List (Int32 × Int32)} {fc fm : Option (Int32 × Mem)} {L : List String} (o : Op N S M codes fc fm) (hL : ∀ z ∈ codes, ∃ E, E ∈ L ∧ z.1 = numE E) (A : ∀ (r : Nat) (S' : Mem), fc = some (nI r, S') → ∀ c', c' ≤ 16 → S'.1 0 = nI c' → Asc S' c') :
    (∃ E, E ∈ L ∧ fc = some (numE E, S)) ∨ ∃ (r : Nat) (S' : Mem) (c' t' q' : Nat), r < 2 ^ 31 ∧ fc = some (nI r, S') ∧ Gd (N + 1) S' c' t' q' := by
  rcases o with ⟨z, hz, e, -⟩ | ⟨r, S', M', hr, e, -, -, -, s⟩
  · obtain ⟨E, hE, eE⟩ := hL z hz
    exact Or.inl ⟨E, hE, by rw [e, eE]⟩
  · obtain ⟨c', t', q', g⟩ := Gd.of s (A r S' e)
    exact Or.inr ⟨r, S', c', t', q', hr, e, g⟩
section CHG
variable {N : Nat} {S : Mem} {c t q : Nat}
theorem Gd.ascEq (h : Gd N S c t q) {S' : Mem} {c' : Nat} (h' : c' ≤ 16) (e : S'.1 0 = nI c') (e0 : S'.1 0 = S.1 0) : c' = c := by
  have hc := h.c16
  exact (nI_eq (by omega) (by omega)).mp (e.symm.trans (e0.trans h.c1))
theorem Gd.mild {codes : List (Int32 × Int32)} {fc fm : Option (Int32 × Mem)} {L : List String} (h : Gd N S c t q) (o : Op N S (mF S) codes fc fm) (hL : ∀ z ∈ codes, ∃ E, E ∈ L ∧ z.1 = numE E) (hM : ∀ (r : Int32) (S' : Mem), fc = some (r, S') → Mild S S') :
    (∃ E, E ∈ L ∧ fc = some (numE E, S)) ∨ ∃ (r : Nat) (S' : Mem) (t' q' : Nat), r < 2 ^ 31 ∧ fc = some (nI r, S') ∧ Gd (N + 1) S' c t' q' ∧ Mild S S' := by
  rcases o.gd hL (fun r S' e c' h1 h2 => by
    have m := hM _ _ e
    rw [h.ascEq h1 h2 m.1]
    exact m.asc h.A) with h1 | ⟨r, S', c', t', q', hr, e, g⟩
  · exact Or.inl h1
  · have m := hM _ _ e
    have ec := h.ascEq g.c16 g.c1 m.1
    subst ec
    exact Or.inr ⟨r, S', t', q', hr, e, g, m⟩
theorem g_seal (h : Gd N S c t q) (x : Int32) : (∃ E, E ∈ [eNSE, eISE, eUOE] ∧ f_X4_sealLot S x = some (numE E, S)) ∨ ∃ (r : Nat) (S' : Mem) (t' q' : Nat), r < 2 ^ 31 ∧ f_X4_sealLot S x = some (nI r, S') ∧ Gd (N + 1) S' c t' q' ∧ Mild S S' := h.mild (op_seal h.st x) (by decide +kernel) (fun _ _ e => mild_seal e)
theorem g_open (h : Gd N S c t q) (x : Int32) : (∃ E, E ∈ [eNSE, eISE] ∧ f_X4_openLot S x = some (numE E, S)) ∨ ∃ (r : Nat) (S' : Mem) (t' q' : Nat), r < 2 ^ 31 ∧ f_X4_openLot S x = some (nI r, S') ∧ Gd (N + 1) S' c t' q' ∧ Mild S S' := h.mild (op_open h.st x) (by decide +kernel) (fun _ _ e => mild_open e)
theorem g_wet (h : Gd N S c t q) (x : Int32) : (∃ E, E ∈ [eNSE, eISE] ∧ f_X4_wetLot S x = some (numE E, S)) ∨ ∃ (r : Nat) (S' : Mem) (t' q' : Nat), r < 2 ^ 31 ∧ f_X4_wetLot S x = some (nI r, S') ∧ Gd (N + 1) S' c t' q' ∧ Mild S S' := h.mild (op_wet h.st x) (by decide +kernel) (fun _ _ e => mild_wet e)
theorem g_move (h : Gd N S c t q) (x b : Int32) : (∃ E, E ∈ [eNSE, eIOB, eUOE] ∧ f_X4_moveLot S x b = some (numE E, S)) ∨ ∃ (r : Nat) (S' : Mem) (t' q' : Nat), r < 2 ^ 31 ∧ f_X4_moveLot S x b = some (nI r, S') ∧ Gd (N + 1) S' c t' q' ∧ Mild S S' := h.mild (op_move h.st x b) (by decide +kernel) (fun _ _ e => mild_move e)
theorem g_queue (h : Gd N S c t q) (x : Int32) : (∃ E, E ∈ [eNSE, eISE] ∧ f_X4_queueLot S x = some (numE E, S)) ∨ ∃ (r : Nat) (S' : Mem) (t' q' : Nat), r < 2 ^ 31 ∧ f_X4_queueLot S x = some (nI r, S') ∧ Gd (N + 1) S' c t' q' ∧ Mild S S' := h.mild (op_queue h.st x) (by decide +kernel) (fun _ _ e => mild_join e)
theorem g_step (h : Gd N S c t q) (x y : Int32) : (∃ E, E ∈ [eIAE, eUOE, eISE] ∧ f_X5_insert S x y = some (numE E, S)) ∨ ∃ (r : Nat) (S' : Mem) (t' q' : Nat), r < 2 ^ 31 ∧ f_X5_insert S x y = some (nI r, S') ∧ Gd (N + 1) S' c t' q' ∧ Mild S S' := h.mild (op_step h.st x y) (by decide +kernel) (fun _ _ e => mild_step e)
theorem g_unstep (h : Gd N S c t q) (x : Int32) : (∃ E, E ∈ [eNSE] ∧ f_X5_remove S x = some (numE E, S)) ∨ ∃ (r : Nat) (S' : Mem) (t' q' : Nat), r < 2 ^ 31 ∧ f_X5_remove S x = some (nI r, S') ∧ Gd (N + 1) S' c t' q' ∧ Mild S S' := h.mild (op_unstep h.st x) (by decide +kernel) (fun _ _ e => mild_unstep e)
theorem g_add (h : Gd N S c t q) (hN : N < 2 ^ 30) (x1 x2 x3 x4 : Int32) : (∃ E, E ∈ [eIOB, eIAE, eISE, eUOE] ∧ f_X4_takeIn S x1 x2 x3 x4 = some (numE E, S)) ∨ ∃ (r : Nat) (S' : Mem) (c' t' q' : Nat), r < 2 ^ 31 ∧ f_X4_takeIn S x1 x2 x3 x4 = some (nI r, S') ∧ Gd (N + 1) S' c' t' q' ∧ S'.1 3 = S.1 3 ∧ S'.1 4 = S.1 4 := by
  have hc := h.c16
  obtain ⟨n, -, hn, en⟩ := h.D.1
  rcases (op_add h.st hN x1 x2 x3 x4).gd (L := [eIOB, eIAE, eISE, eUOE]) (by decide +kernel) (fun r S' e c' h1 h2 => by
    rcases add_form e with rfl | ⟨a0, a1, -, -, a5⟩
    · rw [h.ascEq h1 h2 rfl]
      exact h.A
    · have ec : c' = c + 1 := by
        rw [a0, h.c1, li_1, nI_add] at h2
        exact ((nI_eq (by omega) (by omega)).mp h2).symm
      subst ec
      have i0 : ∀ p, p < c → S'.2 0 p = S.2 0 p := fun p hp => by
        rw [a5, up_at, h.c1, nI_clamp (by omega), if_neg (by omega)]
      have i1 : S'.2 0 c = nI n := by rw [a5, up_at, h.c1, nI_clamp (by omega), if_pos rfl, en]
      have iv : nv (S.1 1) = n := by
        rw [en]
        exact nI_clamp (by omega)
      have iw : nv (S'.1 1) = n + 1 := by
        rw [a1, en, li_1, nI_add]
        exact nI_clamp (by omega)
      have ix : nv (S'.2 0 c) = n := by
        rw [i1]
        exact nI_clamp (by omega)
      refine ⟨fun p p' g1 g2 => ?_, fun p hp => ?_⟩
      · by_cases e9 : p' = c
        · rw [e9, ix, i0 p (by omega)]
          have := h.A.2 p (by omega)
          omega
        · rw [i0 p (by omega), i0 p' (by omega)]
          exact h.A.1 p p' g1 (by omega)
      · rw [iw]
        by_cases e9 : p = c
        · rw [e9, ix]
          omega
        · rw [i0 p (by omega)]
          have := h.A.2 p (by omega)
          omega) with h1 | ⟨r, S', c', t', q', hr, e, g⟩
  · exact Or.inl h1
  · refine Or.inr ⟨r, S', c', t', q', hr, e, g, ?_⟩
    rcases add_form e with rfl | ⟨-, -, a3, a4, -⟩
    · exact ⟨rfl, rfl⟩
    · exact ⟨a3, a4⟩
theorem g_coins (h : Gd N S c t q) (x : Int32) : (∃ E, E ∈ [eIAE, eISE] ∧ f_X4_takeCoins S x = some (numE E, S)) ∨ ∃ (r : Nat) (S' : Mem) (t' q' : Nat), r < 2 ^ 31 ∧ f_X4_takeCoins S x = some (nI r, S') ∧ Gd (N + 1) S' c t' q' ∧ S'.1 4 = S.1 4 := by
  rcases (op_coins h.st x).gd (L := [eIAE, eISE]) (by decide +kernel) (fun r S' e c' h1 h2 => by
    rcases coins_form e with rfl | rfl
    · rw [h.ascEq h1 h2 rfl]
      exact h.A
    · rw [h.ascEq h1 h2 rfl]
      exact h.A) with h1 | ⟨r, S', c', t', q', hr, e, g⟩
  · exact Or.inl h1
  · have ec : c' = c := h.ascEq g.c16 g.c1 (by rcases coins_form e with rfl | rfl <;> rfl)
    subst ec
    exact Or.inr ⟨r, S', t', q', hr, e, g, by rcases coins_form e with rfl | rfl <;> rfl⟩
theorem g_audit (h : Gd N S c t q) (hN : N < 2 ^ 30) : (q = 0 ∧ f_X4_auditFirst S = some (numE eNSE, S)) ∨ ∃ (r : Nat) (S' : Mem) (t' p : Nat), r < 2 ^ 31 ∧ f_X4_auditFirst S = some (nI r, S') ∧ Gd (N + 1) S' c t' (q - 1) ∧ Mild S S' ∧ q ≠ 0 ∧ S.2 9 0 = nI r ∧ p < c ∧ S'.2 0 p = nI r ∧ S'.2 5 p = 0 := by
  by_cases q0 : q = 0
  · refine Or.inl ⟨q0, ?_⟩
    have e0 : ¬ 0 < S.1 7 := by
      rw [h.q1, q0]
      decide
    rw [f_X4_auditFirst, if_neg e0]
    rfl
  · have hq := h.q16
    have hc := h.c16
    obtain ⟨p, hp, ep⟩ := h.Q.1 0 (by omega)
    obtain ⟨n, -, hn, en⟩ := h.D.2 p hp
    obtain ⟨S1, e1, a1, a2, a3⟩ := c_removeQue S h.q1 h.q16 (kk := 0) (x := S.2 9 0) (Nat.zero_le q) (fun i hi => ⟨fun e => h.Q.2 i 0 hi (by omega) e, fun e => by rw [e]⟩)
    have g0 : S1.1 0 = nI c := by rw [a1, if_neg (by omega), h.c1]
    have sw : f_X3_slotWith S1 (S.2 9 0) = some (nI p) := by
      rw [c_slotWith g0 hc, fnd_is (d := c) (i := 0) (j := p) (Nat.zero_le p) (by omega) (by simp [a3, ep]) (fun l _ hl => by
        have hne : ¬ S1.2 0 l = S.2 9 0 := fun z => asc_ne h.A (p := l) (p' := p) (by omega) hp (by omega) (by rw [ep, ← z, a3 0 l (by omega)])
        simpa using hne)]
      rfl
    have hf : f_X4_auditFirst S = some (S.2 9 0, wrA S1 5 (nI p) (vp_nar .boolean 0)) := by
      have k1 : 0 < S.1 7 := by
        rw [h.q1, li_0, nI_ltI (by omega) (by omega)]
        omega
      have k2 : ib 0 16 = true := by decide
      have k3 : Int32.toNatClampNeg 0 = 0 := by decide
      rw [f_X4_auditFirst, if_pos k1, if_pos k2, k3, e1, ob, sw, ob, if_neg (nI_pos (by omega)), if_pos (ib_nI (by omega) (by omega))]
    have m : Mild S (wrA S1 5 (nI p) (vp_nar .boolean 0)) := ⟨by rw [wrA_1, a1, if_neg (by omega)], by rw [wrA_1, a1, if_neg (by omega)], by rw [wrA_1, a1, if_neg (by omega)], by rw [wrA_1, a1, if_neg (by omega)], by
      show S1.2 0 = S.2 0
      exact funext fun i => a3 0 i (by omega)⟩
    rcases h.mild (L := [eNSE]) (op_audit h.st (by omega)) (by decide +kernel) (fun r S' e => by
      have := Option.some.inj (hf.symm.trans e)
      cases this
      exact m) with ⟨E, hE, e⟩ | ⟨r, S', t', q', hr, e, g, -⟩
    · have h9 := Option.some.inj (hf.symm.trans e)
      have h8 := congrArg Prod.fst h9
      have hE := List.mem_singleton.mp hE
      subst hE
      rw [← ep, en, show numE eNSE = -1 from by decide +kernel] at h8
      exact absurd h8 (nI_nm1 (by omega))
    · have h9 := Option.some.inj (hf.symm.trans e)
      obtain ⟨h8, rfl⟩ := sm2 h9
      have eq : q' = q - 1 := by
        have k := g.q1
        have k2 := g.q16
        rw [wrA_1, a1, if_pos rfl, if_pos (by omega)] at k
        exact ((nI_eq (by omega) (by omega)).mp k).symm
      subst eq
      exact Or.inr ⟨r, _, t', p, hr, e, g, m, q0, h8, hp, by rw [wr_at _ _ (by omega), if_neg (by omega), a3 0 p (by omega), ep, h8], by rw [wr_at _ _ (by omega), if_pos ⟨rfl, rfl⟩]; exact vn0⟩
theorem g_release (h : Gd N S c t q) (x : Int32) : ((∀ p, p < c → S.2 0 p ≠ x) ∧ f_X4_releaseLot S x = some (numE eNSE, S)) ∨ ∃ p, p < c ∧ S.2 0 p = x ∧ ((nv (S.1 3) < owe S t p ∧ f_X4_releaseLot S x = some (numE eUOE, S)) ∨ (owe S t p ≤ nv (S.1 3) ∧ ∃ (S' : Mem) (t' q' : Nat), f_X4_releaseLot S x = some (nI (owe S t p), S') ∧ Gd (N + 1) S' (c - 1) t' q' ∧ S'.1 3 = S.1 3 - nI (owe S t p) ∧ S'.1 4 = S.1 4 + nI (owe S t p) ∧ ∀ p', p' < c - 1 → S'.2 0 p' ≠ x)) := by
  have hc := h.c16
  obtain ⟨co, -, hco, eco⟩ := h.bd
  have ev : nv (S.1 3) = co := by
    rw [eco]
    exact nI_clamp (by omega)
  rcases h.slotOr x with ⟨e, hno⟩ | ⟨p, hp, ep, e⟩
  · refine Or.inl ⟨hno, ?_⟩
    rw [f_X4_releaseLot, e, ob, if_neg (by decide)]
    rfl
  · refine Or.inr ⟨p, hp, ep, ?_⟩
    have od := h.dutyOf hp
    have ol := h.oweLe hp
    rw [ev]
    by_cases g : owe S t p ≤ co
    · have hle : nI (owe S t p) ≤ S.1 3 := by
        rw [eco, nI_leI (by omega) (by omega)]
        exact g
      obtain ⟨S', k1, k3⟩ := lv_c (S := wrI (wrI S 3 (S.1 3 - nI (owe S t p))) 4 (S.1 4 + nI (owe S t p))) (c := c) (q := q) (p := p) h.c1 h.c16 h.q1 h.q16 h.Q hp (fun p' _ h2 => h.L.1 p' h2)
      have hf : f_X4_releaseLot S x = some (nI (owe S t p), S') := by
        rw [f_X4_releaseLot, e, ob, if_pos (nI_pos' (by omega)), od, ob, if_pos hle, k1, ob]
      have sb := k3.sub
      have s1 : S'.1 1 = S.1 1 := by rw [k3.1, if_neg (by omega), if_neg (by omega)]; rfl
      have s0 : S'.1 0 = nI (c - 1) := by rw [k3.1, if_pos rfl]
      have as : Asc S' (c - 1) := SubD.asc (S := S) sb s1 h.A
      rcases (op_release h.st x).gd (L := [eNSE, eUOE]) (by decide +kernel) (fun r S9 e9 c' h1 h2 => by
        obtain ⟨-, rfl⟩ := sm2 (Option.some.inj (hf.symm.trans e9))
        rw [s0] at h2
        rw [← (nI_eq (by omega) (by omega)).mp h2]
        exact as) with ⟨E, hE, e9⟩ | ⟨r, S9, c', t', q', hr, e9, g9⟩
      · have h8 : nI (owe S t p) = numE E := congrArg Prod.fst (Option.some.inj (hf.symm.trans e9))
        have hn : numE E < 0 := numE_neg (by
          revert hE
          exact fun hE => (by decide +kernel : ∀ x ∈ ([eNSE, eUOE] : List String), x ∈ excL) _ hE)
        rw [← h8] at hn
        exact absurd hn (nI_pos (by omega))
      · obtain ⟨-, rfl⟩ := sm2 (Option.some.inj (hf.symm.trans e9))
        have ec : c' = c - 1 := by
          have k := g9.c1
          have k2 := g9.c16
          rw [s0] at k
          exact ((nI_eq (by omega) (by omega)).mp k).symm
        subst ec
        refine Or.inr ⟨g, S', t', q', hf, g9, ?_, ?_, fun p' hp' z => ?_⟩
        · rw [k3.1, if_neg (by omega), if_neg (by omega)]
          rfl
        · rw [k3.1, if_neg (by omega), if_neg (by omega)]
          rfl
        · have z2 := k3.2.1 0 p' hp' (by omega)
          have z3 : S'.2 0 p' = S.2 0 (if p' < p then p' else p' + 1) := z2
          rw [z, ← ep] at z3
          exact asc_ne h.A (p := p) (p' := if p' < p then p' else p' + 1) hp (by split <;> omega) (by split <;> omega) z3
    · refine Or.inl ⟨by omega, ?_⟩
      have hle : ¬ nI (owe S t p) ≤ S.1 3 := by
        rw [eco, nI_leI (by omega) (by omega)]
        exact g
      rw [f_X4_releaseLot, e, ob, if_pos (nI_pos' (by omega)), od, ob, if_neg hle]
      rfl
end CHG

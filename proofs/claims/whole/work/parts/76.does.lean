/-! the commands of a text are done, class and model -/
/-- a change, or a refusal, however it is told -/
def Op1 (N : Nat) (S M : Mem) (fc fm : Option (Int32 × Mem)) : Prop :=
  (∃ e e', e < 0 ∧ e' ≠ 0 ∧ fc = some (e, S) ∧ fm = some (e', M)) ∨ ∃ (r : Nat) (S' M' : Mem), r < 2 ^ 31 ∧ fc = some (nI r, S') ∧ fm = some (0, M') ∧ Fm M M' ∧ St (N + 1) S' (M'.2 0)
theorem Op.to1 {N : Nat} {S M : Mem} {codes : List (Int32 × Int32)} {fc fm : Option (Int32 × Mem)} (h : Op N S M codes fc fm) (hc : ∀ z ∈ codes, z.1 < 0 ∧ z.2 ≠ 0) : Op1 N S M fc fm := by
  rcases h with ⟨z, z1, z2, z3⟩ | ⟨r, S', M', h1, h2, h3, h4, h5, h6⟩
  · exact Or.inl ⟨z.1, z.2, (hc z z1).1, (hc z z1).2, z2, z3⟩
  · exact Or.inr ⟨r, S', M', h1, h2, h3, h5, h6⟩
theorem pair_eta (x : Option (Int32 × Mem)) : (x.bind fun (z : Int32 × Mem) => match z with | (a, b) => some (a, b)) = x := by
  cases x with
  | none => rfl
  | some z => rfl
theorem Op1.pair {N : Nat} {S M : Mem} {fc fm : Option (Int32 × Mem)} (h : Op1 N S M fc fm) : Op1 N S M (fc.bind fun (z : Int32 × Mem) => match z with | (a, b) => some (a, b)) (fm.bind fun (z : Int32 × Mem) => match z with | (a, b) => some (a, b)) := by
  rw [pair_eta, pair_eta]
  exact h
section DOES
variable {S M : Mem} {N : Nat} {t : Nat → Int32} {n : Nat}
theorem does_both (s : St N S (M.2 0)) (hN : N < 2 ^ 30) {C : Mem} {j p v : Nat} (hj : j < 59) (hv : v < 11) (hok : (fr t n (wd v) p).1 = true) (hT : Told M t n j p v) (hC2 : C.1 2 = nI v) (hC3 : v = 0 → C.1 3 = t (p + 4)) (hC : ∀ x, x < (fr t n (wd v) p).2.2.length → C.2 1 x = (fr t n (wd v) p).2.2.getD x 0) : Op1 N S M (f_X4_perform S C) (f_X7_does M (nI j)) := by
  obtain ⟨t1, t2, t3⟩ := hT
  have hl := fr_n35 (t := t) (n := n) (wd v) p hok
  have i0 : ib 0 3 = true := by decide +kernel
  have i1 : ib 1 3 = true := by decide +kernel
  have i2 : ib 2 3 = true := by decide +kernel
  have c0 : Int32.toNatClampNeg 0 = 0 := by decide +kernel
  have c1 : Int32.toNatClampNeg 1 = 1 := by decide +kernel
  have c2 : Int32.toNatClampNeg 2 = 2 := by decide +kernel
  have j0 : ib (nI (5 * j)) 300 = true := ib_nI (by omega) (by omega)
  have j1 : ib (nI (5 * j + 1)) 300 = true := ib_nI (by omega) (by omega)
  have j2 : ib (nI (5 * j + 2)) 300 = true := ib_nI (by omega) (by omega)
  have j3 : ib (nI (5 * j + 3)) 300 = true := ib_nI (by omega) (by omega)
  have j4 : ib (nI (5 * j + 4)) 300 = true := ib_nI (by omega) (by omega)
  have k0 : (nI (5 * j)).toNatClampNeg = 5 * j := nI_clamp (by omega)
  have k1 : (nI (5 * j + 1)).toNatClampNeg = 5 * j + 1 := nI_clamp (by omega)
  have k2 : (nI (5 * j + 2)).toNatClampNeg = 5 * j + 2 := nI_clamp (by omega)
  have k3 : (nI (5 * j + 3)).toNatClampNeg = 5 * j + 3 := nI_clamp (by omega)
  have k4 : (nI (5 * j + 4)).toNatClampNeg = 5 * j + 4 := nI_clamp (by omega)
  have a1 : 5 * nI j + 1 = nI (5 * j + 1) := by rw [li_5, pk_mul, li_1, nI_add]
  have a2 : 5 * nI j + 2 = nI (5 * j + 2) := by rw [li_5, pk_mul, li_2, nI_add]
  have a3 : 5 * nI j + 3 = nI (5 * j + 3) := by rw [li_5, pk_mul, li_3, nI_add]
  have a4 : 5 * nI j + 4 = nI (5 * j + 4) := by rw [li_5, pk_mul, li_4, nI_add]
  have a0 : 5 * nI j = nI (5 * j) := by rw [li_5, pk_mul]
  have hv' : v = 0 ∨ v = 1 ∨ v = 2 ∨ v = 3 ∨ v = 4 ∨ v = 5 ∨ v = 6 ∨ v = 7 ∨ v = 8 ∨ v = 9 ∨ v = 10 := by omega
  rcases hv' with e | e | e | e | e | e | e | e | e | e | e <;> subst e
  · have hs : M.2 6 (5 * j) = 108 := t1
    have hlen : (fr t n (wd 0) p).2.2.length = 3 := hl.trans (by decide +kernel)
    have e0 : C.2 1 0 = M.2 6 (5 * j + 1) := (hC 0 (by omega)).trans (t2 0 (by omega)).symm
    have e1 : C.2 1 1 = M.2 6 (5 * j + 2) := (hC 1 (by omega)).trans (t2 1 (by omega)).symm
    have e2 : C.2 1 2 = M.2 6 (5 * j + 3) := (hC 2 (by omega)).trans (t2 2 (by omega)).symm
    rw [f_X4_perform, if_pos i0, if_pos i1, if_pos i2, hC2, if_pos (show nI 0 = 0 from rfl)]
    rw [f_X7_does, a1, a2, a4, a3, a0, if_pos j1, if_pos j2, if_pos j0, k0, hs, if_neg (show ¬ (108 : Int32) = 97 by decide), if_neg (show ¬ (108 : Int32) = 98 by decide), if_neg (show ¬ (108 : Int32) = 99 by decide), if_neg (show ¬ (108 : Int32) = 100 by decide), if_neg (show ¬ (108 : Int32) = 101 by decide), if_neg (show ¬ (108 : Int32) = 102 by decide), if_neg (show ¬ (108 : Int32) = 103 by decide), if_neg (show ¬ (108 : Int32) = 104 by decide), if_neg (show ¬ (108 : Int32) = 105 by decide), if_neg (show ¬ (108 : Int32) = 106 by decide), if_neg (show ¬ (108 : Int32) = 107 by decide), if_pos rfl, if_pos j4, if_pos j3]
    rw [c0, c1, c2, e0, e1, e2, k1, k2, k3, k4]
    rw [hC3 rfl, t3 rfl]
    exact (Op.to1 (op_add s hN _ _ _ _) (by decide)).pair
  · have hs : M.2 6 (5 * j) = 115 := t1
    have hlen : (fr t n (wd 1) p).2.2.length = 1 := hl.trans (by decide +kernel)
    have e0 : C.2 1 0 = M.2 6 (5 * j + 1) := (hC 0 (by omega)).trans (t2 0 (by omega)).symm
    rw [f_X4_perform, if_pos i0, if_pos i1, if_pos i2, hC2, if_neg (show ¬ nI 1 = 0 by decide), if_pos (show nI 1 = 1 from rfl)]
    rw [f_X7_does, a1, a2, a0, if_pos j1, if_pos j2, if_pos j0, k0, hs, if_neg (show ¬ (115 : Int32) = 97 by decide), if_neg (show ¬ (115 : Int32) = 98 by decide), if_neg (show ¬ (115 : Int32) = 99 by decide), if_neg (show ¬ (115 : Int32) = 100 by decide), if_neg (show ¬ (115 : Int32) = 101 by decide), if_neg (show ¬ (115 : Int32) = 102 by decide), if_neg (show ¬ (115 : Int32) = 103 by decide), if_neg (show ¬ (115 : Int32) = 104 by decide), if_neg (show ¬ (115 : Int32) = 105 by decide), if_neg (show ¬ (115 : Int32) = 106 by decide), if_neg (show ¬ (115 : Int32) = 107 by decide), if_neg (show ¬ (115 : Int32) = 108 by decide), if_neg (show ¬ (115 : Int32) = 109 by decide), if_neg (show ¬ (115 : Int32) = 110 by decide), if_neg (show ¬ (115 : Int32) = 111 by decide), if_neg (show ¬ (115 : Int32) = 112 by decide), if_neg (show ¬ (115 : Int32) = 113 by decide), if_neg (show ¬ (115 : Int32) = 114 by decide), if_pos rfl]
    rw [c0, e0, k1]
    exact (Op.to1 (op_seal s _) (by decide)).pair
  · have hs : M.2 6 (5 * j) = 111 := t1
    have hlen : (fr t n (wd 2) p).2.2.length = 1 := hl.trans (by decide +kernel)
    have e0 : C.2 1 0 = M.2 6 (5 * j + 1) := (hC 0 (by omega)).trans (t2 0 (by omega)).symm
    rw [f_X4_perform, if_pos i0, if_pos i1, if_pos i2, hC2, if_neg (show ¬ nI 2 = 0 by decide), if_neg (show ¬ nI 2 = 1 by decide), if_pos (show nI 2 = 2 from rfl)]
    rw [f_X7_does, a1, a2, a0, if_pos j1, if_pos j2, if_pos j0, k0, hs, if_neg (show ¬ (111 : Int32) = 97 by decide), if_neg (show ¬ (111 : Int32) = 98 by decide), if_neg (show ¬ (111 : Int32) = 99 by decide), if_neg (show ¬ (111 : Int32) = 100 by decide), if_neg (show ¬ (111 : Int32) = 101 by decide), if_neg (show ¬ (111 : Int32) = 102 by decide), if_neg (show ¬ (111 : Int32) = 103 by decide), if_neg (show ¬ (111 : Int32) = 104 by decide), if_neg (show ¬ (111 : Int32) = 105 by decide), if_neg (show ¬ (111 : Int32) = 106 by decide), if_neg (show ¬ (111 : Int32) = 107 by decide), if_neg (show ¬ (111 : Int32) = 108 by decide), if_neg (show ¬ (111 : Int32) = 109 by decide), if_neg (show ¬ (111 : Int32) = 110 by decide), if_pos rfl]
    rw [c0, e0, k1]
    exact (Op.to1 (op_open s _) (by decide)).pair
  · have hs : M.2 6 (5 * j) = 119 := t1
    have hlen : (fr t n (wd 3) p).2.2.length = 1 := hl.trans (by decide +kernel)
    have e0 : C.2 1 0 = M.2 6 (5 * j + 1) := (hC 0 (by omega)).trans (t2 0 (by omega)).symm
    rw [f_X4_perform, if_pos i0, if_pos i1, if_pos i2, hC2, if_neg (show ¬ nI 3 = 0 by decide), if_neg (show ¬ nI 3 = 1 by decide), if_neg (show ¬ nI 3 = 2 by decide), if_pos (show nI 3 = 3 from rfl)]
    rw [f_X7_does, a1, a2, a0, if_pos j1, if_pos j2, if_pos j0, k0, hs, if_neg (show ¬ (119 : Int32) = 97 by decide), if_neg (show ¬ (119 : Int32) = 98 by decide), if_neg (show ¬ (119 : Int32) = 99 by decide), if_neg (show ¬ (119 : Int32) = 100 by decide), if_neg (show ¬ (119 : Int32) = 101 by decide), if_neg (show ¬ (119 : Int32) = 102 by decide), if_neg (show ¬ (119 : Int32) = 103 by decide), if_neg (show ¬ (119 : Int32) = 104 by decide), if_neg (show ¬ (119 : Int32) = 105 by decide), if_neg (show ¬ (119 : Int32) = 106 by decide), if_neg (show ¬ (119 : Int32) = 107 by decide), if_neg (show ¬ (119 : Int32) = 108 by decide), if_neg (show ¬ (119 : Int32) = 109 by decide), if_neg (show ¬ (119 : Int32) = 110 by decide), if_neg (show ¬ (119 : Int32) = 111 by decide), if_neg (show ¬ (119 : Int32) = 112 by decide), if_neg (show ¬ (119 : Int32) = 113 by decide), if_neg (show ¬ (119 : Int32) = 114 by decide), if_neg (show ¬ (119 : Int32) = 115 by decide), if_neg (show ¬ (119 : Int32) = 116 by decide), if_neg (show ¬ (119 : Int32) = 117 by decide), if_neg (show ¬ (119 : Int32) = 118 by decide), if_pos rfl]
    rw [c0, e0, k1]
    exact (Op.to1 (op_wet s _) (by decide)).pair
  · have hs : M.2 6 (5 * j) = 113 := t1
    have hlen : (fr t n (wd 4) p).2.2.length = 1 := hl.trans (by decide +kernel)
    have e0 : C.2 1 0 = M.2 6 (5 * j + 1) := (hC 0 (by omega)).trans (t2 0 (by omega)).symm
    rw [f_X4_perform, if_pos i0, if_pos i1, if_pos i2, hC2, if_neg (show ¬ nI 4 = 0 by decide), if_neg (show ¬ nI 4 = 1 by decide), if_neg (show ¬ nI 4 = 2 by decide), if_neg (show ¬ nI 4 = 3 by decide), if_pos (show nI 4 = 4 from rfl)]
    rw [f_X7_does, a1, a2, a0, if_pos j1, if_pos j2, if_pos j0, k0, hs, if_neg (show ¬ (113 : Int32) = 97 by decide), if_neg (show ¬ (113 : Int32) = 98 by decide), if_neg (show ¬ (113 : Int32) = 99 by decide), if_neg (show ¬ (113 : Int32) = 100 by decide), if_neg (show ¬ (113 : Int32) = 101 by decide), if_neg (show ¬ (113 : Int32) = 102 by decide), if_neg (show ¬ (113 : Int32) = 103 by decide), if_neg (show ¬ (113 : Int32) = 104 by decide), if_neg (show ¬ (113 : Int32) = 105 by decide), if_neg (show ¬ (113 : Int32) = 106 by decide), if_neg (show ¬ (113 : Int32) = 107 by decide), if_neg (show ¬ (113 : Int32) = 108 by decide), if_neg (show ¬ (113 : Int32) = 109 by decide), if_neg (show ¬ (113 : Int32) = 110 by decide), if_neg (show ¬ (113 : Int32) = 111 by decide), if_neg (show ¬ (113 : Int32) = 112 by decide), if_pos rfl]
    rw [c0, e0, k1]
    exact (Op.to1 (op_queue s _) (by decide)).pair
  · have hs : M.2 6 (5 * j) = 114 := t1
    have hlen : (fr t n (wd 5) p).2.2.length = 1 := hl.trans (by decide +kernel)
    have e0 : C.2 1 0 = M.2 6 (5 * j + 1) := (hC 0 (by omega)).trans (t2 0 (by omega)).symm
    rw [f_X4_perform, if_pos i0, if_pos i1, if_pos i2, hC2, if_neg (show ¬ nI 5 = 0 by decide), if_neg (show ¬ nI 5 = 1 by decide), if_neg (show ¬ nI 5 = 2 by decide), if_neg (show ¬ nI 5 = 3 by decide), if_neg (show ¬ nI 5 = 4 by decide), if_pos (show nI 5 = 5 from rfl)]
    rw [f_X7_does, a1, a2, a0, if_pos j1, if_pos j2, if_pos j0, k0, hs, if_neg (show ¬ (114 : Int32) = 97 by decide), if_neg (show ¬ (114 : Int32) = 98 by decide), if_neg (show ¬ (114 : Int32) = 99 by decide), if_neg (show ¬ (114 : Int32) = 100 by decide), if_neg (show ¬ (114 : Int32) = 101 by decide), if_neg (show ¬ (114 : Int32) = 102 by decide), if_neg (show ¬ (114 : Int32) = 103 by decide), if_neg (show ¬ (114 : Int32) = 104 by decide), if_neg (show ¬ (114 : Int32) = 105 by decide), if_neg (show ¬ (114 : Int32) = 106 by decide), if_neg (show ¬ (114 : Int32) = 107 by decide), if_neg (show ¬ (114 : Int32) = 108 by decide), if_neg (show ¬ (114 : Int32) = 109 by decide), if_neg (show ¬ (114 : Int32) = 110 by decide), if_neg (show ¬ (114 : Int32) = 111 by decide), if_neg (show ¬ (114 : Int32) = 112 by decide), if_neg (show ¬ (114 : Int32) = 113 by decide), if_pos rfl]
    rw [c0, e0, k1]
    exact (Op.to1 (op_release s _) (by decide)).pair
  · have hs : M.2 6 (5 * j) = 109 := t1
    have hlen : (fr t n (wd 6) p).2.2.length = 2 := hl.trans (by decide +kernel)
    have e0 : C.2 1 0 = M.2 6 (5 * j + 1) := (hC 0 (by omega)).trans (t2 0 (by omega)).symm
    have e1 : C.2 1 1 = M.2 6 (5 * j + 2) := (hC 1 (by omega)).trans (t2 1 (by omega)).symm
    rw [f_X4_perform, if_pos i0, if_pos i1, if_pos i2, hC2, if_neg (show ¬ nI 6 = 0 by decide), if_neg (show ¬ nI 6 = 1 by decide), if_neg (show ¬ nI 6 = 2 by decide), if_neg (show ¬ nI 6 = 3 by decide), if_neg (show ¬ nI 6 = 4 by decide), if_neg (show ¬ nI 6 = 5 by decide), if_pos (show nI 6 = 6 from rfl)]
    rw [f_X7_does, a1, a2, a0, if_pos j1, if_pos j2, if_pos j0, k0, hs, if_neg (show ¬ (109 : Int32) = 97 by decide), if_neg (show ¬ (109 : Int32) = 98 by decide), if_neg (show ¬ (109 : Int32) = 99 by decide), if_neg (show ¬ (109 : Int32) = 100 by decide), if_neg (show ¬ (109 : Int32) = 101 by decide), if_neg (show ¬ (109 : Int32) = 102 by decide), if_neg (show ¬ (109 : Int32) = 103 by decide), if_neg (show ¬ (109 : Int32) = 104 by decide), if_neg (show ¬ (109 : Int32) = 105 by decide), if_neg (show ¬ (109 : Int32) = 106 by decide), if_neg (show ¬ (109 : Int32) = 107 by decide), if_neg (show ¬ (109 : Int32) = 108 by decide), if_pos rfl]
    rw [c0, c1, e0, e1, k1, k2]
    exact (Op.to1 (op_move s _ _) (by decide)).pair
  · have hs : M.2 6 (5 * j) = 97 := t1
    have hlen : (fr t n (wd 7) p).2.2.length = 0 := hl.trans (by decide +kernel)
    rw [f_X4_perform, if_pos i0, if_pos i1, if_pos i2, hC2, if_neg (show ¬ nI 7 = 0 by decide), if_neg (show ¬ nI 7 = 1 by decide), if_neg (show ¬ nI 7 = 2 by decide), if_neg (show ¬ nI 7 = 3 by decide), if_neg (show ¬ nI 7 = 4 by decide), if_neg (show ¬ nI 7 = 5 by decide), if_neg (show ¬ nI 7 = 6 by decide), if_pos (show nI 7 = 7 from rfl)]
    rw [f_X7_does, a1, a2, a0, if_pos j1, if_pos j2, if_pos j0, k0, hs, if_pos rfl]
    exact (Op.to1 (op_audit s (by omega)) (by decide)).pair
  · have hs : M.2 6 (5 * j) = 116 := t1
    have hlen : (fr t n (wd 8) p).2.2.length = 2 := hl.trans (by decide +kernel)
    have e0 : C.2 1 0 = M.2 6 (5 * j + 1) := (hC 0 (by omega)).trans (t2 0 (by omega)).symm
    have e1 : C.2 1 1 = M.2 6 (5 * j + 2) := (hC 1 (by omega)).trans (t2 1 (by omega)).symm
    rw [f_X4_perform, if_pos i0, if_pos i1, if_pos i2, hC2, if_neg (show ¬ nI 8 = 0 by decide), if_neg (show ¬ nI 8 = 1 by decide), if_neg (show ¬ nI 8 = 2 by decide), if_neg (show ¬ nI 8 = 3 by decide), if_neg (show ¬ nI 8 = 4 by decide), if_neg (show ¬ nI 8 = 5 by decide), if_neg (show ¬ nI 8 = 6 by decide), if_neg (show ¬ nI 8 = 7 by decide), if_pos (show nI 8 = 8 from rfl)]
    rw [f_X7_does, a1, a2, a0, if_pos j1, if_pos j2, if_pos j0, k0, hs, if_neg (show ¬ (116 : Int32) = 97 by decide), if_neg (show ¬ (116 : Int32) = 98 by decide), if_neg (show ¬ (116 : Int32) = 99 by decide), if_neg (show ¬ (116 : Int32) = 100 by decide), if_neg (show ¬ (116 : Int32) = 101 by decide), if_neg (show ¬ (116 : Int32) = 102 by decide), if_neg (show ¬ (116 : Int32) = 103 by decide), if_neg (show ¬ (116 : Int32) = 104 by decide), if_neg (show ¬ (116 : Int32) = 105 by decide), if_neg (show ¬ (116 : Int32) = 106 by decide), if_neg (show ¬ (116 : Int32) = 107 by decide), if_neg (show ¬ (116 : Int32) = 108 by decide), if_neg (show ¬ (116 : Int32) = 109 by decide), if_neg (show ¬ (116 : Int32) = 110 by decide), if_neg (show ¬ (116 : Int32) = 111 by decide), if_neg (show ¬ (116 : Int32) = 112 by decide), if_neg (show ¬ (116 : Int32) = 113 by decide), if_neg (show ¬ (116 : Int32) = 114 by decide), if_neg (show ¬ (116 : Int32) = 115 by decide), if_pos rfl]
    rw [c0, c1, e0, e1, k1, k2]
    exact (Op.to1 (op_step s _ _) (by decide)).pair
  · have hs : M.2 6 (5 * j) = 98 := t1
    have hlen : (fr t n (wd 9) p).2.2.length = 1 := hl.trans (by decide +kernel)
    have e0 : C.2 1 0 = M.2 6 (5 * j + 1) := (hC 0 (by omega)).trans (t2 0 (by omega)).symm
    rw [f_X4_perform, if_pos i0, if_pos i1, if_pos i2, hC2, if_neg (show ¬ nI 9 = 0 by decide), if_neg (show ¬ nI 9 = 1 by decide), if_neg (show ¬ nI 9 = 2 by decide), if_neg (show ¬ nI 9 = 3 by decide), if_neg (show ¬ nI 9 = 4 by decide), if_neg (show ¬ nI 9 = 5 by decide), if_neg (show ¬ nI 9 = 6 by decide), if_neg (show ¬ nI 9 = 7 by decide), if_neg (show ¬ nI 9 = 8 by decide), if_pos (show nI 9 = 9 from rfl)]
    rw [f_X7_does, a1, a2, a0, if_pos j1, if_pos j2, if_pos j0, k0, hs, if_neg (show ¬ (98 : Int32) = 97 by decide), if_pos rfl]
    rw [c0, e0, k1]
    exact (Op.to1 (op_coins s _) (by decide)).pair
  · have hs : M.2 6 (5 * j) = 100 := t1
    have hlen : (fr t n (wd 10) p).2.2.length = 0 := hl.trans (by decide +kernel)
    obtain ⟨S', M', d1, d2, d3, d4⟩ := op_day1 s
    refine Or.inr ⟨0, S', M', by omega, ?_, ?_, d3, d4⟩
    · rw [f_X4_perform, if_pos i0, if_pos i1, if_pos i2, hC2, if_neg (show ¬ nI 10 = 0 by decide), if_neg (show ¬ nI 10 = 1 by decide), if_neg (show ¬ nI 10 = 2 by decide), if_neg (show ¬ nI 10 = 3 by decide), if_neg (show ¬ nI 10 = 4 by decide), if_neg (show ¬ nI 10 = 5 by decide), if_neg (show ¬ nI 10 = 6 by decide), if_neg (show ¬ nI 10 = 7 by decide), if_neg (show ¬ nI 10 = 8 by decide), if_neg (show ¬ nI 10 = 9 by decide), d1, ob]
      rfl
    · rw [f_X7_does, a1, a2, a0, if_pos j1, if_pos j2, if_pos j0, k0, hs, if_neg (show ¬ (100 : Int32) = 97 by decide), if_neg (show ¬ (100 : Int32) = 98 by decide), if_neg (show ¬ (100 : Int32) = 99 by decide), if_pos rfl, d2, ob]
end DOES

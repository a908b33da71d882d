/-! the number that stands for a state -/
def lotT (S : Mem) (q p : Nat) : List Nat := lotTx (nv (S.2 1 p)) (nv (S.2 2 p)) (nv (S.2 3 p)) (nv (S.2 4 p)) (S.2 5 p) (S.2 6 p) (oi (quc S q (S.2 0 p)))
def txS : Int64 → List Nat → Int64
  | v, [] => v
  | v, ch :: L => txS (31 * v + (nI ch).toInt64) L
def lotS (S : Mem) (q : Nat) (v : Int64) : Nat → Int64
  | 0 => v
  | p + 1 => txS (31 * lotS S q v p + (S.2 0 p).toInt64) (lotT S q p)
def queS (S : Mem) (v : Int64) : Nat → Int64
  | 0 => v
  | p + 1 => 31 * queS S v p + (S.2 9 p).toInt64
def stpS (S : Mem) (v : Int64) : Nat → Int64
  | 0 => v
  | k + 1 => 31 * stpS S v k + 101 * (S.2 7 k).toInt64 + (S.2 8 k).toInt64
def numS (S : Mem) : Int64 := 31 * (31 * (S.1 3).toInt64 + (S.1 4).toInt64) + 101 * (S.1 5).toInt64 + (S.1 6).toInt64
def sumF (S : Mem) (c t q : Nat) : Int64 := stpS S (queS S (lotS S q (numS S) c) q) t
section SUMS
variable {N : Nat} {S T : Mem} {c t q : Nat}
theorem lotT_same (h : Same S T c t q) {p : Nat} (hp : p < c) : lotT S q p = lotT T q p := by
  unfold lotT
  rw [h.2.1 1 p hp (by omega), h.2.1 2 p hp (by omega), h.2.1 3 p hp (by omega), h.2.1 4 p hp (by omega), h.2.1 5 p hp (by omega), h.2.1 6 p hp (by omega), h.2.1 0 p hp (by omega)]
  unfold quc
  rw [fnd_congr (p := fun k => decide (S.2 9 k = T.2 0 p)) (q := fun k => decide (T.2 9 k = T.2 0 p)) q 0 (fun j _ hj => by rw [h.2.2.2 j (by omega)])]
theorem lotS_same (h : Same S T c t q) (v : Int64) : ∀ p, p ≤ c → lotS S q v p = lotS T q v p := by
  intro p
  induction p with
  | zero => intro _; rfl
  | succ p ih =>
    intro hp
    rw [lotS, lotS, ih (by omega), lotT_same h (by omega), h.2.1 0 p (by omega) (by omega)]
theorem queS_same (h : Same S T c t q) (v : Int64) : ∀ p, p ≤ q → queS S v p = queS T v p := by
  intro p
  induction p with
  | zero => intro _; rfl
  | succ p ih =>
    intro hp
    rw [queS, queS, ih (by omega), h.2.2.2 p (by omega)]
theorem stpS_same (h : Same S T c t q) (v : Int64) : ∀ k, k ≤ t → stpS S v k = stpS T v k := by
  intro k
  induction k with
  | zero => intro _; rfl
  | succ k ih =>
    intro hk
    rw [stpS, stpS, ih (by omega), h.2.2.1 7 k (by omega) (Or.inl rfl), h.2.2.1 8 k (by omega) (Or.inr rfl)]
theorem sumF_same (h : Same S T c t q) : sumF S c t q = sumF T c t q := by
  unfold sumF
  have e : numS S = numS T := by
    unfold numS
    rw [h.1 3 (by omega), h.1 4 (by omega), h.1 5 (by omega), h.1 6 (by omega)]
  rw [e, lotS_same h _ c (Nat.le_refl c), queS_same h _ q (Nat.le_refl q), stpS_same h _ t (Nat.le_refl t)]
theorem Gd.lotP (h : Gd N S c t q) {p : Nat} (hp : p < c) : LotP S (S.2 0 p) p (nv (S.2 1 p)) (nv (S.2 2 p)) (nv (S.2 3 p)) (nv (S.2 4 p)) (oi (quc S q (S.2 0 p))) := by
  have hc := h.c16
  have hq := h.q16
  obtain ⟨l1, l2, l3, l4, l5, l6, -⟩ := h.L.1 p hp
  obtain ⟨k1, -, b1⟩ := l1.nn (by omega)
  obtain ⟨k2, -, b2⟩ := l2.nn (by omega)
  obtain ⟨k3, -, b3⟩ := l3.nn (by omega)
  obtain ⟨k4, -, b4⟩ := l4.nn (by omega)
  refine ⟨by omega, h.slot hp, ⟨k1, by omega⟩, ⟨k2, by omega⟩, ⟨k3, by omega⟩, ⟨k4, by omega⟩, l5, l6, c_queue h.q1 hq _, ?_⟩
  rcases fnd_at (g := S.2 9) (x := S.2 0 p) (c := q) with ⟨k9, -⟩ | ⟨j, k9, hj, -⟩
  · exact Or.inl (by rw [show quc S q (S.2 0 p) = none from k9]; rfl)
  · exact Or.inr ⟨j, by omega, by rw [show quc S q (S.2 0 p) = some j from k9]; rfl⟩
theorem lotT_le (p : Nat) : (lotT S q p).length ≤ 12 := lotTx_le _ _ _ _ _ _ _
/-- the text's letters, one by one -/
theorem txS_snoc (ch : Nat) : ∀ (L : List Nat) (v : Int64), txS v (L ++ [ch]) = 31 * txS v L + (nI ch).toInt64 := by
  intro L
  induction L with
  | nil => intro v; rfl
  | cons a L ih => intro v; exact ih _
theorem txS_take (L : List Nat) (v : Int64) {k ch : Nat} (h : L[k]? = some ch) : txS v (L.take (k + 1)) = 31 * txS v (L.take k) + (nI ch).toInt64 := by
  rw [← txS_snoc, List.take_add_one, h]
  rfl
end SUMS

/-! THE PURE LAYER: what the functions of 18.fn answer, in plain words. Numbers, searches, loops -/
theorem li_0 : (0 : Int32) = nI 0 := rfl
theorem li_1 : (1 : Int32) = nI 1 := rfl
theorem li_2 : (2 : Int32) = nI 2 := rfl
theorem li_3 : (3 : Int32) = nI 3 := rfl
theorem li_4 : (4 : Int32) = nI 4 := rfl
theorem li_5 : (5 : Int32) = nI 5 := rfl
theorem li_6 : (6 : Int32) = nI 6 := rfl
theorem li_7 : (7 : Int32) = nI 7 := rfl
theorem li_8 : (8 : Int32) = nI 8 := rfl
theorem li_9 : (9 : Int32) = nI 9 := rfl
theorem li_10 : (10 : Int32) = nI 10 := rfl
theorem li_11 : (11 : Int32) = nI 11 := rfl
theorem li_12 : (12 : Int32) = nI 12 := rfl
theorem li_16 : (16 : Int32) = nI 16 := rfl
theorem li_20 : (20 : Int32) = nI 20 := rfl
theorem li_23 : (23 : Int32) = nI 23 := rfl
theorem li_24 : (24 : Int32) = nI 24 := rfl
theorem li_30 : (30 : Int32) = nI 30 := rfl
theorem li_32 : (32 : Int32) = nI 32 := rfl
theorem li_35 : (35 : Int32) = nI 35 := rfl
theorem li_37 : (37 : Int32) = nI 37 := rfl
theorem li_40 : (40 : Int32) = nI 40 := rfl
theorem li_42 : (42 : Int32) = nI 42 := rfl
theorem li_46 : (46 : Int32) = nI 46 := rfl
theorem li_48 : (48 : Int32) = nI 48 := rfl
theorem li_53 : (53 : Int32) = nI 53 := rfl
theorem li_57 : (57 : Int32) = nI 57 := rfl
theorem li_58 : (58 : Int32) = nI 58 := rfl
theorem li_59 : (59 : Int32) = nI 59 := rfl
theorem li_60 : (60 : Int32) = nI 60 := rfl
theorem li_63 : (63 : Int32) = nI 63 := rfl
theorem li_64 : (64 : Int32) = nI 64 := rfl
theorem li_65 : (65 : Int32) = nI 65 := rfl
theorem li_97 : (97 : Int32) = nI 97 := rfl
theorem li_99 : (99 : Int32) = nI 99 := rfl
theorem li_100 : (100 : Int32) = nI 100 := rfl
theorem li_101 : (101 : Int32) = nI 101 := rfl
theorem li_120 : (120 : Int32) = nI 120 := rfl
theorem li_126 : (126 : Int32) = nI 126 := rfl
theorem li_132 : (132 : Int32) = nI 132 := rfl
theorem li_148 : (148 : Int32) = nI 148 := rfl
theorem li_300 : (300 : Int32) = nI 300 := rfl
theorem li_999 : (999 : Int32) = nI 999 := rfl
theorem li_1036 : (1036 : Int32) = nI 1036 := rfl
theorem li_1184 : (1184 : Int32) = nI 1184 := rfl
theorem li_9999 : (9999 : Int32) = nI 9999 := rfl
theorem nn1 : (-(nI 1) : Int32) = -1 := rfl
abbrev nv (x : Int32) : Nat := x.toNatClampNeg
theorem ob {α β : Type} (a : α) (f : α → Option β) : (some a).bind f = f a := rfl
theorem ib_nI {i n : Nat} (h : i < n) (hn : n < 2 ^ 31) : ib (nI i) n = true := by
  have := nI_in h hn
  simpa [ib] using this
theorem wrI_1 (S : Mem) (k : Nat) (v : Int32) (j : Nat) : (wrI S k v).1 j = if j = k then v else S.1 j := rfl
theorem wrI_2 (S : Mem) (k : Nat) (v : Int32) : (wrI S k v).2 = S.2 := rfl
theorem wrA_1 (S : Mem) (k : Nat) (i v : Int32) : (wrA S k i v).1 = S.1 := rfl
theorem wrA_2 (S : Mem) (k : Nat) (i v : Int32) (j : Nat) : (wrA S k i v).2 j = if j = k then upd (S.2 k) i.toNatClampNeg v else S.2 j := rfl
theorem up_at (f : Nat → Int32) (k : Nat) (x : Int32) (j : Nat) : upd f k x j = if j = k then x else f j := by
  by_cases h : j = k
  · rw [h, pk_us, if_pos rfl]
  · rw [pk_un h, if_neg h]
theorem vn0 : vp_nar .boolean 0 = 0 := by decide +kernel
theorem vn1 : vp_nar .boolean 1 = 1 := by decide +kernel
theorem vnb {x : Int32} (h : x = 0 ∨ x = 1) : vp_nar .boolean x = x := by
  rcases h with h | h
  · rw [h, vn0]
  · rw [h, vn1]
theorem vnc {q : Nat} (h : q < 65536) : vp_nar .char (nI q) = nI q := by
  have h1 := (pk_charN h).1
  have h2 : narrow .char (.int (nI q)) = .int (vp_nar .char (nI q)) := rfl
  rw [h2] at h1
  injection h1
/-- a number from lo to hi -/
def inR (x : Int32) (lo hi : Nat) : Prop := ∃ n : Nat, lo ≤ n ∧ n ≤ hi ∧ x = nI n
/-- the first i' of i, .. , i + d - 1 with p -/
def fnd (p : Nat → Bool) : Nat → Nat → Option Nat
  | 0, _ => none
  | d + 1, i => if p i = true then some i else fnd p d (i + 1)
def fk {α : Type} (o : Option Nat) (k : α) (g : Nat → α) : α := match o with
  | none => k
  | some j => g j
theorem fk_n {α : Type} (k : α) (g : Nat → α) : fk none k g = k := rfl
theorem fk_s {α : Type} (k : α) (g : Nat → α) (j : Nat) : fk (some j) k g = g j := rfl
def oi (o : Option Nat) : Int32 := fk o (-1) nI
theorem oi_n : oi none = -1 := rfl
theorem oi_s (j : Nat) : oi (some j) = nI j := rfl
theorem fnd_spec (p : Nat → Bool) : ∀ d i, (fnd p d i = none ∧ ∀ j, i ≤ j → j < i + d → p j = false) ∨ ∃ j, fnd p d i = some j ∧ i ≤ j ∧ j < i + d ∧ p j = true ∧ ∀ l, i ≤ l → l < j → p l = false := by
  intro d
  induction d with
  | zero => intro i; exact Or.inl ⟨rfl, fun j h1 h2 => absurd h2 (by omega)⟩
  | succ d ih =>
    intro i
    by_cases h : p i = true
    · exact Or.inr ⟨i, by rw [fnd, if_pos h], Nat.le_refl i, by omega, h, fun l h1 h2 => absurd h2 (by omega)⟩
    · have h' : p i = false := by simpa using h
      rcases ih (i + 1) with ⟨h1, h2⟩ | ⟨j, h1, h2, h3, h4, h5⟩
      · refine Or.inl ⟨by rw [fnd, if_neg h, h1], fun j a b => ?_⟩
        by_cases e : j = i
        · rw [e, h']
        · exact h2 j (by omega) (by omega)
      · refine Or.inr ⟨j, by rw [fnd, if_neg h, h1], by omega, by omega, h4, fun l a b => ?_⟩
        by_cases e : l = i
        · rw [e, h']
        · exact h5 l (by omega) b
theorem fnd_congr {p q : Nat → Bool} : ∀ d i, (∀ j, i ≤ j → j < i + d → p j = q j) → fnd p d i = fnd q d i := by
  intro d
  induction d with
  | zero => intro i _; rfl
  | succ d ih =>
    intro i h
    rw [fnd, fnd, h i (Nat.le_refl i) (by omega), ih (i + 1) (fun j a b => h j (by omega) (by omega))]
theorem fnd_is {p : Nat → Bool} {d i j : Nat} (h1 : i ≤ j) (h2 : j < i + d) (h3 : p j = true) (h4 : ∀ l, i ≤ l → l < j → p l = false) : fnd p d i = some j := by
  rcases fnd_spec p d i with ⟨-, h⟩ | ⟨m, h, a1, a2, a3, a4⟩
  · rw [h j h1 h2] at h3
    cases h3
  · have : m = j := by
      rcases Nat.lt_trichotomy m j with c | c | c
      · rw [h4 m a1 c] at a3
        cases a3
      · exact c
      · rw [a4 j h1 c] at h3
        cases h3
    rw [h, this]
theorem fnd_no {p : Nat → Bool} {d i : Nat} (h : ∀ j, i ≤ j → j < i + d → p j = false) : fnd p d i = none := by
  rcases fnd_spec p d i with ⟨h1, -⟩ | ⟨m, -, a1, a2, a3, -⟩
  · exact h1
  · rw [h m a1 a2] at a3
    cases a3
/-- a loop that may stop ahead of its end -/
theorem lpS {α : Type} (L : Nat → Int32 → Option α) (k : Option α) (p : Nat → Bool) (g : Nat → Option α) (c : Nat)
    (hx : ∀ n, L (n + 1) (nI c) = k) (hs : ∀ n i, i < c → L (n + 1) (nI i) = if p i = true then g i else L n (nI (i + 1))) :
    ∀ d n i, i + d = c → d < n → L n (nI i) = fk (fnd p d i) k g := by
  intro d
  induction d with
  | zero =>
    intro n i h1 h2
    obtain ⟨m, rfl⟩ : ∃ m, n = m + 1 := ⟨n - 1, by omega⟩
    have h3 : i = c := by omega
    rw [h3, hx, fnd, fk_n]
  | succ d ih =>
    intro n i h1 h2
    obtain ⟨m, rfl⟩ : ∃ m, n = m + 1 := ⟨n - 1, by omega⟩
    rw [hs m i (by omega), fnd]
    by_cases h : p i = true
    · rw [if_pos h, if_pos h, fk_s]
    · rw [if_neg h, if_neg h, ih m (i + 1) (by omega) (by omega)]
/-- a loop with an invariant -/
theorem lpI {σ α : Type} (L : Nat → Int32 → σ → Option α) (k : σ → Option α) (I : Nat → σ → Prop) (c : Nat)
    (hx : ∀ n a, I c a → L (n + 1) (nI c) a = k a) (hs : ∀ n i a, i < c → I i a → ∃ a', I (i + 1) a' ∧ L (n + 1) (nI i) a = L n (nI (i + 1)) a') :
    ∀ d n i a, i + d = c → d < n → I i a → ∃ a', I c a' ∧ L n (nI i) a = k a' := by
  intro d
  induction d with
  | zero =>
    intro n i a h1 h2 h3
    obtain ⟨m, rfl⟩ : ∃ m, n = m + 1 := ⟨n - 1, by omega⟩
    have e : i = c := by omega
    subst e
    exact ⟨a, h3, hx m a h3⟩
  | succ d ih =>
    intro n i a h1 h2 h3
    obtain ⟨m, rfl⟩ : ∃ m, n = m + 1 := ⟨n - 1, by omega⟩
    obtain ⟨a', h4, h5⟩ := hs m i a (by omega) h3
    obtain ⟨a'', h6, h7⟩ := ih m (i + 1) a' (by omega) (by omega) h4
    exact ⟨a'', h6, by rw [h5, h7]⟩
/-- a loop that counts down, from i - 1 to 0 -/
theorem lpD {σ α : Type} (L : Nat → Int32 → σ → Option α) (k : σ → Option α) (I : Nat → σ → Prop)
    (hx : ∀ n a, I 0 a → L (n + 1) (-1) a = k a) (hs : ∀ n i a, I (i + 1) a → ∃ a', I i a' ∧ L (n + 1) (nI i) a = L n (nI i - 1) a') :
    ∀ i n a, i < n → I i a → ∃ a', I 0 a' ∧ L n (nI i - 1) a = k a' := by
  intro i
  induction i with
  | zero =>
    intro n a h2 h3
    obtain ⟨m, rfl⟩ : ∃ m, n = m + 1 := ⟨n - 1, by omega⟩
    exact ⟨a, h3, hx m a h3⟩
  | succ i ih =>
    intro n a h2 h3
    obtain ⟨m, rfl⟩ : ∃ m, n = m + 1 := ⟨n - 1, by omega⟩
    obtain ⟨a', h4, h5⟩ := hs m i a h3
    obtain ⟨a'', h6, h7⟩ := ih m a' (by omega) h4
    exact ⟨a'', h6, by rw [nI_pred, h5, h7]⟩
/-- sums -/
def sI (g : Nat → Int32) : Nat → Int32
  | 0 => 0
  | n + 1 => sI g n + g n
theorem sI_congr {g h : Nat → Int32} : ∀ n, (∀ p, p < n → g p = h p) → sI g n = sI h n := by
  intro n
  induction n with
  | zero => intro _; rfl
  | succ n ih =>
    intro e
    rw [sI, sI, ih (fun p hp => e p (by omega)), e n (by omega)]
/-- a loop that sums -/
theorem lpA {α : Type} (L : Nat → Int32 → Int32 → Option α) (k : Int32 → Option α) (g : Nat → Int32) (c : Nat)
    (hx : ∀ n a, L (n + 1) (nI c) a = k a) (hs : ∀ n i a, i < c → L (n + 1) (nI i) a = L n (nI (i + 1)) (a + g i)) {n : Nat} (hn : c < n) : L n (nI 0) 0 = k (sI g c) := by
  obtain ⟨a', h1, h2⟩ := lpI L k (fun i a => a = sI g i) c (fun n a _ => hx n a) (fun n i a hi ha => ⟨a + g i, by rw [ha]; rfl, hs n i a hi⟩) c n 0 0 (by omega) hn rfl
  rw [h2, h1]
theorem fk_so {α : Type} (o : Option Nat) (a : α) (g : Nat → α) : fk o (some a) (fun j => some (g j)) = some (fk o a g) := by cases o <;> rfl

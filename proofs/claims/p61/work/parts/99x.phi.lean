/-! WHAT IS KNOWN OF THE START FOR EVER -/
def Phi (z : Nat) (ks kv : Nat → Nat) (d1 d2 : Nat) (uk uv : Nat → Nat) (b L : Nat) (xs : Nat → Int32) (U : State) (H : Heap) : Prop :=
  (vk_S 11 lenS bytS ks kv (fun q => z ≤ q) U H ∧ va_Z "java/lang/String" "COMPACT_STRINGS" "Z" (.int 1) (fun q => z ≤ q) U H ∧ va_Zq "jdk/internal/util/Preconditions" "SIOOBE_FORMATTER" "Ljava/util/function/BiFunction;" (fun q => z ≤ q) U H ∧ ∀ r ∈ refS, vk_R r.1 r.2.1 r.2.2.1 (ks r.2.2.2) U) ∧
  (vx_Zq Bundle.tN "UNASSIGNED_STACK" Bundle.steD (fun q => z ≤ q) U H ∧ vx_Zq Bundle.tN "SUPPRESSED_SENTINEL" Bundle.listD (fun q => z ≤ q) U H) ∧
  (∀ r ∈ msgs, ∃ sa, vk_R RX6 r.1 r.2 sa U) ∧ va_AO RX4 U ∧
  (∀ A : Array Value, (Cond.selects RJ4 yJ5_ensureCapacityInternal_d00df yJ5_ensureCapacityInternal_d00df).before A U = true ∧ (Cond.selects RJ4 yJ5_newCapacity_0f7a4 yJ5_newCapacity_0f7a4).before A U = true) ∧
  ((va_Z "java/lang/Integer" "DigitOnes" "[B" (.ref d1) (fun q => z ≤ q) U H ∧ va_T .byte d1 100 (fun j => .int (nI (48 + j % 10))) (fun q => z ≤ q) U H) ∧ va_Z "java/lang/Integer" "DigitTens" "[B" (.ref d2) (fun q => z ≤ q) U H ∧ va_T .byte d2 100 (fun j => .int (nI (48 + j / 10))) (fun q => z ≤ q) U H) ∧
  (∀ E ∈ allE, ∀ T ∈ allE, E ≠ T → va_Nc E T U) ∧
  (vk_S 4 lenU bytU uk uv (fun q => z ≤ q) U H ∧ ∀ r ∈ refU, vk_R r.1 r.2.1 r.2.2.1 (uk r.2.2.2) U) ∧
  (∀ A : Array Value, (Cond.selects RJ4 yJ5_putStringAt_47b60 yJ5_putStringAt_47b60).before A U = true ∧ (Cond.selects RJ4 yJ5_inflateIfNeededFor_a7421 yJ5_inflateIfNeededFor_a7421).before A U = true) ∧
  va_Nw (.castable "[B" "java/lang/Cloneable") U ∧ va_X b L xs U H ∧ b < z ∧ b < H.size ∧ L ≤ 260
theorem Phi.warm {z : Nat} {ks kv : Nat → Nat} {d1 d2 : Nat} {uk uv : Nat → Nat} {b L : Nat} {xs : Nat → Int32} {s U : State} {H : Heap} (hW : s.WarmedH U.vm) (h : Phi z ks kv d1 d2 uk uv b L xs s H) : Phi z ks kv d1 d2 uk uv b L xs U H := by
  obtain ⟨⟨a1, a2, a3, a4⟩, ⟨b1, b2⟩, c1, e1, f1, ⟨⟨g1, g2⟩, g3, g4⟩, n1, ⟨u1, u2⟩, v1, v2, x1, x2, x3, x4⟩ := h
  have hv := hW.alike
  exact ⟨⟨a1.moved hv, a2.moved hv, a3.moved hv, fun r hr => (a4 r hr).warm hW⟩, ⟨b1.moved hv, b2.moved hv⟩, fun r hr => (c1 r hr).imp (fun _ h => h.warm hW), e1.moved hv, fun A => ⟨word_at hW (good_of_word rfl) (f1 #[]).1, word_at hW (good_of_word rfl) (f1 #[]).2⟩, ⟨⟨g1.moved hv, g2.moved hv⟩, g3.moved hv, g4.moved hv⟩, fun E hE T hT hn => (n1 E hE T hT hn).moved hv, ⟨u1.moved hv, fun r hr => (u2 r hr).warm hW⟩, fun A => ⟨word_at hW (good_of_word rfl) (v1 #[]).1, word_at hW (good_of_word rfl) (v1 #[]).2⟩, v2.warmC hW, x1.moved hv, x2, x3, x4⟩
theorem Phi.kept {z : Nat} {ks kv : Nat → Nat} {d1 d2 : Nat} {uk uv : Nat → Nat} {b L : Nat} {xs : Nat → Int32} {U : State} {H H1 : Heap} (hq : ∀ a : Nat, a < H.size → a < z → H1[a]? = H[a]?) (h : Phi z ks kv d1 d2 uk uv b L xs U H) : Phi z ks kv d1 d2 uk uv b L xs U H1 := by
  obtain ⟨⟨a1, a2, a3, a4⟩, ⟨b1, b2⟩, c1, e1, f1, ⟨⟨g1, g2⟩, g3, g4⟩, n1, ⟨u1, u2⟩, v1, v2, x1, x2, x3, x4⟩ := h
  have q : ∀ a : Nat, a < H.size → ¬ (fun q => z ≤ q) a → H1[a]? = H[a]? := fun a h1 h2 => hq a h1 (Nat.not_le.mp h2)
  refine ⟨⟨a1.kept q, a2.kept q, a3.kept q, a4⟩, ⟨b1.kept q, b2.kept q⟩, c1, e1, f1, ⟨⟨g1.kept q, g2.kept q⟩, g3.kept q, g4.kept q⟩, n1, ⟨u1.kept q, u2⟩, v1, v2, x1.kept (hq b x3 x2), x2, ?_, x4⟩
  obtain ⟨scr, s1, -⟩ := x1
  have s2 : H1[b]? = some scr := by rw [hq b x3 x2]; exact s1
  exact (Array.getElem?_eq_some_iff.mp s2).1
section PHIG
variable {D : va_G} {T : Nat → ClassId} {z : Nat} {ks kv : Nat → Nat} {d1 d2 : Nat} {uk uv : Nat → Nat} {b L : Nat} {xs : Nat → Int32}
abbrev GG (D : va_G) (T : Nat → ClassId) (z : Nat) (ks kv : Nat → Nat) (d1 d2 : Nat) (uk uv : Nat → Nat) (b L : Nat) (xs : Nat → Int32) : cG := (D, T, z, Phi z ks kv d1 d2 uk uv b L xs)
theorem GG.ok : GOK (GG D T z ks kv d1 d2 uk uv b L xs) := ⟨fun s U H hW h => Phi.warm hW h, fun U H H1 hq h => Phi.kept hq h⟩
theorem GG.sg : SG (GG D T z ks kv d1 d2 uk uv b L xs) ks kv := fun U H h => h.1
theorem GG.mg : MG (GG D T z ks kv d1 d2 uk uv b L xs) := ⟨fun U H h => h.2.1, fun U H h => h.2.2.1⟩
theorem GG.ag : AG (GG D T z ks kv d1 d2 uk uv b L xs) := fun U H h => h.2.2.2.1
theorem GG.pv : PV (GG D T z ks kv d1 d2 uk uv b L xs) := fun U H h => h.2.2.2.2.1
theorem GG.dg : DGs (GG D T z ks kv d1 d2 uk uv b L xs) d1 d2 := fun U H h => h.2.2.2.2.2.1
theorem GG.nc : NcG (GG D T z ks kv d1 d2 uk uv b L xs) := fun U H h => h.2.2.2.2.2.2.1
theorem GG.sg2 : SG2 (GG D T z ks kv d1 d2 uk uv b L xs) uk uv := fun U H h => h.2.2.2.2.2.2.2.1
theorem GG.pv2 : PV2 (GG D T z ks kv d1 d2 uk uv b L xs) := fun U H h => h.2.2.2.2.2.2.2.2.1
theorem GG.cb : CBC (GG D T z ks kv d1 d2 uk uv b L xs) := fun U H h => h.2.2.2.2.2.2.2.2.2.1
theorem GG.scr : XS (GG D T z ks kv d1 d2 uk uv b L xs) b L xs := fun U H h => ⟨h.2.2.2.2.2.2.2.2.2.2.1, h.2.2.2.2.2.2.2.2.2.2.2.1, h.2.2.2.2.2.2.2.2.2.2.2.2.2⟩
end PHIG

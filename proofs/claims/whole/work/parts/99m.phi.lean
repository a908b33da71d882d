/-! WHAT IS KNOWN OF THE START FOR EVER -/
def Phi (z : Nat) (ks kv : Nat → Nat) (d1 d2 : Nat) (U : State) (H : Heap) : Prop :=
  (vk_S 23 lenS bytS ks kv (fun q => z ≤ q) U H ∧ va_Z "java/lang/String" "COMPACT_STRINGS" "Z" (.int 1) (fun q => z ≤ q) U H ∧ va_Zq "jdk/internal/util/Preconditions" "SIOOBE_FORMATTER" "Ljava/util/function/BiFunction;" (fun q => z ≤ q) U H ∧ ∀ r ∈ refS, vk_R r.1 r.2.1 r.2.2.1 (ks r.2.2.2) U) ∧
  (vx_Zq Bundle.tN "UNASSIGNED_STACK" Bundle.steD (fun q => z ≤ q) U H ∧ vx_Zq Bundle.tN "SUPPRESSED_SENTINEL" Bundle.listD (fun q => z ≤ q) U H) ∧
  (∀ r ∈ msgs, ∃ sa, vk_R RX6 r.1 r.2 sa U) ∧ va_AO RX4 U ∧
  (∀ A : Array Value, (Cond.selects RJ4 yJ5_ensureCapacityInternal_d00df yJ5_ensureCapacityInternal_d00df).before A U = true ∧ (Cond.selects RJ4 yJ5_newCapacity_0f7a4 yJ5_newCapacity_0f7a4).before A U = true) ∧
  ((va_Z "java/lang/Integer" "DigitOnes" "[B" (.ref d1) (fun q => z ≤ q) U H ∧ va_T .byte d1 100 (fun j => .int (nI (48 + j % 10))) (fun q => z ≤ q) U H) ∧ va_Z "java/lang/Integer" "DigitTens" "[B" (.ref d2) (fun q => z ≤ q) U H ∧ va_T .byte d2 100 (fun j => .int (nI (48 + j / 10))) (fun q => z ≤ q) U H) ∧
  ∀ E ∈ allE, ∀ T ∈ allE, E ≠ T → va_Nc E T U
theorem Phi.warm {z : Nat} {ks kv : Nat → Nat} {d1 d2 : Nat} {s U : State} {H : Heap} (hW : s.WarmedH U.vm) (h : Phi z ks kv d1 d2 s H) : Phi z ks kv d1 d2 U H := by
  obtain ⟨⟨a1, a2, a3, a4⟩, ⟨b1, b2⟩, c1, e1, f1, ⟨⟨g1, g2⟩, g3, g4⟩, n1⟩ := h
  have hv := hW.alike
  exact ⟨⟨a1.moved hv, a2.moved hv, a3.moved hv, fun r hr => (a4 r hr).warm hW⟩, ⟨b1.moved hv, b2.moved hv⟩, fun r hr => (c1 r hr).imp (fun _ h => h.warm hW), e1.moved hv, fun A => ⟨word_at hW (good_of_word rfl) (f1 #[]).1, word_at hW (good_of_word rfl) (f1 #[]).2⟩, ⟨⟨g1.moved hv, g2.moved hv⟩, g3.moved hv, g4.moved hv⟩, fun E hE T hT hn => (n1 E hE T hT hn).moved hv⟩
theorem Phi.kept {z : Nat} {ks kv : Nat → Nat} {d1 d2 : Nat} {U : State} {H H1 : Heap} (hq : ∀ a : Nat, a < H.size → a < z → H1[a]? = H[a]?) (h : Phi z ks kv d1 d2 U H) : Phi z ks kv d1 d2 U H1 := by
  obtain ⟨⟨a1, a2, a3, a4⟩, ⟨b1, b2⟩, c1, e1, f1, ⟨⟨g1, g2⟩, g3, g4⟩, n1⟩ := h
  have q : ∀ a : Nat, a < H.size → ¬ (fun q => z ≤ q) a → H1[a]? = H[a]? := fun a h1 h2 => hq a h1 (Nat.not_le.mp h2)
  exact ⟨⟨a1.kept q, a2.kept q, a3.kept q, a4⟩, ⟨b1.kept q, b2.kept q⟩, c1, e1, f1, ⟨⟨g1.kept q, g2.kept q⟩, g3.kept q, g4.kept q⟩, n1⟩
section PHIG
variable {D : va_G} {T : Nat → ClassId} {z : Nat} {ks kv : Nat → Nat} {d1 d2 : Nat}
abbrev GG (D : va_G) (T : Nat → ClassId) (z : Nat) (ks kv : Nat → Nat) (d1 d2 : Nat) : cG := (D, T, z, Phi z ks kv d1 d2)
theorem GG.ok : GOK (GG D T z ks kv d1 d2) := ⟨fun s U H hW h => Phi.warm hW h, fun U H H1 hq h => Phi.kept hq h⟩
theorem GG.sg : SG (GG D T z ks kv d1 d2) ks kv := fun U H h => h.1
theorem GG.mg : MG (GG D T z ks kv d1 d2) := ⟨fun U H h => h.2.1, fun U H h => h.2.2.1⟩
theorem GG.ag : AG (GG D T z ks kv d1 d2) := fun U H h => h.2.2.2.1
theorem GG.pv : PV (GG D T z ks kv d1 d2) := fun U H h => h.2.2.2.2.1
theorem GG.dg : DGs (GG D T z ks kv d1 d2) d1 d2 := fun U H h => h.2.2.2.2.2.1
theorem GG.nc : NcG (GG D T z ks kv d1 d2) := fun U H h => h.2.2.2.2.2.2
end PHIG

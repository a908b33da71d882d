/-! THE START: what the Statement gives of it, in the words of Phi -/
section GIVEN
variable {s : State} {A9 : Array Value}
/-- a private method of the class above, called on an object of the class below -/
theorem sel_up {C : String} {y y2 : MethodName} {n : Nat} (hy : y.cls ≠ "java/lang/invoke/MethodHandle" ∧ y.cls ≠ "java/lang/invoke/VarHandle") (hcl : y2.cls = y.cls) (hins : (Cond.instantiable C n).before A9 s = true) (hpriv : (Cond.privateMethod y).before A9 s = true) (hinst : (Cond.instanceMethod y).before A9 s = true) (h2 : (Cond.selects C y2 y2).before A9 s = true) (A : Array Value) : (Cond.selects C y y).before A s = true := by
  obtain ⟨c, k, hc, -⟩ := Cond.instantiable_spec hins
  obtain ⟨mk, methM, hnamed, hmethM, -⟩ := Cond.instanceMethod_spec hinst
  have hfound := State.methodFound?_of_named hnamed hy
  have hsel : selectMethod {} s.vm c mk = .method mk := selectMethod_private hmethM (Cond.privateMethod_at hpriv mk methM hnamed hmethM)
  obtain ⟨c2, r2, m2, q1, q2, q3, q4, kk, hk, hi⟩ := Cond.selects_spec h2
  have e1 : s.vm.findClass y.cls = some mk.cls := findClass_of_methodNamed hnamed
  have e2 : s.vm.findClass y2.cls = some m2.cls := findClass_of_methodNamed q3
  rw [hcl, e1] at e2
  rw [← Option.some.inj e2] at hk
  simp only [Cond.before, Cond.holds, Cond.value, hc, hfound, hnamed, hsel, hk]
  simp; exact hi
/-- unlike contents, unlike strings -/
theorem str_ne {t u : Term} {a b : Nat} (ht : t.eval A9 s none [] s = some (.ref a)) (hu : u.eval A9 s none [] s = some (.ref b)) (hab : a ≠ b) : (Cond.not (.eq t u)).before A9 s = true := by
  simp [Cond.before, Cond.holds, Cond.value, ht, hu, hab]
theorem str_fe {t u : Term} {a : Nat} {c n d : String} (ht : t.eval A9 s none [] s = some (.ref a)) (hu : u.eval A9 s none [] s = some (.ref a)) : (Term.field t c n d).eval A9 s none [] s = (Term.field u c n d).eval A9 s none [] s := by
  rw [va_fe ht, va_fe hu]
theorem len_cong {t u : Term} (h : t.eval A9 s none [] s = u.eval A9 s none [] s) : (Term.length t).eval A9 s none [] s = (Term.length u).eval A9 s none [] s := by
  simp only [Term.eval, h]
theorem el_cong {t u : Term} {k : Term} (h : t.eval A9 s none [] s = u.eval A9 s none [] s) : (Term.elem t k).eval A9 s none [] s = (Term.elem u k).eval A9 s none [] s := by
  simp only [Term.eval, h]
end GIVEN
/-- the start's parts -/
def flats : List Cond := flatC (Jvm.Cond.and given_1 narrow_1)
def strS : List (String × Nat) := [("CustomsShed$CommandText", 36), ("CustomsShed$CommandText", 38), ("CustomsShed$CommandText", 40), ("CustomsShed$CommandText", 42), ("CustomsShed$CommandText", 44), ("CustomsShed$CommandText", 46), ("CustomsShed$CommandText", 48), ("CustomsShed$CommandText", 50), ("CustomsShed$CommandText", 52), ("CustomsShed$CommandText", 54), ("CustomsShed$CommandText", 56)]
def tmS (i : Nat) : Term := .string (strS.getD i ("", 0)).1 (strS.getD i ("", 0)).2
def valS (i : Nat) : Term := .field (tmS i) "java/lang/String" "value" "[B"
def strSL (i : Nat) : List Cond := [Cond.exactly (tmS i) "java/lang/String", Cond.eq (.field (tmS i) "java/lang/String" "coder" "B") (.int 0), Cond.arrayOf (valS i) .byte, Cond.eq (.length (valS i)) (.int (Int32.ofNat (lenS.getD i 0)))] ++ (List.range (lenS.getD i 0)).map (fun j => Cond.eq (.elem (valS i) (.int (Int32.ofNat j))) (.int ((bytS.getD i []).getD j 0)))
theorem bigS : ∀ w ∈ (List.range 11).flatMap strSL, w ∈ flats := by
  have h : ((List.range 11).flatMap strSL).isSublist flats = true := by decide +kernel
  exact fun w hw => (List.isSublist_iff_sublist.mp h).subset hw
theorem gS_str {i : Nat} (hi : i < 11) : ∀ w ∈ strSL i, w ∈ flats := fun w hw => bigS w (List.mem_flatMap.mpr ⟨i, List.mem_range.mpr hi, hw⟩)
theorem gS_ex : ∀ i, i < 11 → Cond.exactly (tmS i) "java/lang/String" ∈ flats := fun i hi => gS_str hi _ (List.mem_append_left _ (by simp))
theorem gS_co : ∀ i, i < 11 → Cond.eq (.field (tmS i) "java/lang/String" "coder" "B") (.int 0) ∈ flats := fun i hi => gS_str hi _ (List.mem_append_left _ (by simp))
theorem gS_ar : ∀ i, i < 11 → Cond.arrayOf (valS i) .byte ∈ flats := fun i hi => gS_str hi _ (List.mem_append_left _ (by simp))
theorem gS_le : ∀ i, i < 11 → Cond.eq (.length (valS i)) (.int (Int32.ofNat (lenS.getD i 0))) ∈ flats := fun i hi => gS_str hi _ (List.mem_append_left _ (by simp))
theorem gS_el : ∀ i, i < 11 → ∀ j, j < lenS.getD i 0 → Cond.eq (.elem (valS i) (.int (Int32.ofNat j))) (.int ((bytS.getD i []).getD j 0)) ∈ flats := fun i hi j hj => gS_str hi _ (List.mem_append_right _ (List.mem_map.mpr ⟨j, List.mem_range.mpr hj, rfl⟩))
theorem gS_ne : ∀ i, i < 11 → ∀ j, j < 11 → i ≠ j → (Int32.ofNat (lenS.getD i 0) ≠ Int32.ofNat (lenS.getD j 0) ∨ ∃ k, k < lenS.getD i 0 ∧ k < lenS.getD j 0 ∧ (bytS.getD i []).getD k 0 ≠ (bytS.getD j []).getD k 0) := by
  have h : ∀ i, i < 11 → ∀ j, j < 11 → i ≠ j → (Int32.ofNat (lenS.getD i 0) ≠ Int32.ofNat (lenS.getD j 0) ∨ ∃ k : Fin 12, k.1 < lenS.getD i 0 ∧ k.1 < lenS.getD j 0 ∧ (bytS.getD i []).getD k.1 0 ≠ (bytS.getD j []).getD k.1 0) := by decide +kernel
  intro i hi j hj hij
  rcases h i hi j hj hij with h1 | ⟨k, h1⟩
  · exact Or.inl h1
  · exact Or.inr ⟨k.1, h1⟩
def strU : List (String × Nat) := [("CustomsShedLaw", 262), ("CustomsShedLaw", 271), ("CustomsShedLaw", 277), ("CustomsShedLaw", 279)]
def tmU (i : Nat) : Term := .string (strU.getD i ("", 0)).1 (strU.getD i ("", 0)).2
def valU (i : Nat) : Term := .field (tmU i) "java/lang/String" "value" "[B"
def strUL (i : Nat) : List Cond := [Cond.exactly (tmU i) "java/lang/String", Cond.eq (.field (tmU i) "java/lang/String" "coder" "B") (.int 0), Cond.arrayOf (valU i) .byte, Cond.eq (.length (valU i)) (.int (Int32.ofNat (lenU.getD i 0)))] ++ (List.range (lenU.getD i 0)).map (fun j => Cond.eq (.elem (valU i) (.int (Int32.ofNat j))) (.int ((bytU.getD i []).getD j 0)))
theorem bigU : ∀ w ∈ (List.range 4).flatMap strUL, w ∈ flats := by
  have h : ((List.range 4).flatMap strUL).isSublist flats = true := by decide +kernel
  exact fun w hw => (List.isSublist_iff_sublist.mp h).subset hw
theorem gU_str {i : Nat} (hi : i < 4) : ∀ w ∈ strUL i, w ∈ flats := fun w hw => bigU w (List.mem_flatMap.mpr ⟨i, List.mem_range.mpr hi, hw⟩)
theorem gU_ex : ∀ i, i < 4 → Cond.exactly (tmU i) "java/lang/String" ∈ flats := fun i hi => gU_str hi _ (List.mem_append_left _ (by simp))
theorem gU_co : ∀ i, i < 4 → Cond.eq (.field (tmU i) "java/lang/String" "coder" "B") (.int 0) ∈ flats := fun i hi => gU_str hi _ (List.mem_append_left _ (by simp))
theorem gU_ar : ∀ i, i < 4 → Cond.arrayOf (valU i) .byte ∈ flats := fun i hi => gU_str hi _ (List.mem_append_left _ (by simp))
theorem gU_le : ∀ i, i < 4 → Cond.eq (.length (valU i)) (.int (Int32.ofNat (lenU.getD i 0))) ∈ flats := fun i hi => gU_str hi _ (List.mem_append_left _ (by simp))
theorem gU_el : ∀ i, i < 4 → ∀ j, j < lenU.getD i 0 → Cond.eq (.elem (valU i) (.int (Int32.ofNat j))) (.int ((bytU.getD i []).getD j 0)) ∈ flats := fun i hi j hj => gU_str hi _ (List.mem_append_right _ (List.mem_map.mpr ⟨j, List.mem_range.mpr hj, rfl⟩))
theorem gU_ne : ∀ i, i < 4 → ∀ j, j < 4 → i ≠ j → (Int32.ofNat (lenU.getD i 0) ≠ Int32.ofNat (lenU.getD j 0) ∨ ∃ k, k < lenU.getD i 0 ∧ k < lenU.getD j 0 ∧ (bytU.getD i []).getD k 0 ≠ (bytU.getD j []).getD k 0) := by
  have h : ∀ i, i < 4 → ∀ j, j < 4 → i ≠ j → (Int32.ofNat (lenU.getD i 0) ≠ Int32.ofNat (lenU.getD j 0) ∨ ∃ k : Fin 12, k.1 < lenU.getD i 0 ∧ k.1 < lenU.getD j 0 ∧ (bytU.getD i []).getD k.1 0 ≠ (bytU.getD j []).getD k.1 0) := by decide +kernel
  intro i hi j hj hij
  rcases h i hi j hj hij with h1 | ⟨k, h1⟩
  · exact Or.inl h1
  · exact Or.inr ⟨k.1, h1⟩
def digL (n : String) (f : Nat → Nat) : List Cond := [Cond.arrayOf (.static "java/lang/Integer" n "[B") .byte, Cond.eq (.length (.static "java/lang/Integer" n "[B")) (.int (Int32.ofNat 100))] ++ (List.range 100).map (fun j => Cond.eq (.elem (.static "java/lang/Integer" n "[B") (.int (Int32.ofNat j))) (.int (nI (f j))))
theorem g_dig {n : String} {f : Nat → Nat} (h : (digL n f).isSublist flats = true) : Cond.arrayOf (.static "java/lang/Integer" n "[B") .byte ∈ flats ∧ Cond.eq (.length (.static "java/lang/Integer" n "[B")) (.int (Int32.ofNat 100)) ∈ flats ∧ ∀ j, j < 100 → Cond.eq (.elem (.static "java/lang/Integer" n "[B") (.int (Int32.ofNat j))) (.int (nI (f j))) ∈ flats := by
  have hs := (List.isSublist_iff_sublist.mp h).subset
  exact ⟨hs (List.mem_append_left _ (by simp)), hs (List.mem_append_left _ (by simp)), fun j hj => hs (List.mem_append_right _ (List.mem_map.mpr ⟨j, List.mem_range.mpr hj, rfl⟩))⟩
theorem g_d1 : Cond.arrayOf (.static "java/lang/Integer" "DigitOnes" "[B") .byte ∈ flats ∧ Cond.eq (.length (.static "java/lang/Integer" "DigitOnes" "[B")) (.int (Int32.ofNat 100)) ∈ flats ∧ ∀ j, j < 100 → Cond.eq (.elem (.static "java/lang/Integer" "DigitOnes" "[B") (.int (Int32.ofNat j))) (.int (nI (48 + j % 10))) ∈ flats := g_dig (n := "DigitOnes") (f := fun j => 48 + j % 10) (by decide +kernel)
theorem g_d2 : Cond.arrayOf (.static "java/lang/Integer" "DigitTens" "[B") .byte ∈ flats ∧ Cond.eq (.length (.static "java/lang/Integer" "DigitTens" "[B")) (.int (Int32.ofNat 100)) ∈ flats ∧ ∀ j, j < 100 → Cond.eq (.elem (.static "java/lang/Integer" "DigitTens" "[B") (.int (Int32.ofNat j))) (.int (nI (48 + j / 10))) ∈ flats := g_dig (n := "DigitTens") (f := fun j => 48 + j / 10) (by decide +kernel)
theorem g_ref : ∀ r ∈ refS, Cond.stringRef r.1 r.2.1 r.2.2.1 ∈ lw_tbl ∧ r.2.2.2 < 11 ∧ (Term.string r.1 r.2.1 = tmS r.2.2.2) := by decide +kernel
theorem gU_ref : ∀ r ∈ refU, Cond.stringRef r.1 r.2.1 r.2.2.1 ∈ lw_tbl ∧ r.2.2.2 < 4 ∧ (Term.string r.1 r.2.1 = tmU r.2.2.2) := by decide +kernel
theorem lenU_lt : ∀ i, i < 4 → lenU.getD i 0 < 100 := by decide +kernel
theorem g_msg : ∀ r ∈ msgs, Cond.stringRef RX6 r.1 r.2 ∈ lw_tbl ∧ Cond.exactly (Term.string RX6 r.1) "java/lang/String" ∈ flats := by decide +kernel
theorem g_nc : ∀ E ∈ allE, ∀ T ∈ allE, E ≠ T → Cond.not (.castable E T) ∈ flats := by decide +kernel
theorem g_st : Cond.eq (.static "java/lang/String" "COMPACT_STRINGS" "Z") (.int 1) ∈ flats ∧ Cond.isRef (.static "jdk/internal/util/Preconditions" "SIOOBE_FORMATTER" "Ljava/util/function/BiFunction;") ∈ flats ∧ Cond.isRef (.static Bundle.tN "UNASSIGNED_STACK" Bundle.steD) ∈ flats ∧ Cond.isRef (.static Bundle.tN "SUPPRESSED_SENTINEL" Bundle.listD) ∈ flats := by decide +kernel
theorem g_w : (Cond.laysStatic "java/lang/String" "COMPACT_STRINGS" "Z" ∈ lw_tbl ∧ Cond.initialized "java/lang/String" ∈ lw_tbl) ∧ (Cond.laysStatic "jdk/internal/util/Preconditions" "SIOOBE_FORMATTER" "Ljava/util/function/BiFunction;" ∈ lw_tbl ∧ Cond.initialized "jdk/internal/util/Preconditions" ∈ lw_tbl) ∧ (Cond.laysStatic Bundle.tN "UNASSIGNED_STACK" Bundle.steD ∈ lw_tbl ∧ Cond.laysStatic Bundle.tN "SUPPRESSED_SENTINEL" Bundle.listD ∈ lw_tbl ∧ Cond.initialized Bundle.tN ∈ lw_tbl) ∧ (Cond.laysStatic "java/lang/Integer" "DigitOnes" "[B" ∈ lw_tbl ∧ Cond.laysStatic "java/lang/Integer" "DigitTens" "[B" ∈ lw_tbl ∧ Cond.initialized "java/lang/Integer" ∈ lw_tbl) ∧ Cond.arrayOver (.object RX4) ∈ lw_tbl ∧ (Cond.instantiable RJ4 4 ∈ lw_tbl ∧ Cond.selects RJ4 yJ5_isLatin1_aae02 yJ5_isLatin1_aae02 ∈ lw_tbl ∧ Cond.privateMethod yJ5_ensureCapacityInternal_d00df ∈ lw_tbl ∧ Cond.instanceMethod yJ5_ensureCapacityInternal_d00df ∈ lw_tbl ∧ Cond.privateMethod yJ5_newCapacity_0f7a4 ∈ lw_tbl ∧ Cond.instanceMethod yJ5_newCapacity_0f7a4 ∈ lw_tbl) := by decide +kernel
theorem g_w2 : Cond.privateMethod yJ5_putStringAt_47b60 ∈ lw_tbl ∧ Cond.instanceMethod yJ5_putStringAt_47b60 ∈ lw_tbl ∧ Cond.privateMethod yJ5_inflateIfNeededFor_a7421 ∈ lw_tbl ∧ Cond.instanceMethod yJ5_inflateIfNeededFor_a7421 ∈ lw_tbl ∧ Cond.castable "[B" "java/lang/Cloneable" ∈ lw_tbl := by decide +kernel

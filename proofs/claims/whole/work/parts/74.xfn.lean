/-! printed by wip/whole/tools/genx.py: the object of the class, its words, its methods as functions -/
def wXo (T : Nat → ClassId) (x : Nat → Nat) (r : Nat → Nat) (sv : Value) (S : Mem) : va_W := [(x 0, .inr (10, [.ref (r 0), .ref (r 1), .ref (r 2), .ref (r 3), .ref (r 4), .ref (r 5), .ref (r 6), sv, .int (S.1 0), .int (S.1 1)]))]
theorem xr {f : List Value} {k x y : Nat} (h : x = y) (hf : f[k]? = some (.ref x)) : f[k]? = some (.ref y) := h ▸ hf
theorem q127 : Cond.fieldLinkNest RX6 86 "CustomsShed$Lots" "count" "I" "CustomsShed" ∈ lw_tbl := List.mem_of_getElem? (i := 127) (by decide +kernel)
theorem q162 : Cond.fieldLinkNest RX6 169 "CustomsShed$Tariff" "count" "I" "CustomsShed" ∈ lw_tbl := List.mem_of_getElem? (i := 162) (by decide +kernel)
theorem q181 : Cond.fieldLinkNest RX6 230 "CustomsShed$AuditQueue" "length" "I" "CustomsShed" ∈ lw_tbl := List.mem_of_getElem? (i := 181) (by decide +kernel)
theorem q188 : Cond.fieldLinkNest RX6 82 "CustomsShed$Shed" "lots" "LCustomsShed$Lots;" "CustomsShed" ∈ lw_tbl := List.mem_of_getElem? (i := 188) (by decide +kernel)
theorem q190 : Cond.fieldLinkNest RX6 157 "CustomsShed$Shed" "tariff" "LCustomsShed$Tariff;" "CustomsShed" ∈ lw_tbl := List.mem_of_getElem? (i := 190) (by decide +kernel)
theorem q192 : Cond.fieldLinkNest RX6 226 "CustomsShed$Shed" "queue" "LCustomsShed$AuditQueue;" "CustomsShed" ∈ lw_tbl := List.mem_of_getElem? (i := 192) (by decide +kernel)
theorem q194 : Cond.fieldLinkNest RX6 242 "CustomsShed$Shed" "coins" "I" "CustomsShed" ∈ lw_tbl := List.mem_of_getElem? (i := 194) (by decide +kernel)
theorem q196 : Cond.fieldLinkNest RX6 245 "CustomsShed$Shed" "coinsTaken" "I" "CustomsShed" ∈ lw_tbl := List.mem_of_getElem? (i := 196) (by decide +kernel)
theorem q198 : Cond.fieldLinkNest RX6 199 "CustomsShed$Shed" "daysPassed" "I" "CustomsShed" ∈ lw_tbl := List.mem_of_getElem? (i := 198) (by decide +kernel)
theorem q200 : Cond.fieldLinkNest RX6 217 "CustomsShed$Shed" "destroyed" "I" "CustomsShed" ∈ lw_tbl := List.mem_of_getElem? (i := 200) (by decide +kernel)
theorem q301 : Cond.fieldLink RX6 10 "CustomsShed" "shed" "LCustomsShed$Shed;" ∈ lw_tbl := List.mem_of_getElem? (i := 301) (by decide +kernel)
theorem q304 : Cond.fieldLink RX6 29 "CustomsShed" "text" "LCustomsShed$CommandText;" ∈ lw_tbl := List.mem_of_getElem? (i := 304) (by decide +kernel)
theorem q306 : Cond.fieldLink RX6 40 "CustomsShed" "dutyRow" "[I" ∈ lw_tbl := List.mem_of_getElem? (i := 306) (by decide +kernel)
theorem q307 : Cond.fieldLink RX6 44 "CustomsShed" "bayRow" "[I" ∈ lw_tbl := List.mem_of_getElem? (i := 307) (by decide +kernel)
theorem q344 : Cond.methodLink RX6 189 yX4_dutyInOrderOfIds ∈ lw_tbl := List.mem_of_getElem? (i := 344) (by decide +kernel)
theorem q370 : Cond.methodLink RX6 193 yX4_dutyBayByBay ∈ lw_tbl := List.mem_of_getElem? (i := 370) (by decide +kernel)
theorem q386 : Cond.methodLink RX6 202 yX3_countDamp ∈ lw_tbl := List.mem_of_getElem? (i := 386) (by decide +kernel)
theorem q394 : Cond.methodLink RX6 210 yX3_reachByQueue ∈ lw_tbl := List.mem_of_getElem? (i := 394) (by decide +kernel)
theorem q416 : Cond.methodLink RX6 214 yX3_reachByStretches ∈ lw_tbl := List.mem_of_getElem? (i := 416) (by decide +kernel)
theorem q441 : Cond.methodLink RX6 248 yX4_countReleases ∈ lw_tbl := List.mem_of_getElem? (i := 441) (by decide +kernel)
theorem q827 : Cond.methodLink RX6 284 yX4_dutiesAgree ∈ lw_tbl := List.mem_of_getElem? (i := 827) (by decide +kernel)
theorem q1474 : Cond.methodLink RX6 351 yX1_rewind ∈ lw_tbl := List.mem_of_getElem? (i := 1474) (by decide +kernel)
theorem q1475 : Cond.methodLink RX6 354 yX1_readCommand ∈ lw_tbl := List.mem_of_getElem? (i := 1475) (by decide +kernel)
theorem q1476 : Cond.methodLink RX6 357 yX4_perform ∈ lw_tbl := List.mem_of_getElem? (i := 1476) (by decide +kernel)
theorem q1490 : Cond.methodLink RX6 361 yX1_skipSemicolon ∈ lw_tbl := List.mem_of_getElem? (i := 1490) (by decide +kernel)
theorem m_X4_dutyInOrderOfIds : YM yX4_dutyInOrderOfIds cX4_dutyInOrderOfIds 3 (some .int) 0 := ⟨⟨List.mem_of_getElem? (i := 347) (by decide +kernel), by decide +kernel⟩, List.mem_of_getElem? (i := 56) (by decide +kernel), ⟨by decide, by decide⟩, by decide +kernel⟩
theorem v_X4_dutyInOrderOfIds : YV yX4_dutyInOrderOfIds := ⟨List.mem_of_getElem? (i := 345) (by decide +kernel), List.mem_of_getElem? (i := 346) (by decide +kernel)⟩
theorem m_X4_dutyBayByBay : YM yX4_dutyBayByBay cX4_dutyBayByBay 4 (some .int) 0 := ⟨⟨List.mem_of_getElem? (i := 373) (by decide +kernel), by decide +kernel⟩, List.mem_of_getElem? (i := 56) (by decide +kernel), ⟨by decide, by decide⟩, by decide +kernel⟩
theorem v_X4_dutyBayByBay : YV yX4_dutyBayByBay := ⟨List.mem_of_getElem? (i := 371) (by decide +kernel), List.mem_of_getElem? (i := 372) (by decide +kernel)⟩
theorem m_X3_reachByStretches : YM yX3_reachByStretches cX3_reachByStretches 6 (some .int) 0 := ⟨⟨List.mem_of_getElem? (i := 419) (by decide +kernel), by decide +kernel⟩, List.mem_of_getElem? (i := 57) (by decide +kernel), ⟨by decide, by decide⟩, by decide +kernel⟩
theorem v_X3_reachByStretches : YV yX3_reachByStretches := ⟨List.mem_of_getElem? (i := 417) (by decide +kernel), List.mem_of_getElem? (i := 418) (by decide +kernel)⟩
theorem m_X3_reachByQueue : YM yX3_reachByQueue cX3_reachByQueue 7 (some .int) 1 := ⟨⟨List.mem_of_getElem? (i := 397) (by decide +kernel), by decide +kernel⟩, List.mem_of_getElem? (i := 57) (by decide +kernel), ⟨by decide, by decide⟩, by decide +kernel⟩
theorem v_X3_reachByQueue : YV yX3_reachByQueue := ⟨List.mem_of_getElem? (i := 395) (by decide +kernel), List.mem_of_getElem? (i := 396) (by decide +kernel)⟩
theorem m_X4_countReleases : YM yX4_countReleases cX4_countReleases 4 (some .int) 1 := ⟨⟨List.mem_of_getElem? (i := 444) (by decide +kernel), by decide +kernel⟩, List.mem_of_getElem? (i := 56) (by decide +kernel), ⟨by decide, by decide⟩, by decide +kernel⟩
theorem v_X4_countReleases : YV yX4_countReleases := ⟨List.mem_of_getElem? (i := 442) (by decide +kernel), List.mem_of_getElem? (i := 443) (by decide +kernel)⟩
theorem m_X4_dutiesAgree : YM yX4_dutiesAgree cX4_dutiesAgree 3 (some .boolean) 0 := ⟨⟨List.mem_of_getElem? (i := 830) (by decide +kernel), by decide +kernel⟩, List.mem_of_getElem? (i := 56) (by decide +kernel), ⟨by decide, by decide⟩, by decide +kernel⟩
theorem v_X4_dutiesAgree : YV yX4_dutiesAgree := ⟨List.mem_of_getElem? (i := 828) (by decide +kernel), List.mem_of_getElem? (i := 829) (by decide +kernel)⟩
theorem m_X4_perform : YM yX4_perform cX4_perform 5 (some .int) 1 := ⟨⟨List.mem_of_getElem? (i := 1479) (by decide +kernel), by decide +kernel⟩, List.mem_of_getElem? (i := 56) (by decide +kernel), ⟨by decide, by decide⟩, by decide +kernel⟩
theorem v_X4_perform : YV yX4_perform := ⟨List.mem_of_getElem? (i := 1477) (by decide +kernel), List.mem_of_getElem? (i := 1478) (by decide +kernel)⟩
def f_X6_lotCount (K : Mem) (S : Mem) : Option (Int32) :=
  some (S.1 0)
def f_X6_stepCount (K : Mem) (S : Mem) : Option (Int32) :=
  some (S.1 2)
def f_X6_totalDuty (K : Mem) (S : Mem) : Option (Int32) :=
  (f_X4_dutyInOrderOfIds S).bind fun r1 =>
  some r1
def f_X6_totalDutyByBays (K : Mem) (S : Mem) : Option (Int32) :=
  (f_X4_dutyBayByBay S).bind fun r1 =>
  some r1
def f_X6_day (K : Mem) (S : Mem) : Option (Int32) :=
  some (S.1 5)
def f_X6_dampCount (K : Mem) (S : Mem) : Option (Int32) :=
  (f_X3_countDamp S).bind fun r1 =>
  some r1
def f_X6_destroyedCount (K : Mem) (S : Mem) : Option (Int32) :=
  some (S.1 6)
def f_X6_queueLength (K : Mem) (S : Mem) : Option (Int32) :=
  some (S.1 7)
def f_X6_bond (K : Mem) (S : Mem) : Option (Int32) :=
  some (S.1 3)
def f_X6_collected (K : Mem) (S : Mem) : Option (Int32) :=
  some (S.1 4)
def f_X6_dampReachByStretches (K : Mem) (S : Mem) : Option (Int32) :=
  (f_X3_reachByStretches S).bind fun r1 =>
  some r1
def f_X6_dampReach (K : Mem) (S : Mem) (B : Mem) : Option (Int32 × Mem) :=
  (f_X3_reachByQueue S B).bind fun (r1, B_2) =>
  some (r1, B_2)
def f_X6_mostReleases (K : Mem) (S : Mem) (B : Mem) : Option (Int32 × Mem) :=
  (f_X4_countReleases S B).bind fun (r1, B_2) =>
  some (r1, B_2)
def f_X6_isConsistent (K : Mem) (S : Mem) (B : Mem) : Option (Int32 × Mem) :=
  (f_X4_dutiesAgree S).bind fun r1 =>
  if r1 = 0 then
    some (0, B)
  else
    (f_X4_dutyInOrderOfIds S).bind fun r4 =>
    (f_X4_dutyBayByBay S).bind fun r6 =>
    if r4 = r6 then
      (f_X3_reachByQueue S B).bind fun (r9, B_10) =>
      (f_X3_reachByStretches S).bind fun r12 =>
      if r9 = r12 then
        some (1, B_10)
      else
        some (0, B_10)
    else
      some (0, B)
def f_X6_performFirst_L9 (x1 : Int32) (K : Mem) (k : Mem → Mem → Option (Int32 × Mem × Mem)) : Nat → Int32 → Mem → Mem → Option (Int32 × Mem × Mem)
  | 0, _, _, _ => none
  | n + 1, x2, S, C =>
    if x1 ≤ x2 then
      k S C
    else
      (f_X1_readCommand C).bind fun (r4, C_5) =>
      if r4 = 0 then
        some (x2, S, C_5)
      else
        (f_X4_perform S C_5).bind fun (r8, S_9) =>
        if 0 ≤ r8 then
          (f_X1_skipSemicolon C_5).bind fun C_12 =>
          f_X6_performFirst_L9 x1 K k n (x2 + 1) S_9 C_12
        else
          some (x2, S_9, C_5)
def f_X6_performFirst (K : Mem) (S : Mem) (C : Mem) (x1 : Int32) : Option (Int32 × Mem × Mem) :=
  (f_X1_rewind C).bind fun C_1 =>
  f_X6_performFirst_L9 x1 K
  (fun S_14 C_14 =>
    some (x1, S_14, C_14)) 70 0 S C_1

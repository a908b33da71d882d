/-! printed by wip/p61/tools/genx.py: the object of the class, its words, its methods as functions -/
def wXo (T : Nat → ClassId) (x : Nat → Nat) (r : Nat → Nat) (sv : Value) (S : Mem) : va_W := [(x 0, .inr (10, [.ref (r 0), .ref (r 1), .ref (r 2), .ref (r 3), .ref (r 4), .ref (r 5), .ref (r 6), sv, .int (S.1 0), .int (S.1 1)]))]
theorem xr {f : List Value} {k x y : Nat} (h : x = y) (hf : f[k]? = some (.ref x)) : f[k]? = some (.ref y) := h ▸ hf
theorem q86 : Cond.fieldLinkNest RX6 86 "CustomsShed$Lots" "count" "I" "CustomsShed" ∈ lw_tbl := List.mem_of_getElem? (i := 86) (by decide +kernel)
theorem q121 : Cond.fieldLinkNest RX6 169 "CustomsShed$Tariff" "count" "I" "CustomsShed" ∈ lw_tbl := List.mem_of_getElem? (i := 121) (by decide +kernel)
theorem q140 : Cond.fieldLinkNest RX6 230 "CustomsShed$AuditQueue" "length" "I" "CustomsShed" ∈ lw_tbl := List.mem_of_getElem? (i := 140) (by decide +kernel)
theorem q147 : Cond.fieldLinkNest RX6 82 "CustomsShed$Shed" "lots" "LCustomsShed$Lots;" "CustomsShed" ∈ lw_tbl := List.mem_of_getElem? (i := 147) (by decide +kernel)
theorem q149 : Cond.fieldLinkNest RX6 157 "CustomsShed$Shed" "tariff" "LCustomsShed$Tariff;" "CustomsShed" ∈ lw_tbl := List.mem_of_getElem? (i := 149) (by decide +kernel)
theorem q151 : Cond.fieldLinkNest RX6 226 "CustomsShed$Shed" "queue" "LCustomsShed$AuditQueue;" "CustomsShed" ∈ lw_tbl := List.mem_of_getElem? (i := 151) (by decide +kernel)
theorem q153 : Cond.fieldLinkNest RX6 242 "CustomsShed$Shed" "coins" "I" "CustomsShed" ∈ lw_tbl := List.mem_of_getElem? (i := 153) (by decide +kernel)
theorem q155 : Cond.fieldLinkNest RX6 245 "CustomsShed$Shed" "coinsTaken" "I" "CustomsShed" ∈ lw_tbl := List.mem_of_getElem? (i := 155) (by decide +kernel)
theorem q157 : Cond.fieldLinkNest RX6 199 "CustomsShed$Shed" "daysPassed" "I" "CustomsShed" ∈ lw_tbl := List.mem_of_getElem? (i := 157) (by decide +kernel)
theorem q159 : Cond.fieldLinkNest RX6 217 "CustomsShed$Shed" "destroyed" "I" "CustomsShed" ∈ lw_tbl := List.mem_of_getElem? (i := 159) (by decide +kernel)
theorem q260 : Cond.fieldLink RX6 10 "CustomsShed" "shed" "LCustomsShed$Shed;" ∈ lw_tbl := List.mem_of_getElem? (i := 260) (by decide +kernel)
theorem q263 : Cond.fieldLink RX6 29 "CustomsShed" "text" "LCustomsShed$CommandText;" ∈ lw_tbl := List.mem_of_getElem? (i := 263) (by decide +kernel)
theorem q265 : Cond.fieldLink RX6 40 "CustomsShed" "dutyRow" "[I" ∈ lw_tbl := List.mem_of_getElem? (i := 265) (by decide +kernel)
theorem q266 : Cond.fieldLink RX6 44 "CustomsShed" "bayRow" "[I" ∈ lw_tbl := List.mem_of_getElem? (i := 266) (by decide +kernel)
theorem q299 : Cond.methodLink RX6 202 yX3_countDamp ∈ lw_tbl := List.mem_of_getElem? (i := 299) (by decide +kernel)
theorem q323 : Cond.methodLink RX6 248 yX4_countReleases ∈ lw_tbl := List.mem_of_getElem? (i := 323) (by decide +kernel)
theorem q1111 : Cond.methodLink RX6 351 yX1_rewind ∈ lw_tbl := List.mem_of_getElem? (i := 1111) (by decide +kernel)
theorem q1112 : Cond.methodLink RX6 354 yX1_readCommand ∈ lw_tbl := List.mem_of_getElem? (i := 1112) (by decide +kernel)
theorem q1113 : Cond.methodLink RX6 357 yX4_perform ∈ lw_tbl := List.mem_of_getElem? (i := 1113) (by decide +kernel)
theorem q1141 : Cond.methodLink RX6 361 yX1_skipSemicolon ∈ lw_tbl := List.mem_of_getElem? (i := 1141) (by decide +kernel)
theorem q1293 : Cond.methodLink RX6 210 yX3_reachByQueue ∈ lw_tbl := List.mem_of_getElem? (i := 1293) (by decide +kernel)
theorem q1306 : Cond.methodLink RX6 214 yX3_reachByStretches ∈ lw_tbl := List.mem_of_getElem? (i := 1306) (by decide +kernel)
theorem q1328 : Cond.methodLink RX6 189 yX4_dutyInOrderOfIds ∈ lw_tbl := List.mem_of_getElem? (i := 1328) (by decide +kernel)
theorem q1465 : Cond.methodLink RX6 193 yX4_dutyBayByBay ∈ lw_tbl := List.mem_of_getElem? (i := 1465) (by decide +kernel)
theorem q1473 : Cond.methodLink RX6 284 yX4_dutiesAgree ∈ lw_tbl := List.mem_of_getElem? (i := 1473) (by decide +kernel)
theorem m_X4_dutyInOrderOfIds : YM yX4_dutyInOrderOfIds cX4_dutyInOrderOfIds 3 (some .int) 0 := ⟨⟨List.mem_of_getElem? (i := 1331) (by decide +kernel), by decide +kernel⟩, List.mem_of_getElem? (i := 16) (by decide +kernel), ⟨by decide, by decide⟩, by decide +kernel⟩
theorem v_X4_dutyInOrderOfIds : YV yX4_dutyInOrderOfIds := ⟨List.mem_of_getElem? (i := 1329) (by decide +kernel), List.mem_of_getElem? (i := 1330) (by decide +kernel)⟩
theorem m_X4_dutyBayByBay : YM yX4_dutyBayByBay cX4_dutyBayByBay 4 (some .int) 0 := ⟨⟨List.mem_of_getElem? (i := 1468) (by decide +kernel), by decide +kernel⟩, List.mem_of_getElem? (i := 16) (by decide +kernel), ⟨by decide, by decide⟩, by decide +kernel⟩
theorem v_X4_dutyBayByBay : YV yX4_dutyBayByBay := ⟨List.mem_of_getElem? (i := 1466) (by decide +kernel), List.mem_of_getElem? (i := 1467) (by decide +kernel)⟩
theorem m_X3_reachByStretches : YM yX3_reachByStretches cX3_reachByStretches 6 (some .int) 0 := ⟨⟨List.mem_of_getElem? (i := 1309) (by decide +kernel), by decide +kernel⟩, List.mem_of_getElem? (i := 17) (by decide +kernel), ⟨by decide, by decide⟩, by decide +kernel⟩
theorem v_X3_reachByStretches : YV yX3_reachByStretches := ⟨List.mem_of_getElem? (i := 1307) (by decide +kernel), List.mem_of_getElem? (i := 1308) (by decide +kernel)⟩
theorem m_X3_reachByQueue : YM yX3_reachByQueue cX3_reachByQueue 7 (some .int) 1 := ⟨⟨List.mem_of_getElem? (i := 1296) (by decide +kernel), by decide +kernel⟩, List.mem_of_getElem? (i := 17) (by decide +kernel), ⟨by decide, by decide⟩, by decide +kernel⟩
theorem v_X3_reachByQueue : YV yX3_reachByQueue := ⟨List.mem_of_getElem? (i := 1294) (by decide +kernel), List.mem_of_getElem? (i := 1295) (by decide +kernel)⟩
theorem m_X4_countReleases : YM yX4_countReleases cX4_countReleases 4 (some .int) 1 := ⟨⟨List.mem_of_getElem? (i := 326) (by decide +kernel), by decide +kernel⟩, List.mem_of_getElem? (i := 16) (by decide +kernel), ⟨by decide, by decide⟩, by decide +kernel⟩
theorem v_X4_countReleases : YV yX4_countReleases := ⟨List.mem_of_getElem? (i := 324) (by decide +kernel), List.mem_of_getElem? (i := 325) (by decide +kernel)⟩
theorem m_X4_dutiesAgree : YM yX4_dutiesAgree cX4_dutiesAgree 3 (some .boolean) 0 := ⟨⟨List.mem_of_getElem? (i := 1476) (by decide +kernel), by decide +kernel⟩, List.mem_of_getElem? (i := 16) (by decide +kernel), ⟨by decide, by decide⟩, by decide +kernel⟩
theorem v_X4_dutiesAgree : YV yX4_dutiesAgree := ⟨List.mem_of_getElem? (i := 1474) (by decide +kernel), List.mem_of_getElem? (i := 1475) (by decide +kernel)⟩
theorem m_X4_perform : YM yX4_perform cX4_perform 5 (some .int) 1 := ⟨⟨List.mem_of_getElem? (i := 1116) (by decide +kernel), by decide +kernel⟩, List.mem_of_getElem? (i := 16) (by decide +kernel), ⟨by decide, by decide⟩, by decide +kernel⟩
theorem v_X4_perform : YV yX4_perform := ⟨List.mem_of_getElem? (i := 1114) (by decide +kernel), List.mem_of_getElem? (i := 1115) (by decide +kernel)⟩
def f_X6_lotCount (K : Mem) (S : Mem) : Option (Int32) :=
  some (S.1 0)
def f_X6_stepCount (K : Mem) (S : Mem) : Option (Int32) :=
  some (S.1 2)
def f_X6_totalDuty (K : Mem) (S : Mem) : Option (Int32) :=
  (f_X4_dutyInOrderOfIds S).bind fun r1 =>
  some r1
def f_X6_totalDutyByBays (K : Mem) (S : Mem) : Option (Int32) :=
  (f_X4_dutyBayByBay S).bind fun r1 =>
  some r1
def f_X6_day (K : Mem) (S : Mem) : Option (Int32) :=
  some (S.1 5)
def f_X6_dampCount (K : Mem) (S : Mem) : Option (Int32) :=
  (f_X3_countDamp S).bind fun r1 =>
  some r1
def f_X6_destroyedCount (K : Mem) (S : Mem) : Option (Int32) :=
  some (S.1 6)
def f_X6_queueLength (K : Mem) (S : Mem) : Option (Int32) :=
  some (S.1 7)
def f_X6_bond (K : Mem) (S : Mem) : Option (Int32) :=
  some (S.1 3)
def f_X6_collected (K : Mem) (S : Mem) : Option (Int32) :=
  some (S.1 4)
def f_X6_dampReachByStretches (K : Mem) (S : Mem) : Option (Int32) :=
  (f_X3_reachByStretches S).bind fun r1 =>
  some r1
def f_X6_dampReach (K : Mem) (S : Mem) (B : Mem) : Option (Int32 × Mem) :=
  (f_X3_reachByQueue S B).bind fun (r1, B_2) =>
  some (r1, B_2)
def f_X6_mostReleases (K : Mem) (S : Mem) (B : Mem) : Option (Int32 × Mem) :=
  (f_X4_countReleases S B).bind fun (r1, B_2) =>
  some (r1, B_2)
def f_X6_isConsistent (K : Mem) (S : Mem) (B : Mem) : Option (Int32 × Mem) :=
  (f_X4_dutiesAgree S).bind fun r1 =>
  if r1 = 0 then
    some (0, B)
  else
    (f_X4_dutyInOrderOfIds S).bind fun r4 =>
    (f_X4_dutyBayByBay S).bind fun r6 =>
    if r4 = r6 then
      (f_X3_reachByQueue S B).bind fun (r9, B_10) =>
      (f_X3_reachByStretches S).bind fun r12 =>
      if r9 = r12 then
        some (1, B_10)
      else
        some (0, B_10)
    else
      some (0, B)
def f_X6_performFirst_L9 (x1 : Int32) (K : Mem) (k : Mem → Mem → Option (Int32 × Mem × Mem)) : Nat → Int32 → Mem → Mem → Option (Int32 × Mem × Mem)
  | 0, _, _, _ => none
  | n + 1, x2, S, C =>
    if x1 ≤ x2 then
      k S C
    else
      (f_X1_readCommand C).bind fun (r4, C_5) =>
      if r4 = 0 then
        some (x2, S, C_5)
      else
        (f_X4_perform S C_5).bind fun (r8, S_9) =>
        if 0 ≤ r8 then
          (f_X1_skipSemicolon C_5).bind fun C_12 =>
          f_X6_performFirst_L9 x1 K k n (x2 + 1) S_9 C_12
        else
          some (x2, S_9, C_5)
def f_X6_performFirst (K : Mem) (S : Mem) (C : Mem) (x1 : Int32) : Option (Int32 × Mem × Mem) :=
  (f_X1_rewind C).bind fun C_1 =>
  f_X6_performFirst_L9 x1 K
  (fun S_14 C_14 =>
    some (x1, S_14, C_14)) 70 0 S C_1

/-! printed by wip/p61/tools/gen83.py: the throws of the class: their words by places, their rows over the world -/
def eNSE : String := "java/util/NoSuchElementException"
def eIOB : String := "java/lang/IndexOutOfBoundsException"
def eIAE : String := "java/lang/IllegalArgumentException"
def eISE : String := "java/lang/IllegalStateException"
def eUOE : String := "java/lang/UnsupportedOperationException"
def eARE : String := "java/lang/ArithmeticException"
def nseC : ByteArray := ⟨#[0x2a, 0x2b, 0xb7, 0x00, 0x0d, 0xb1]⟩
/-- the words of a throw are in the tables -/
def Thw (own : String) (ik : Nat) (cls : String) (L : List Cond) : Prop := Bundle.fit cls = true ∧ Cond.classLink own ik cls ∈ lw_tbl ∧ Cond.initialized cls ∈ lw_tbl ∧ (∃ ps : List Nat, L = ps.filterMap (fun i => lw_tbl[i]?)) ∧ L.all kw = true ∧ (Cond.classLink own ik cls :: Cond.initialized cls :: L).all vx_ot = true
theorem h0_NSE : Thw RX6 127 eNSE (vx_at0 RX6 339 eNSE exN) := ⟨by decide +kernel, List.mem_of_getElem? (i := 487) (by decide +kernel), List.mem_of_getElem? (i := 31) (by decide +kernel), ⟨[26, 435, 385, 395, 398, 400, 436, 437, 51, 52, 379, 384, 396, 403, 429, 404, 430, 405, 431, 380, 382, 432, 646, 647, 648, 463, 422, 463, 464, 465, 466, 424, 466, 467, 468, 436, 426, 645, 488, 489, 490, 394, 491, 492, 493, 494, 401, 433, 495], by decide +kernel⟩, by decide +kernel, by decide +kernel⟩
theorem h0_IOB : Thw RX6 152 eIOB (vx_at0 RX6 340 eIOB exN) := ⟨by decide +kernel, List.mem_of_getElem? (i := 450) (by decide +kernel), List.mem_of_getElem? (i := 29) (by decide +kernel), ⟨[26, 435, 385, 395, 398, 400, 436, 437, 51, 52, 379, 384, 396, 403, 429, 404, 430, 405, 431, 380, 382, 432, 460, 461, 462, 463, 422, 463, 464, 465, 466, 424, 466, 467, 468, 436, 426, 459, 451, 452, 453, 391, 454, 455, 456, 457, 401, 433, 458], by decide +kernel⟩, by decide +kernel, by decide +kernel⟩
theorem h0_IAE : Thw RX6 140 eIAE (vx_at0 RX6 341 eIAE exN) := ⟨by decide +kernel, List.mem_of_getElem? (i := 526) (by decide +kernel), List.mem_of_getElem? (i := 41) (by decide +kernel), ⟨[26, 435, 385, 395, 398, 400, 436, 437, 51, 52, 379, 384, 396, 403, 429, 404, 430, 405, 431, 380, 382, 432, 650, 651, 652, 463, 422, 463, 464, 465, 466, 424, 466, 467, 468, 436, 426, 649, 527, 528, 529, 389, 530, 531, 532, 533, 401, 433, 534], by decide +kernel⟩, by decide +kernel, by decide +kernel⟩
theorem h0_ISE : Thw RX6 290 eISE (vx_at0 RX6 342 eISE exN) := ⟨by decide +kernel, List.mem_of_getElem? (i := 653) (by decide +kernel), List.mem_of_getElem? (i := 42) (by decide +kernel), ⟨[26, 435, 385, 395, 398, 400, 436, 437, 51, 52, 379, 384, 396, 403, 429, 404, 430, 405, 431, 380, 382, 432, 663, 664, 665, 463, 422, 463, 464, 465, 466, 424, 466, 467, 468, 436, 426, 662, 654, 655, 656, 390, 657, 658, 659, 660, 401, 433, 661], by decide +kernel⟩, by decide +kernel, by decide +kernel⟩
theorem h0_UOE : Thw RX6 313 eUOE (vx_at0 RX6 343 eUOE exN) := ⟨by decide +kernel, List.mem_of_getElem? (i := 668) (by decide +kernel), List.mem_of_getElem? (i := 43) (by decide +kernel), ⟨[26, 435, 385, 395, 398, 400, 436, 437, 51, 52, 379, 384, 396, 403, 429, 404, 430, 405, 431, 380, 382, 432, 678, 679, 680, 463, 422, 463, 464, 465, 466, 424, 466, 467, 468, 436, 426, 677, 669, 670, 671, 393, 672, 673, 674, 675, 401, 433, 676], by decide +kernel⟩, by decide +kernel, by decide +kernel⟩
theorem hS_NSE : Thw RX6 127 eNSE ((nx_at RX6 131 eNSE 13 nseC "java/lang/RuntimeException" ["java/lang/Exception"]).filter vx_no) := ⟨by decide +kernel, List.mem_of_getElem? (i := 487) (by decide +kernel), List.mem_of_getElem? (i := 31) (by decide +kernel), ⟨[26, 435, 385, 395, 398, 400, 436, 437, 51, 52, 379, 384, 396, 403, 429, 404, 430, 405, 431, 380, 382, 432, 377, 378, 402, 432, 498, 499, 500, 371, 423, 371, 372, 373, 374, 425, 374, 375, 376, 377, 427, 497, 488, 489, 490, 394, 491, 492, 493, 494, 401, 433, 495], by decide +kernel⟩, by decide +kernel, by decide +kernel⟩
theorem hS_IOB : Thw RX6 152 eIOB (vx_atS RX6 156 eIOB exN) := ⟨by decide +kernel, List.mem_of_getElem? (i := 450) (by decide +kernel), List.mem_of_getElem? (i := 29) (by decide +kernel), ⟨[26, 435, 385, 395, 398, 400, 436, 437, 51, 52, 379, 384, 396, 403, 429, 404, 430, 405, 431, 380, 382, 432, 377, 378, 402, 432, 368, 369, 370, 371, 423, 371, 372, 373, 374, 425, 374, 375, 376, 377, 427, 1409, 451, 452, 453, 391, 454, 455, 456, 457, 401, 433, 458], by decide +kernel⟩, by decide +kernel, by decide +kernel⟩
theorem hS_IAE : Thw RX6 140 eIAE (vx_atS RX6 144 eIAE exN) := ⟨by decide +kernel, List.mem_of_getElem? (i := 526) (by decide +kernel), List.mem_of_getElem? (i := 41) (by decide +kernel), ⟨[26, 435, 385, 395, 398, 400, 436, 437, 51, 52, 379, 384, 396, 403, 429, 404, 430, 405, 431, 380, 382, 432, 377, 378, 402, 432, 537, 538, 539, 371, 423, 371, 372, 373, 374, 425, 374, 375, 376, 377, 427, 536, 527, 528, 529, 389, 530, 531, 532, 533, 401, 433, 534], by decide +kernel⟩, by decide +kernel, by decide +kernel⟩
theorem hS_ISE : Thw RX6 290 eISE (vx_atS RX6 294 eISE exN) := ⟨by decide +kernel, List.mem_of_getElem? (i := 653) (by decide +kernel), List.mem_of_getElem? (i := 42) (by decide +kernel), ⟨[26, 435, 385, 395, 398, 400, 436, 437, 51, 52, 379, 384, 396, 403, 429, 404, 430, 405, 431, 380, 382, 432, 377, 378, 402, 432, 1043, 1044, 1045, 371, 423, 371, 372, 373, 374, 425, 374, 375, 376, 377, 427, 1042, 654, 655, 656, 390, 657, 658, 659, 660, 401, 433, 661], by decide +kernel⟩, by decide +kernel, by decide +kernel⟩
theorem hS_UOE : Thw RX6 313 eUOE (vx_atS RX6 317 eUOE exN) := ⟨by decide +kernel, List.mem_of_getElem? (i := 668) (by decide +kernel), List.mem_of_getElem? (i := 43) (by decide +kernel), ⟨[26, 435, 385, 395, 398, 400, 436, 437, 51, 52, 379, 384, 396, 403, 429, 404, 430, 405, 431, 380, 382, 432, 377, 378, 402, 432, 1148, 1149, 1150, 371, 423, 371, 372, 373, 374, 425, 374, 375, 376, 377, 427, 1147, 669, 670, 671, 393, 672, 673, 674, 675, 401, 433, 676], by decide +kernel⟩, by decide +kernel, by decide +kernel⟩
theorem hS_ARE : Thw RX6 251 eARE (vx_atS RX6 255 eARE exN) := ⟨by decide +kernel, List.mem_of_getElem? (i := 1444) (by decide +kernel), List.mem_of_getElem? (i := 44) (by decide +kernel), ⟨[26, 435, 385, 395, 398, 400, 436, 437, 51, 52, 379, 384, 396, 403, 429, 404, 430, 405, 431, 380, 382, 432, 377, 378, 402, 432, 1428, 1429, 1430, 371, 423, 371, 372, 373, 374, 425, 374, 375, 376, 377, 427, 1446, 1427, 1438, 1439, 387, 1433, 1434, 1436, 1432, 401, 433, 1431], by decide +kernel⟩, by decide +kernel, by decide +kernel⟩
def msgs : List (Nat × String) := [(349, "no such lot"), (129, "the bay is empty"), (134, "no empty bay from there on"), (142, "a kind is from a to e"), (154, "no such rank"), (344, "a value is from 0 to 9999"), (205, "days are from 0 to 30"), (253, "no lots"), (292, "the input buffer is full"), (305, "the text is malformed"), (315, "a command failed"), (326, "no change can be undone"), (331, "nothing was saved")]
/-- the messages are known to the start -/
def MG (G : cG) : Prop := EG G ∧ ∀ (U : State) (H : Heap), G.2.2.2 U H → ∀ r ∈ msgs, ∃ sa, vk_R RX6 r.1 r.2 sa U
section THROWS
variable {G : cG} {p : Program} {l : Launch} {e : Env} {R : Room} {s : State} {m : MethodId} {args : Array Value} {below : List Frame} {meth : Method} {c : Code} {H : Heap} {locs : List Loc} {cells slots : Nat} {Q : State → Prop} {cc : ByteArray} {nL : Nat} {A : Nat → Prop} {ws : va_W} {pc : Nat} {ls : Array Slot} {rest : List Value} {mc ms : Nat}
variable {Qc : Array Value → State → Outcome → State → Prop} {X : String → va_W → Prop}
theorem Fx.ex {own : String} (F : Fx G p s m c cc nL own A) (g : MG G) : vx_Zq Bundle.tN "UNASSIGNED_STACK" Bundle.steD A s s.heap ∧ vx_Zq Bundle.tN "SUPPRESSED_SENTINEL" Bundle.listD A s s.heap :=
  ⟨(g.1 s s.heap F.2.2.2.2.2.1.2.2).1.narrow F.z, (g.1 s s.heap F.2.2.2.2.2.1.2.2).2.narrow F.z⟩
theorem Fx.msg {own : String} (F : Fx G p s m c cc nL own A) (g : MG G) {idx : Nat} {text : String} (h : (idx, text) ∈ msgs) : ∃ sa, vk_R RX6 idx text sa s := g.2 s s.heap F.2.2.2.2.2.1.2.2 _ h
theorem Thw.at {own cls : String} {ik : Nat} {L : List Cond} (h : Thw own ik cls L) {s : State} (ht : TW s) {args : Array Value} : (Cond.classLink own ik cls).before args s = true ∧ (Cond.initialized cls).before args s = true ∧ (∀ w ∈ L, w.before args s = true) ∧ ∀ w ∈ Cond.classLink own ik cls :: Cond.initialized cls :: L, vx_ot w = true := by
  obtain ⟨-, h1, h2, ⟨ps, h3⟩, h4, h5⟩ := h
  exact ⟨ht _ h1 rfl _, ht _ h2 rfl _, in_pl ps h3 h4 ht, ot_pl h5⟩
/-- where a throw leads: the world as it was, the exception's cell beside it -/
theorem exH (w : Wd G A s.heap ws H locs) {E : String} (h : X E ws) (t : State) (hz : H.size ≤ t.heap.size) (hk : ∀ q : Nat, q < H.size → t.heap[q]? = H[q]?) : XQ G A X E s t := by
  refine ⟨ws, trivial, ⟨h, w.1.kept (fun k x hx => hk x.1 ((w.1 k x hx).lt)), w.2.1⟩, ?_⟩
  exact ⟨Nat.le_trans w.2.2.1 hz, fun q h1 h2 => by rw [hk q (Nat.lt_of_lt_of_le h1 w.2.2.1)]; exact w.2.2.2.1 q h1 h2⟩
theorem exN_fit : ∀ n ∈ exN, Bundle.fit n = true := List.all_eq_true.mp (by decide +kernel)
/-- 'throw new X()' -/
theorem wT0 (F : Fx G p s m c cc nL RX6 A) (w : Wd G A s.heap ws H locs) (g : MG G) (hst : l.stackTraces = false) (htab : ∀ x ∈ c.exceptionTable.toList, False) (hlocks : meth.locks = false) {cls : String} {ik ic : Nat} (hw : Thw RX6 ik cls (vx_at0 RX6 ic cls exN)) (h : X cls ws) (hsize : ls.size = nL)
    (d0 : decode cc pc = .ok (.new ik, 3)) (d3 : decode cc (pc + 3) = .ok (.dup, 1)) (d4 : decode cc (pc + 4) = .ok (.invokespecial ic, 3)) (d7 : decode cc (pc + 7) = .ok (.athrow, 1))
    (hR : 5 < R.frames ∧ (rest.map fun v => v.category).sum + 81 ≤ R.locals ∧ cells + 1 ≤ R.cells ∧ slots + 6 ≤ R.slots) (hc : cells + 1 ≤ mc ∧ slots + 6 ≤ ms) :
    W p l e R s m args below meth c H locs cells slots (vx_MQ below Qc (XQ G A X) args s mc ms A) (F0 m pc ls rest) := by
  obtain ⟨a1, a2, a3, a4⟩ := hw.at (args := args) F.t
  exact vx_throw0 F.x F.b hst F.o hw.1 exN_fit a1 a2 a3 a4 (F.ex g).1 (F.ex g).2 w.S (by rw [hsize, F.ml]) d0 d3 d4 d7 (fun x hx => absurd hx (htab x)) hR.1 hR.2.1 hR.2.2.1 hR.2.2.2 hlocks (fun t _ hz hk => exH w h t hz hk) w.2.2.2.2 hc.1 hc.2
/-- 'throw new X(text)' -/
theorem wTS (F : Fx G p s m c cc nL RX6 A) (w : Wd G A s.heap ws H locs) (g : MG G) (hst : l.stackTraces = false) (htab : ∀ x ∈ c.exceptionTable.toList, False) (hlocks : meth.locks = false) {cls text : String} {ik ic is : Nat} (hw : Thw RX6 ik cls (vx_atS RX6 ic cls exN)) (hm : (is, text) ∈ msgs) (h : X cls ws) (hsize : ls.size = nL)
    (d0 : decode cc pc = .ok (.new ik, 3)) (d3 : decode cc (pc + 3) = .ok (.dup, 1)) (d4 : decode cc (pc + 4) = .ok (.ldc is, 2)) (d6 : decode cc (pc + 6) = .ok (.invokespecial ic, 3)) (d9 : decode cc (pc + 9) = .ok (.athrow, 1))
    (hR : 5 < R.frames ∧ (rest.map fun v => v.category).sum + 82 ≤ R.locals ∧ cells + 1 ≤ R.cells ∧ slots + 6 ≤ R.slots) (hc : cells + 1 ≤ mc ∧ slots + 6 ≤ ms) :
    W p l e R s m args below meth c H locs cells slots (vx_MQ below Qc (XQ G A X) args s mc ms A) (F0 m pc ls rest) := by
  obtain ⟨a1, a2, a3, a4⟩ := hw.at (args := args) F.t
  obtain ⟨sa, hsa⟩ := F.msg g hm
  exact vx_throwS F.x F.b hst F.o hw.1 exN_fit a1 a2 hsa a3 a4 (F.ex g).1 (F.ex g).2 w.S (by rw [hsize, F.ml]) d0 d3 d4 d6 d9 (fun x hx => absurd hx (htab x)) hR.1 hR.2.1 hR.2.2.1 hR.2.2.2 hlocks (fun t _ hz hk => exH w h t hz hk) w.2.2.2.2 hc.1 hc.2
/-- .. its text by a wide entry -/
theorem wTSW (F : Fx G p s m c cc nL RX6 A) (w : Wd G A s.heap ws H locs) (g : MG G) (hst : l.stackTraces = false) (htab : ∀ x ∈ c.exceptionTable.toList, False) (hlocks : meth.locks = false) {cls text : String} {ik ic is : Nat} (hw : Thw RX6 ik cls (vx_atS RX6 ic cls exN)) (hm : (is, text) ∈ msgs) (h : X cls ws) (hsize : ls.size = nL)
    (d0 : decode cc pc = .ok (.new ik, 3)) (d3 : decode cc (pc + 3) = .ok (.dup, 1)) (d4 : decode cc (pc + 4) = .ok (.ldc_w is, 3)) (d7 : decode cc (pc + 7) = .ok (.invokespecial ic, 3)) (d10 : decode cc (pc + 10) = .ok (.athrow, 1))
    (hR : 5 < R.frames ∧ (rest.map fun v => v.category).sum + 82 ≤ R.locals ∧ cells + 1 ≤ R.cells ∧ slots + 6 ≤ R.slots) (hc : cells + 1 ≤ mc ∧ slots + 6 ≤ ms) :
    W p l e R s m args below meth c H locs cells slots (vx_MQ below Qc (XQ G A X) args s mc ms A) (F0 m pc ls rest) := by
  obtain ⟨a1, a2, a3, a4⟩ := hw.at (args := args) F.t
  obtain ⟨sa, hsa⟩ := F.msg g hm
  exact vx_throwSW F.x F.b hst F.o hw.1 exN_fit a1 a2 hsa a3 a4 (F.ex g).1 (F.ex g).2 w.S (by rw [hsize, F.ml]) d0 d3 d4 d7 d10 (fun x hx => absurd hx (htab x)) hR.1 hR.2.1 hR.2.2.1 hR.2.2.2 hlocks (fun t _ hz hk => exH w h t hz hk) w.2.2.2.2 hc.1 hc.2
theorem nse_fit : ∀ n ∈ ["java/lang/Exception"], Bundle.fit n = true := List.all_eq_true.mp (by decide +kernel)
/-- 'throw new NoSuchElementException(text)' -/
theorem wTN (F : Fx G p s m c cc nL RX6 A) (w : Wd G A s.heap ws H locs) (g : MG G) (hst : l.stackTraces = false) (htab : ∀ x ∈ c.exceptionTable.toList, False) (hlocks : meth.locks = false) {text : String} {is : Nat} (hm : (is, text) ∈ msgs) (h : X eNSE ws) (hsize : ls.size = nL)
    (d0 : decode cc pc = .ok (.new 127, 3)) (d3 : decode cc (pc + 3) = .ok (.dup, 1)) (d4 : decode cc (pc + 4) = .ok (.ldc is, 2)) (d6 : decode cc (pc + 6) = .ok (.invokespecial 131, 3)) (d9 : decode cc (pc + 9) = .ok (.athrow, 1))
    (hR : 5 < R.frames ∧ (rest.map fun v => v.category).sum + 82 ≤ R.locals ∧ cells + 1 ≤ R.cells ∧ slots + 6 ≤ R.slots) (hc : cells + 1 ≤ mc ∧ slots + 6 ≤ ms) :
    W p l e R s m args below meth c H locs cells slots (vx_MQ below Qc (XQ G A X) args s mc ms A) (F0 m pc ls rest) := by
  obtain ⟨a1, a2, a3, a4⟩ := hS_NSE.at (args := args) F.t
  obtain ⟨sa, hsa⟩ := F.msg g hm
  refine nx_throw F.x F.b hst F.o hS_NSE.1 (by decide +kernel) nse_fit (by decide +kernel) (by decide +kernel) (by decide +kernel) (by decide +kernel) a1 a2 hsa a3 a4 (F.ex g).1 (F.ex g).2 w.S (by rw [hsize, F.ml]) d0 d3 d4 d6 d9 hR.1 hR.2.1 hR.2.2.1 hR.2.2.2 (fun q H1 ce hz hk hcell hv hcl => ?_)
  refine exX (ws := ws) ⟨w.1.kept (fun k x hx => hk x.1 ((w.1 k x hx).lt)), w.2.1, Nat.le_trans w.2.2.1 hz, fun q h1 h2 => ?_, w.2.2.2.2⟩ htab hlocks hcell hv hcl h hc.1 hc.2
  rw [hk q (Nat.lt_of_lt_of_le h1 w.2.2.1)]
  exact w.2.2.2.1 q h1 h2
theorem wTNW (F : Fx G p s m c cc nL RX6 A) (w : Wd G A s.heap ws H locs) (g : MG G) (hst : l.stackTraces = false) (htab : ∀ x ∈ c.exceptionTable.toList, False) (hlocks : meth.locks = false) {text : String} {is : Nat} (hm : (is, text) ∈ msgs) (h : X eNSE ws) (hsize : ls.size = nL)
    (d0 : decode cc pc = .ok (.new 127, 3)) (d3 : decode cc (pc + 3) = .ok (.dup, 1)) (d4 : decode cc (pc + 4) = .ok (.ldc_w is, 3)) (d6 : decode cc (pc + 7) = .ok (.invokespecial 131, 3)) (d9 : decode cc (pc + 10) = .ok (.athrow, 1))
    (hR : 5 < R.frames ∧ (rest.map fun v => v.category).sum + 82 ≤ R.locals ∧ cells + 1 ≤ R.cells ∧ slots + 6 ≤ R.slots) (hc : cells + 1 ≤ mc ∧ slots + 6 ≤ ms) :
    W p l e R s m args below meth c H locs cells slots (vx_MQ below Qc (XQ G A X) args s mc ms A) (F0 m pc ls rest) := by
  obtain ⟨a1, a2, a3, a4⟩ := hS_NSE.at (args := args) F.t
  obtain ⟨sa, hsa⟩ := F.msg g hm
  refine nx_throwW F.x F.b hst F.o hS_NSE.1 (by decide +kernel) nse_fit (by decide +kernel) (by decide +kernel) (by decide +kernel) (by decide +kernel) a1 a2 hsa a3 a4 (F.ex g).1 (F.ex g).2 w.S (by rw [hsize, F.ml]) d0 d3 d4 d6 d9 hR.1 hR.2.1 hR.2.2.1 hR.2.2.2 (fun q H1 ce hz hk hcell hv hcl => ?_)
  refine exX (ws := ws) ⟨w.1.kept (fun k x hx => hk x.1 ((w.1 k x hx).lt)), w.2.1, Nat.le_trans w.2.2.1 hz, fun q h1 h2 => ?_, w.2.2.2.2⟩ htab hlocks hcell hv hcl h hc.1 hc.2
  rw [hk q (Nat.lt_of_lt_of_le h1 w.2.2.1)]
  exact w.2.2.2.1 q h1 h2
end THROWS

/-! printed by wip/p61/tools/gen86.py: the history: its blocks, its methods -/
def hput (hs : hS) (k : Nat) (q : (Nat → Nat) × Mem) : hS := fun j => if j = k then some q else hs j
def hdel (hs : hS) (k : Nat) : hS := fun j => if j = k then none else hs j
def blk (T : Nat → ClassId) (o : Option ((Nat → Nat) × Mem)) : va_W := match o with
  | none => []
  | some q => wSh T q.1 q.2
def hsL (T : Nat → ClassId) (hs : hS) : va_W := (List.range 9).flatMap (fun j => blk T (hs j))
theorem flatMap_one {α β : Type} [DecidableEq α] (f g : α → List β) (k : α) (hg : ∀ j, j ≠ k → g j = f j) (hk : g k = []) : ∀ l : List α, l.Nodup → k ∈ l → (l.flatMap f).Perm (f k ++ l.flatMap g)
  | [], _, h => absurd h (by simp)
  | a :: l, hn, h => by
    obtain ⟨h1, h2⟩ := List.nodup_cons.mp hn
    by_cases e : a = k
    · subst e
      have h3 : l.flatMap g = l.flatMap f := by
        rw [List.flatMap_def, List.flatMap_def]
        congr 1
        exact List.map_congr_left (fun j hj => hg j (fun e => h1 (e ▸ hj)))
      simp [List.flatMap_cons, hk, h3]
    · have h3 : k ∈ l := by
        rcases List.mem_cons.mp h with h | h
        · exact absurd h.symm e
        · exact h
      have h4 := flatMap_one f g k hg hk l h2 h3
      rw [List.flatMap_cons, List.flatMap_cons, hg a e]
      refine (h4.append_left (f a)).trans ?_
      rw [← List.append_assoc, ← List.append_assoc]
      exact List.perm_append_comm.append_right _
theorem hsL_take (T : Nat → ClassId) (hs : hS) {k : Nat} (hk : k < 9) : (hsL T hs).Perm (blk T (hs k) ++ hsL T (hdel hs k)) :=
  flatMap_one (fun j => blk T (hs j)) (fun j => blk T (hdel hs k j)) k (fun j hj => by simp [hdel, hj]) (by simp [hdel, blk]) _ List.nodup_range (List.mem_range.mpr hk)
theorem hdel_put (hs : hS) (k : Nat) (q : (Nat → Nat) × Mem) : hdel (hput hs k q) k = hdel hs k := by
  funext j
  by_cases e : j = k <;> simp [hdel, hput, e]
theorem hdel_none {hs : hS} {k : Nat} (h : hs k = none) : hdel hs k = hs := by
  funext j
  by_cases e : j = k
  · subst e; simp [hdel, h]
  · simp [hdel, e]
theorem hsL_put (T : Nat → ClassId) (hs : hS) {k : Nat} (hk : k < 9) (q : (Nat → Nat) × Mem) : (hsL T (hput hs k q)).Perm (wSh T q.1 q.2 ++ hsL T (hdel hs k)) := by
  have h := hsL_take T (hput hs k q) hk
  rw [hdel_put] at h
  simpa [hput, blk] using h
/-- the states' addresses alone stand in the row -/
theorem wHo_same {T : Nat → ClassId} {h : Nat → Nat} {cu ct : Nat} {hs hs' : hS} (e : ∀ j, (hs j).map (fun q => q.1 0) = (hs' j).map (fun q => q.1 0)) : wHo T h cu ct hs = wHo T h cu ct hs' := by
  have e' : (fun j => (hs j).map (fun q => q.1 0)) = (fun j => (hs' j).map (fun q => q.1 0)) := funext e
  unfold wHo
  rw [e']
theorem p_out {X E Y D Z : va_W} (h : E.Perm (Z ++ D)) : (fl [X, E, Y]).Perm (fl [X, D, Y, Z]) := by
  show (X ++ (E ++ Y)).Perm (X ++ (D ++ (Y ++ Z)))
  refine List.Perm.append_left X ((h.append_right Y).trans ?_)
  rw [← List.append_assoc]
  refine (List.perm_append_comm (l₁ := Z ++ D) (l₂ := Y)).trans ?_
  refine (List.Perm.append_left Y List.perm_append_comm).trans ?_
  rw [← List.append_assoc, List.append_assoc D Y Z, ← List.append_assoc D]
  exact List.perm_append_comm.append_right Z
theorem p_in {X E Y D Z : va_W} (h : E.Perm (Z ++ D)) : (fl [X, D, Y, Z]).Perm (fl [X, E, Y]) := (p_out h).symm
section HISTR
variable {G : cG} {p : Program} {l : Launch} {e : Env} {R : Room} {s : State} {m : MethodId} {args : Array Value} {below : List Frame} {meth : Method} {c : Code} {H : Heap} {locs : List Loc} {cells slots : Nat} {Q : State → Prop} {cc : ByteArray} {nL : Nat} {own : String} {A : Nat → Prop} {ws : va_W} {LR : List va_W} {pc : Nat} {ls : Array Slot} {rest : List Value} {a : Nat}
theorem rq (F : Fx G p s m c cc nL own A) (w : Wd G A s.heap ws H locs) (q0 : Nat) {n : Nat} {f : Nat → Option Nat} (ha : ws[q0]? = some (a, .inl (G.2.1 6, n, .inr (.inr (.inr (.inr f)))))) {i : Int32} (hi : vp_in i n) {v : Value} (hv : va_rf (f i.toNatClampNeg) = v) (hdg : decode cc pc = .ok (.aaload, 1))
    (kk : W p l e R s m args below meth c H locs cells slots Q (F0 m (pc + 1) ls (v :: rest))) : W p l e R s m args below meth c H locs cells slots Q (F0 m pc ls (.int i :: .ref a :: rest)) := by
  subst hv
  exact va_aldq F.x F.b F.K w.1 q0 6 ha rfl hi hdg kk
theorem fl_cons (a : va_W) (L : List va_W) : fl (a :: L) = a ++ fl L := by
  rw [fl_flatten, fl_flatten, List.flatten_cons]
theorem rqs (F : Fx G p s m c cc nL own A) {h : Nat → Nat} {cu ct : Nat} {hs : hS} (w : Wd G A s.heap (fl (wHo G.2.1 h cu ct hs :: LR)) H locs) {k qk : Nat} (hk : k < 9) {q : (Nat → Nat) × Mem} {vs : List Value} (hv : (fl (wHo G.2.1 h cu ct hs :: LR))[qk]? = some (q.1 0, .inr (8, vs))) (hdg : decode cc pc = .ok (.aastore, 1))
    (kk : ∀ (H1 : Heap) (locs1 : List Loc), Wd G A s.heap (fl (wHo G.2.1 h cu ct (hput hs k q) :: LR)) H1 locs1 → W p l e R s m args below meth c H1 locs1 cells slots Q (F0 m (pc + 1) ls rest)) : W p l e R s m args below meth c H locs cells slots Q (F0 m pc ls (.ref (q.1 0) :: .int (nI k) :: .ref (h 1) :: rest)) := by
  have hc : vwCl[8]? = some (RX4, TX4, 7) := rfl
  have e1 : (fl (wHo G.2.1 h cu ct hs :: LR))[1]? = some (h 1, .inl (G.2.1 6, 9, .inr (.inr (.inr (.inr (fun i => (hs i).map (fun q => q.1 0))))))) := by
    rw [fl_cons]
    rfl
  refine va_astq F.x F.b F.K w.1 w.2.1 w.2.2 1 6 qk 8 e1 rfl hv hc (vp_in_nI hk (by decide)) hdg (fun H1 locs1 h1 h2 h3 => kk H1 locs1 ?_)
  have e2 : (fl (wHo G.2.1 h cu ct hs :: LR)).set 1 (h 1, .inl (G.2.1 6, 9, .inr (.inr (.inr (.inr (va_up (fun i => (hs i).map (fun q => q.1 0)) (nI k).toNatClampNeg (some (q.1 0)))))))) = fl (wHo G.2.1 h cu ct (hput hs k q) :: LR) := by
    rw [fl_cons, fl_cons, nI_clamp (by omega)]
    have e3 : va_up (fun i => (hs i).map (fun q => q.1 0)) k (some (q.1 0)) = fun i => (hput hs k q i).map (fun q => q.1 0) := by
      funext j
      by_cases e : j = k <;> simp [va_up, hput, e]
    rw [e3]
    rfl
  rw [← e2]
  exact ⟨h1, h2, h3⟩
end HISTR
def nxt (cu : Nat) : Nat := if cu = 8 then 0 else cu + 1
def prv (cu : Nat) : Nat := if cu = 0 then 8 else cu - 1
def cap (ct : Nat) : Nat := if ct = 8 then 8 else ct + 1
theorem q620 : Cond.methodLinkNest RX2 24 yX4_init "CustomsShed" ∈ lw_tbl := List.mem_of_getElem? (i := 620) (by decide +kernel)
theorem q621 : Cond.methodLink RX2 25 yX4_copyFrom ∈ lw_tbl := List.mem_of_getElem? (i := 621) (by decide +kernel)
theorem q1497 : Cond.methodLink RX2 29 yX2_takeBack ∈ lw_tbl := List.mem_of_getElem? (i := 1497) (by decide +kernel)
theorem m_X4_init : YM yX4_init cX4_init 1 (none) 0 := ⟨⟨List.mem_of_getElem? (i := 57) (by decide +kernel), by decide +kernel⟩, List.mem_of_getElem? (i := 16) (by decide +kernel), ⟨by decide, by decide⟩, by decide +kernel⟩
theorem v_X4_init : Cond.instanceMethod yX4_init ∈ lw_tbl := (List.mem_of_getElem? (i := 56) (by decide +kernel))
theorem m_X4_copyFrom : YM yX4_copyFrom cX4_copyFrom 2 (none) 1 := ⟨⟨List.mem_of_getElem? (i := 545) (by decide +kernel), by decide +kernel⟩, List.mem_of_getElem? (i := 16) (by decide +kernel), ⟨by decide, by decide⟩, by decide +kernel⟩
theorem v_X4_copyFrom : YV yX4_copyFrom := ⟨(List.mem_of_getElem? (i := 543) (by decide +kernel)), List.mem_of_getElem? (i := 544) (by decide +kernel)⟩
theorem m_X2_takeBack : YM yX2_takeBack cX2_takeBack 3 (none) 1 := ⟨⟨List.mem_of_getElem? (i := 1145) (by decide +kernel), by decide +kernel⟩, List.mem_of_getElem? (i := 20) (by decide +kernel), ⟨by decide, by decide⟩, by decide +kernel⟩
theorem v_X2_takeBack : YV yX2_takeBack := ⟨(List.mem_of_getElem? (i := 1143) (by decide +kernel)), List.mem_of_getElem? (i := 1144) (by decide +kernel)⟩
set_option maxRecDepth 100000 in
set_option maxHeartbeats 4000000 in
theorem t_X2_keepPrepared {G : cG} (g : GOK G) {h : Nat → Nat} {cu ct : Nat} {hs : hS} (k1 : cu < 9) (k2 : ct ≤ 8) : CXv G yX2_keepPrepared cX2_keepPrepared 1 0 0 0 0 [.ref (h 0)] (wHo G.2.1 h cu ct hs) (fun w1 => w1 = wHo G.2.1 h (nxt cu) (cap ct) hs) (fun _ _ => False) := by
  refine CXv.of g (by decide) rfl (Nat.le_of_ble_eq_true rfl) ?_
  intro p l e s m below meth c A ls hst htab F hr hlocks w hl
  generalize ([.ref (h 0)] : List Value).toArray = args
  have hl : lv_has ls 1 [(0, .ref (h 0))] := hl
  have w : Wd G A s.heap (fl [wHo G.2.1 h cu ct hs]) _ _ := w
  by_cases e1 : cu = 8
  · by_cases e2 : ct = 8
    · refine lv_aload_n F.x F.b dX2_keepPrepared_0 rfl (lv_at hl 0 rfl) ?_
      refine lv_aload_n F.x F.b dX2_keepPrepared_1 rfl (lv_at hl 0 rfl) ?_
      refine rg F w cl2 0 rfl 1 (by decide) q184 rfl (v := .int (nI cu)) rfl dX2_keepPrepared_2 ?_
      refine lv_bipush (v := 8) F.x F.b dX2_keepPrepared_5 (by decide) ?_
      refine lv_icmp_lt (tgt := 14) F.x F.b dX2_keepPrepared_7 (by decide) (fun c9 => absurd c9 (nI_nlt (a := cu) (b := 8) (by omega) (by omega))) (fun _ => ?_)
      refine lv_iconst (v := 0) F.x F.b dX2_keepPrepared_10 (by decide) ?_
      refine lv_goto (tgt := 20) F.x F.b dX2_keepPrepared_11 (by decide) ?_
      refine rp F w (ws' := fl [[(h 0, .inr (6, [.ref (h 1), .int 0, .int (nI ct)])), (h 1, .inl (G.2.1 6, 9, .inr (.inr (.inr (.inr (fun i => (hs i).map (fun q => q.1 0)))))))]]) cl2 0 rfl 1 (by decide) q184 rfl rfl rfl rfl (Nat.le_of_ble_eq_true rfl) rfl dX2_keepPrepared_20 (fun H locs w => ?_)
      refine lv_aload_n F.x F.b dX2_keepPrepared_23 rfl (lv_at hl 0 rfl) ?_
      refine rg F w cl2 0 rfl 2 (by decide) q185 rfl (v := .int (nI ct)) rfl dX2_keepPrepared_24 ?_
      refine lv_bipush (v := 8) F.x F.b dX2_keepPrepared_27 (by decide) ?_
      refine lv_icmp_ge (tgt := 42) F.x F.b dX2_keepPrepared_29 (by decide) (fun _ => ?_) (fun c9 => absurd (nI_le (a := 8) (b := ct) (by omega) (by omega)) c9)
      refine evX F w hr hlocks (P := fun w1 => w1 = wHo G.2.1 h (nxt cu) (cap ct) hs) ?_ (Nat.le_of_ble_eq_true rfl) (Nat.le_of_ble_eq_true rfl) dX2_keepPrepared_42
      simp only [nxt, cap, if_pos, e1, e2, wHo, fl, ← nI_1]
      try rfl
    · refine lv_aload_n F.x F.b dX2_keepPrepared_0 rfl (lv_at hl 0 rfl) ?_
      refine lv_aload_n F.x F.b dX2_keepPrepared_1 rfl (lv_at hl 0 rfl) ?_
      refine rg F w cl2 0 rfl 1 (by decide) q184 rfl (v := .int (nI cu)) rfl dX2_keepPrepared_2 ?_
      refine lv_bipush (v := 8) F.x F.b dX2_keepPrepared_5 (by decide) ?_
      refine lv_icmp_lt (tgt := 14) F.x F.b dX2_keepPrepared_7 (by decide) (fun c9 => absurd c9 (nI_nlt (a := cu) (b := 8) (by omega) (by omega))) (fun _ => ?_)
      refine lv_iconst (v := 0) F.x F.b dX2_keepPrepared_10 (by decide) ?_
      refine lv_goto (tgt := 20) F.x F.b dX2_keepPrepared_11 (by decide) ?_
      refine rp F w (ws' := fl [[(h 0, .inr (6, [.ref (h 1), .int 0, .int (nI ct)])), (h 1, .inl (G.2.1 6, 9, .inr (.inr (.inr (.inr (fun i => (hs i).map (fun q => q.1 0)))))))]]) cl2 0 rfl 1 (by decide) q184 rfl rfl rfl rfl (Nat.le_of_ble_eq_true rfl) rfl dX2_keepPrepared_20 (fun H locs w => ?_)
      refine lv_aload_n F.x F.b dX2_keepPrepared_23 rfl (lv_at hl 0 rfl) ?_
      refine rg F w cl2 0 rfl 2 (by decide) q185 rfl (v := .int (nI ct)) rfl dX2_keepPrepared_24 ?_
      refine lv_bipush (v := 8) F.x F.b dX2_keepPrepared_27 (by decide) ?_
      refine lv_icmp_ge (tgt := 42) F.x F.b dX2_keepPrepared_29 (by decide) (fun c9 => absurd c9 (nI_ge (a := ct) (b := 8) (by omega) (by omega))) (fun _ => ?_)
      refine lv_aload_n F.x F.b dX2_keepPrepared_32 rfl (lv_at hl 0 rfl) ?_
      refine lv_dup F.x F.b dX2_keepPrepared_33 rfl ?_
      refine rg F w cl2 0 rfl 2 (by decide) q185 rfl (v := .int (nI ct)) rfl dX2_keepPrepared_34 ?_
      refine lv_iconst (v := 1) F.x F.b dX2_keepPrepared_37 (by decide) ?_
      refine lv_iadd F.x F.b dX2_keepPrepared_38 ?_
      refine rp F w (ws' := fl [[(h 0, .inr (6, [.ref (h 1), .int 0, .int ((nI ct) + 1)])), (h 1, .inl (G.2.1 6, 9, .inr (.inr (.inr (.inr (fun i => (hs i).map (fun q => q.1 0)))))))]]) cl2 0 rfl 2 (by decide) q185 rfl rfl rfl rfl (Nat.le_of_ble_eq_true rfl) rfl dX2_keepPrepared_39 (fun H locs w => ?_)
      refine evX F w hr hlocks (P := fun w1 => w1 = wHo G.2.1 h (nxt cu) (cap ct) hs) ?_ (Nat.le_of_ble_eq_true rfl) (Nat.le_of_ble_eq_true rfl) dX2_keepPrepared_42
      simp only [nxt, cap, if_pos, e1, if_neg e2, wHo, fl, ← nI_1]
      try rfl
  · by_cases e2 : ct = 8
    · refine lv_aload_n F.x F.b dX2_keepPrepared_0 rfl (lv_at hl 0 rfl) ?_
      refine lv_aload_n F.x F.b dX2_keepPrepared_1 rfl (lv_at hl 0 rfl) ?_
      refine rg F w cl2 0 rfl 1 (by decide) q184 rfl (v := .int (nI cu)) rfl dX2_keepPrepared_2 ?_
      refine lv_bipush (v := 8) F.x F.b dX2_keepPrepared_5 (by decide) ?_
      refine lv_icmp_lt (tgt := 14) F.x F.b dX2_keepPrepared_7 (by decide) (fun _ => ?_) (fun c9 => absurd (nI_lt (a := cu) (b := 8) (by omega) (by omega)) c9)
      refine lv_aload_n F.x F.b dX2_keepPrepared_14 rfl (lv_at hl 0 rfl) ?_
      refine rg F w cl2 0 rfl 1 (by decide) q184 rfl (v := .int (nI cu)) rfl dX2_keepPrepared_15 ?_
      refine lv_iconst (v := 1) F.x F.b dX2_keepPrepared_18 (by decide) ?_
      refine lv_iadd F.x F.b dX2_keepPrepared_19 ?_
      refine rp F w (ws' := fl [[(h 0, .inr (6, [.ref (h 1), .int ((nI cu) + 1), .int (nI ct)])), (h 1, .inl (G.2.1 6, 9, .inr (.inr (.inr (.inr (fun i => (hs i).map (fun q => q.1 0)))))))]]) cl2 0 rfl 1 (by decide) q184 rfl rfl rfl rfl (Nat.le_of_ble_eq_true rfl) rfl dX2_keepPrepared_20 (fun H locs w => ?_)
      refine lv_aload_n F.x F.b dX2_keepPrepared_23 rfl (lv_at hl 0 rfl) ?_
      refine rg F w cl2 0 rfl 2 (by decide) q185 rfl (v := .int (nI ct)) rfl dX2_keepPrepared_24 ?_
      refine lv_bipush (v := 8) F.x F.b dX2_keepPrepared_27 (by decide) ?_
      refine lv_icmp_ge (tgt := 42) F.x F.b dX2_keepPrepared_29 (by decide) (fun _ => ?_) (fun c9 => absurd (nI_le (a := 8) (b := ct) (by omega) (by omega)) c9)
      refine evX F w hr hlocks (P := fun w1 => w1 = wHo G.2.1 h (nxt cu) (cap ct) hs) ?_ (Nat.le_of_ble_eq_true rfl) (Nat.le_of_ble_eq_true rfl) dX2_keepPrepared_42
      simp only [nxt, cap, if_pos, if_neg e1, e2, wHo, fl, ← nI_1]
      try rfl
    · refine lv_aload_n F.x F.b dX2_keepPrepared_0 rfl (lv_at hl 0 rfl) ?_
      refine lv_aload_n F.x F.b dX2_keepPrepared_1 rfl (lv_at hl 0 rfl) ?_
      refine rg F w cl2 0 rfl 1 (by decide) q184 rfl (v := .int (nI cu)) rfl dX2_keepPrepared_2 ?_
      refine lv_bipush (v := 8) F.x F.b dX2_keepPrepared_5 (by decide) ?_
      refine lv_icmp_lt (tgt := 14) F.x F.b dX2_keepPrepared_7 (by decide) (fun _ => ?_) (fun c9 => absurd (nI_lt (a := cu) (b := 8) (by omega) (by omega)) c9)
      refine lv_aload_n F.x F.b dX2_keepPrepared_14 rfl (lv_at hl 0 rfl) ?_
      refine rg F w cl2 0 rfl 1 (by decide) q184 rfl (v := .int (nI cu)) rfl dX2_keepPrepared_15 ?_
      refine lv_iconst (v := 1) F.x F.b dX2_keepPrepared_18 (by decide) ?_
      refine lv_iadd F.x F.b dX2_keepPrepared_19 ?_
      refine rp F w (ws' := fl [[(h 0, .inr (6, [.ref (h 1), .int ((nI cu) + 1), .int (nI ct)])), (h 1, .inl (G.2.1 6, 9, .inr (.inr (.inr (.inr (fun i => (hs i).map (fun q => q.1 0)))))))]]) cl2 0 rfl 1 (by decide) q184 rfl rfl rfl rfl (Nat.le_of_ble_eq_true rfl) rfl dX2_keepPrepared_20 (fun H locs w => ?_)
      refine lv_aload_n F.x F.b dX2_keepPrepared_23 rfl (lv_at hl 0 rfl) ?_
      refine rg F w cl2 0 rfl 2 (by decide) q185 rfl (v := .int (nI ct)) rfl dX2_keepPrepared_24 ?_
      refine lv_bipush (v := 8) F.x F.b dX2_keepPrepared_27 (by decide) ?_
      refine lv_icmp_ge (tgt := 42) F.x F.b dX2_keepPrepared_29 (by decide) (fun c9 => absurd c9 (nI_ge (a := ct) (b := 8) (by omega) (by omega))) (fun _ => ?_)
      refine lv_aload_n F.x F.b dX2_keepPrepared_32 rfl (lv_at hl 0 rfl) ?_
      refine lv_dup F.x F.b dX2_keepPrepared_33 rfl ?_
      refine rg F w cl2 0 rfl 2 (by decide) q185 rfl (v := .int (nI ct)) rfl dX2_keepPrepared_34 ?_
      refine lv_iconst (v := 1) F.x F.b dX2_keepPrepared_37 (by decide) ?_
      refine lv_iadd F.x F.b dX2_keepPrepared_38 ?_
      refine rp F w (ws' := fl [[(h 0, .inr (6, [.ref (h 1), .int ((nI cu) + 1), .int ((nI ct) + 1)])), (h 1, .inl (G.2.1 6, 9, .inr (.inr (.inr (.inr (fun i => (hs i).map (fun q => q.1 0)))))))]]) cl2 0 rfl 2 (by decide) q185 rfl rfl rfl rfl (Nat.le_of_ble_eq_true rfl) rfl dX2_keepPrepared_39 (fun H locs w => ?_)
      refine evX F w hr hlocks (P := fun w1 => w1 = wHo G.2.1 h (nxt cu) (cap ct) hs) ?_ (Nat.le_of_ble_eq_true rfl) (Nat.le_of_ble_eq_true rfl) dX2_keepPrepared_42
      simp only [nxt, cap, if_pos, if_neg e1, if_neg e2, wHo, fl, ← nI_1]
set_option maxRecDepth 100000 in
set_option maxHeartbeats 4000000 in
theorem t_X2_forget {G : cG} (g : GOK G) {h : Nat → Nat} {cu ct : Nat} {hs : hS} : CXv G yX2_forget cX2_forget 1 0 0 0 0 [.ref (h 0)] (wHo G.2.1 h cu ct hs) (fun w1 => w1 = wHo G.2.1 h cu 0 hs) (fun _ _ => False) := by
  refine CXv.of g (by decide) rfl (Nat.le_of_ble_eq_true rfl) ?_
  intro p l e s m below meth c A ls hst htab F hr hlocks w hl
  generalize ([.ref (h 0)] : List Value).toArray = args
  have hl : lv_has ls 1 [(0, .ref (h 0))] := hl
  have w : Wd G A s.heap (fl [wHo G.2.1 h cu ct hs]) _ _ := w
  refine lv_aload_n F.x F.b dX2_forget_0 rfl (lv_at hl 0 rfl) ?_
  refine lv_iconst (v := 0) F.x F.b dX2_forget_1 (by decide) ?_
  refine rp F w (ws' := fl [[(h 0, .inr (6, [.ref (h 1), .int (nI cu), .int 0])), (h 1, .inl (G.2.1 6, 9, .inr (.inr (.inr (.inr (fun i => (hs i).map (fun q => q.1 0)))))))]]) cl2 0 rfl 2 (by decide) q185 rfl rfl rfl rfl (Nat.le_of_ble_eq_true rfl) rfl dX2_forget_2 (fun H locs w => ?_)
  exact evX F w hr hlocks (P := fun w1 => w1 = wHo G.2.1 h cu 0 hs) rfl (Nat.le_of_ble_eq_true rfl) (Nat.le_of_ble_eq_true rfl) dX2_forget_5
set_option maxRecDepth 100000 in
set_option maxHeartbeats 4000000 in
theorem t_X2_prepare {G : cG} (g : GOK G) {h : Nat → Nat} {cu ct : Nat} {hs : hS} {a : Nat → Nat} {S : Mem} (k1 : cu < 9) (hS : ∀ P0, ∃ P, f_X4_copyFrom P0 S = some P) : CXv G yX2_prepare cX2_prepare 3 3 66 14 161 [.ref (h 0), .ref (a 0)] (fl [wHo G.2.1 h cu ct hs, hsL G.2.1 hs, wSh G.2.1 a S]) (fun w1 => ∃ (b : Nat → Nat) (P : Mem), (∃ P0, f_X4_copyFrom P0 S = some P) ∧ w1 = fl [wHo G.2.1 h cu ct (hput hs cu (b, P)), hsL G.2.1 (hput hs cu (b, P)), wSh G.2.1 a S]) (fun _ _ => False) := by
  refine CXv.of g (by decide) rfl (Nat.le_of_ble_eq_true rfl) ?_
  intro p l e s m below meth c A ls hst htab F hr hlocks w hl
  generalize ([.ref (h 0), .ref (a 0)] : List Value).toArray = args
  have hl : lv_has ls 3 [(0, .ref (h 0)), (1, .ref (a 0))] := hl
  have w : Wd G A s.heap (fl [wHo G.2.1 h cu ct hs, hsL G.2.1 hs, wSh G.2.1 a S]) _ _ := w
  cases hq : hs cu with
  | none =>
    refine lv_aload_n F.x F.b dX2_prepare_0 rfl (lv_at hl 0 rfl) ?_
    refine rg F w cl2 0 rfl 0 (by decide) q183 rfl (v := .ref (h 1)) rfl dX2_prepare_1 ?_
    refine lv_aload_n F.x F.b dX2_prepare_4 rfl (lv_at hl 0 rfl) ?_
    refine rg F w cl2 0 rfl 1 (by decide) q184 rfl (v := .int (nI cu)) rfl dX2_prepare_5 ?_
    refine rq F w 1 rfl (vp_in_nI k1 (by decide)) (v := .null) (by show va_rf ((hs (nI cu).toNatClampNeg).map _) = _; rw [nI_clamp (by omega), hq]; rfl) dX2_prepare_8 ?_
    refine lv_astore_nN (lv' := [(2, .null), (0, .ref (h 0)), (1, .ref (a 0))]) F.x F.b dX2_prepare_9 rfl hl (by decide) rfl (fun ls hl => ?_)
    refine lv_aload_nN F.x F.b dX2_prepare_10 rfl (lv_at hl 0 rfl) ?_
    refine lv_ifnonnullN F.x F.b dX2_prepare_11 ?_
    have w := w.re (L' := [wHo G.2.1 h cu ct hs, wSh G.2.1 a S, hsL G.2.1 hs]) 3 [0, 2, 1] rfl rfl rfl
    have w : Wd G A s.heap (fl [wHo G.2.1 h cu ct hs, wSh G.2.1 a S, hsL G.2.1 hs]) _ _ := w
    refine rn F w cl4 q181 (List.mem_of_getElem? (i := 54) (by decide +kernel)) (List.mem_of_getElem? (i := 16) (by decide +kernel)) [.null, .null, .null, .int 0, .int 0, .int 0, .int 0] (fun j hj => by rcases (show j = 0 ∨ j = 1 ∨ j = 2 ∨ j = 3 ∨ j = 4 ∨ j = 5 ∨ j = 6 by omega) with rfl | rfl | rfl | rfl | rfl | rfl | rfl <;> rfl) (Nat.le_of_ble_eq_true rfl) (Nat.le_of_ble_eq_true rfl) dX2_prepare_14 (fun z1 H w => ?_)
    have w : Wd G A s.heap (fl [wHo G.2.1 h cu ct hs, wSh G.2.1 a S, hsL G.2.1 hs, [(z1, .inr (8, [.null, .null, .null, .int 0, .int 0, .int 0, .int 0]))]]) _ _ := w
    refine lv_dup F.x F.b dX2_prepare_17 rfl ?_
    refine kCN F w (LC := [[(z1, .inr (8, [.null, .null, .null, .int 0, .int 0, .int 0, .int 0]))]]) (LR := [wHo G.2.1 h cu ct hs, wSh G.2.1 a S, hsL G.2.1 hs]) (As := []) (rest := [.ref z1]) (t_X4_init F.1) m_X4_init v_X4_init rfl q620 4 [3, 0, 1, 2] rfl rfl rfl ⟨Nat.le_of_ble_eq_true rfl, Nat.le_of_ble_eq_true rfl⟩ rfl hl.1 rfl (Nat.le_of_ble_eq_true rfl) dX2_prepare_18 ⟨Nat.le_of_ble_eq_true rfl, Nat.le_of_ble_eq_true rfl⟩ (fun w1 H locs h9 w => ?_)
    obtain ⟨b, hb0, h9⟩ := h9
    have w0 := w
    subst hb0
    have w := w0
    have w := w.jn (L1 := [wSh G.2.1 b zM]) (L' := [wHo G.2.1 h cu ct hs, wSh G.2.1 a S, hsL G.2.1 hs, wSh G.2.1 b zM]) h9 4 [1, 2, 3, 0] rfl rfl rfl
    have w := w.re (L' := [wHo G.2.1 h cu ct hs, wSh G.2.1 a S, wSh G.2.1 b zM, hsL G.2.1 hs]) 4 [0, 1, 3, 2] rfl rfl rfl
    have w : Wd G A s.heap (fl [wHo G.2.1 h cu ct hs, wSh G.2.1 a S, wSh G.2.1 b zM, hsL G.2.1 hs]) _ _ := w
    refine lv_astore_n (lv' := [(2, .ref (b 0)), (0, .ref (h 0)), (1, .ref (a 0))]) F.x F.b dX2_prepare_21 rfl hl (by decide) rfl (fun ls hl => ?_)
    refine lv_aload_n F.x F.b dX2_prepare_22 rfl (lv_at hl 1 rfl) ?_
    refine rg F w cl2 0 rfl 0 (by decide) q183 rfl (v := .ref (h 1)) rfl dX2_prepare_23 ?_
    refine lv_aload_n F.x F.b dX2_prepare_26 rfl (lv_at hl 1 rfl) ?_
    refine rg F w cl2 0 rfl 1 (by decide) q184 rfl (v := .int (nI cu)) rfl dX2_prepare_27 ?_
    refine lv_aload_n F.x F.b dX2_prepare_30 rfl (lv_at hl 0 rfl) ?_
    refine rqs F w (q := (b, zM)) (qk := 16) k1 rfl dX2_prepare_31 (fun H locs w => ?_)
    have w : Wd G A s.heap (fl [wHo G.2.1 h cu ct (hput hs cu (b, zM)), wSh G.2.1 a S, wSh G.2.1 b zM, hsL G.2.1 hs]) _ _ := w
    refine lv_aload_n F.x F.b dX2_prepare_32 rfl (lv_at hl 0 rfl) ?_
    refine lv_aload_n F.x F.b dX2_prepare_33 rfl (lv_at hl 2 rfl) ?_
    obtain ⟨P, hcp⟩ := hS zM
    refine kXv F w hst (LC := [wSh G.2.1 b zM, wSh G.2.1 a S]) (LR := [wHo G.2.1 h cu ct (hput hs cu (b, zM)), hsL G.2.1 hs]) (As := [.ref (a 0)]) (rest := []) (t_X4_copyFrom F.1 hcp).toX m_X4_copyFrom v_X4_copyFrom q621 (ci := 8) (q0 := 16) rfl rfl rfl 4 [2, 1, 0, 3] rfl rfl rfl ⟨Nat.le_of_ble_eq_true rfl, Nat.le_of_ble_eq_true rfl⟩ rfl hl.1 rfl (Nat.le_of_ble_eq_true rfl) dX2_prepare_34 ⟨Nat.le_of_ble_eq_true rfl, Nat.le_of_ble_eq_true rfl⟩ (fun _ _ _ _ _ _ hx => False.elim hx) (fun w1 H locs h9 w => ?_)
    have w := w.jn (L1 := [wSh G.2.1 b P, wSh G.2.1 a S]) (L' := [wHo G.2.1 h cu ct (hput hs cu (b, zM)), wSh G.2.1 a S, wSh G.2.1 b P, hsL G.2.1 hs]) h9 4 [2, 1, 0, 3] rfl rfl rfl
    have w := w.re (L' := [wHo G.2.1 h cu ct (hput hs cu (b, zM)), hsL G.2.1 hs, wSh G.2.1 a S, wSh G.2.1 b P]) 4 [0, 3, 1, 2] rfl rfl rfl
    have e9 : ∀ j, (hput hs cu (b, zM) j).map (fun q => q.1 0) = (hput hs cu (b, P) j).map (fun q => q.1 0) := by
      intro j
      by_cases e : j = cu <;> simp [hput, e]
    rw [wHo_same e9] at w
    have w := w.perm (p_in (E := hsL G.2.1 (hput hs cu (b, P))) (by have z := hsL_put G.2.1 hs k1 (b, P); rw [hdel_none hq] at z; exact z))
    exact evX F w hr hlocks ⟨b, P, ⟨_, hcp⟩, rfl⟩ (Nat.le_of_ble_eq_true rfl) (Nat.le_of_ble_eq_true rfl) dX2_prepare_37
  | some q0 =>
    obtain ⟨b, P0⟩ := q0
    refine lv_aload_n F.x F.b dX2_prepare_0 rfl (lv_at hl 0 rfl) ?_
    refine rg F w cl2 0 rfl 0 (by decide) q183 rfl (v := .ref (h 1)) rfl dX2_prepare_1 ?_
    refine lv_aload_n F.x F.b dX2_prepare_4 rfl (lv_at hl 0 rfl) ?_
    refine rg F w cl2 0 rfl 1 (by decide) q184 rfl (v := .int (nI cu)) rfl dX2_prepare_5 ?_
    refine rq F w 1 rfl (vp_in_nI k1 (by decide)) (v := .ref (b 0)) (by show va_rf ((hs (nI cu).toNatClampNeg).map _) = _; rw [nI_clamp (by omega), hq]; rfl) dX2_prepare_8 ?_
    refine lv_astore_n (lv' := [(2, .ref (b 0)), (0, .ref (h 0)), (1, .ref (a 0))]) F.x F.b dX2_prepare_9 rfl hl (by decide) rfl (fun ls hl => ?_)
    refine lv_aload_n F.x F.b dX2_prepare_10 rfl (lv_at hl 0 rfl) ?_
    refine lv_ifnonnull (tgt := 32) F.x F.b dX2_prepare_11 (by decide) ?_
    have w := w.perm (p_out (by have z := hsL_take G.2.1 hs k1; rw [hq] at z; exact z))
    have w : Wd G A s.heap (fl [wHo G.2.1 h cu ct hs, hsL G.2.1 (hdel hs cu), wSh G.2.1 a S, wSh G.2.1 b P0]) _ _ := w
    refine lv_aload_n F.x F.b dX2_prepare_32 rfl (lv_at hl 0 rfl) ?_
    refine lv_aload_n F.x F.b dX2_prepare_33 rfl (lv_at hl 2 rfl) ?_
    obtain ⟨P, hcp⟩ := hS P0
    have w := w.re (L' := [wHo G.2.1 h cu ct hs, wSh G.2.1 a S, wSh G.2.1 b P0, hsL G.2.1 (hdel hs cu)]) 4 [0, 2, 3, 1] rfl rfl rfl
    have w : Wd G A s.heap (fl [wHo G.2.1 h cu ct hs, wSh G.2.1 a S, wSh G.2.1 b P0, hsL G.2.1 (hdel hs cu)]) _ _ := w
    refine kXv F w hst (LC := [wSh G.2.1 b P0, wSh G.2.1 a S]) (LR := [wHo G.2.1 h cu ct hs, hsL G.2.1 (hdel hs cu)]) (As := [.ref (a 0)]) (rest := []) (t_X4_copyFrom F.1 hcp).toX m_X4_copyFrom v_X4_copyFrom q621 (ci := 8) (q0 := 16) rfl rfl rfl 4 [2, 1, 0, 3] rfl rfl rfl ⟨Nat.le_of_ble_eq_true rfl, Nat.le_of_ble_eq_true rfl⟩ rfl hl.1 rfl (Nat.le_of_ble_eq_true rfl) dX2_prepare_34 ⟨Nat.le_of_ble_eq_true rfl, Nat.le_of_ble_eq_true rfl⟩ (fun _ _ _ _ _ _ hx => False.elim hx) (fun w1 H locs h9 w => ?_)
    have w := w.jn (L1 := [wSh G.2.1 b P, wSh G.2.1 a S]) (L' := [wHo G.2.1 h cu ct hs, wSh G.2.1 a S, wSh G.2.1 b P, hsL G.2.1 (hdel hs cu)]) h9 4 [2, 1, 0, 3] rfl rfl rfl
    have w := w.re (L' := [wHo G.2.1 h cu ct hs, hsL G.2.1 (hdel hs cu), wSh G.2.1 a S, wSh G.2.1 b P]) 4 [0, 3, 1, 2] rfl rfl rfl
    have e9 : ∀ j, (hs j).map (fun q => q.1 0) = (hput hs cu (b, P) j).map (fun q => q.1 0) := by
      intro j
      by_cases e : j = cu
      · subst e; simp [hput, hq]
      · simp [hput, e]
    rw [wHo_same e9] at w
    have w := w.perm (p_in (hsL_put G.2.1 hs k1 (b, P)))
    exact evX F w hr hlocks ⟨b, P, ⟨_, hcp⟩, rfl⟩ (Nat.le_of_ble_eq_true rfl) (Nat.le_of_ble_eq_true rfl) dX2_prepare_37
set_option maxRecDepth 100000 in
set_option maxHeartbeats 4000000 in
theorem t_X2_takeBack {G : cG} (g : GOK G) {h : Nat → Nat} {cu ct : Nat} {hs : hS} {a b : Nat → Nat} {S P S' : Mem} (k1 : cu < 9) (hq : hs cu = some (b, P)) (hcp : f_X4_copyFrom S P = some S') : CXv G yX2_takeBack cX2_takeBack 3 3 66 0 0 [.ref (h 0), .ref (a 0)] (fl [wHo G.2.1 h cu ct hs, hsL G.2.1 hs, wSh G.2.1 a S]) (fun w1 => w1 = fl [wHo G.2.1 h cu ct hs, hsL G.2.1 hs, wSh G.2.1 a S']) (fun _ _ => False) := by
  refine CXv.of g (by decide) rfl (Nat.le_of_ble_eq_true rfl) ?_
  intro p l e s m below meth c A ls hst htab F hr hlocks w hl
  generalize ([.ref (h 0), .ref (a 0)] : List Value).toArray = args
  have hl : lv_has ls 3 [(0, .ref (h 0)), (1, .ref (a 0))] := hl
  have w : Wd G A s.heap (fl [wHo G.2.1 h cu ct hs, hsL G.2.1 hs, wSh G.2.1 a S]) _ _ := w
  refine lv_aload_n F.x F.b dX2_takeBack_0 rfl (lv_at hl 0 rfl) ?_
  refine rg F w cl2 0 rfl 0 (by decide) q183 rfl (v := .ref (h 1)) rfl dX2_takeBack_1 ?_
  refine lv_aload_n F.x F.b dX2_takeBack_4 rfl (lv_at hl 0 rfl) ?_
  refine rg F w cl2 0 rfl 1 (by decide) q184 rfl (v := .int (nI cu)) rfl dX2_takeBack_5 ?_
  refine rq F w 1 rfl (vp_in_nI k1 (by decide)) (v := .ref (b 0)) (by show va_rf ((hs (nI cu).toNatClampNeg).map _) = _; rw [nI_clamp (by omega), hq]; rfl) dX2_takeBack_8 ?_
  refine lv_astore_n (lv' := [(2, .ref (b 0)), (0, .ref (h 0)), (1, .ref (a 0))]) F.x F.b dX2_takeBack_9 rfl hl (by decide) rfl (fun ls hl => ?_)
  refine lv_aload_n F.x F.b dX2_takeBack_10 rfl (lv_at hl 0 rfl) ?_
  refine lv_ifnull F.x F.b dX2_takeBack_11 ?_
  have w := w.perm (p_out (by have z := hsL_take G.2.1 hs k1; rw [hq] at z; exact z))
  have w := w.re (L' := [wHo G.2.1 h cu ct hs, wSh G.2.1 a S, wSh G.2.1 b P, hsL G.2.1 (hdel hs cu)]) 4 [0, 2, 3, 1] rfl rfl rfl
  have w : Wd G A s.heap (fl [wHo G.2.1 h cu ct hs, wSh G.2.1 a S, wSh G.2.1 b P, hsL G.2.1 (hdel hs cu)]) _ _ := w
  refine lv_aload_n F.x F.b dX2_takeBack_14 rfl (lv_at hl 2 rfl) ?_
  refine lv_aload_n F.x F.b dX2_takeBack_15 rfl (lv_at hl 0 rfl) ?_
  refine kXv F w hst (LC := [wSh G.2.1 a S, wSh G.2.1 b P]) (LR := [wHo G.2.1 h cu ct hs, hsL G.2.1 (hdel hs cu)]) (As := [.ref (b 0)]) (rest := []) (t_X4_copyFrom F.1 hcp).toX m_X4_copyFrom v_X4_copyFrom q621 (ci := 8) (q0 := 2) rfl rfl rfl 4 [1, 2, 0, 3] rfl rfl rfl ⟨Nat.le_of_ble_eq_true rfl, Nat.le_of_ble_eq_true rfl⟩ rfl hl.1 rfl (Nat.le_of_ble_eq_true rfl) dX2_takeBack_16 ⟨Nat.le_of_ble_eq_true rfl, Nat.le_of_ble_eq_true rfl⟩ (fun _ _ _ _ _ _ hx => False.elim hx) (fun w1 H locs h9 w => ?_)
  have w := w.jn (L1 := [wSh G.2.1 a S', wSh G.2.1 b P]) (L' := [wHo G.2.1 h cu ct hs, wSh G.2.1 a S', wSh G.2.1 b P, hsL G.2.1 (hdel hs cu)]) h9 4 [2, 0, 1, 3] rfl rfl rfl
  have w := w.re (L' := [wHo G.2.1 h cu ct hs, hsL G.2.1 (hdel hs cu), wSh G.2.1 a S', wSh G.2.1 b P]) 4 [0, 3, 1, 2] rfl rfl rfl
  have w := w.perm (p_in (E := hsL G.2.1 hs) (by have z := hsL_take G.2.1 hs k1; rw [hq] at z; exact z))
  exact evX F w hr hlocks rfl (Nat.le_of_ble_eq_true rfl) (Nat.le_of_ble_eq_true rfl) dX2_takeBack_19
set_option maxRecDepth 100000 in
set_option maxHeartbeats 4000000 in
theorem t_X2_undoLatest {G : cG} (g : GOK G) {h : Nat → Nat} {cu ct : Nat} {hs : hS} {a b : Nat → Nat} {S P S' : Mem} (k1 : cu < 9) (k2 : ct ≤ 8) (k3 : ct ≠ 0) (hq : hs (prv cu) = some (b, P)) (hcp : f_X4_copyFrom S P = some S') : CXv G yX2_undoLatest cX2_undoLatest 2 4 88 0 0 [.ref (h 0), .ref (a 0)] (fl [wHo G.2.1 h cu ct hs, hsL G.2.1 hs, wSh G.2.1 a S]) (fun w1 => w1 = fl [wHo G.2.1 h (prv cu) (ct - 1) hs, hsL G.2.1 hs, wSh G.2.1 a S']) (fun _ _ => False) := by
  refine CXv.of g (by decide) rfl (Nat.le_of_ble_eq_true rfl) ?_
  intro p l e s m below meth c A ls hst htab F hr hlocks w hl
  generalize ([.ref (h 0), .ref (a 0)] : List Value).toArray = args
  have hl : lv_has ls 2 [(0, .ref (h 0)), (1, .ref (a 0))] := hl
  have w : Wd G A s.heap (fl [wHo G.2.1 h cu ct hs, hsL G.2.1 hs, wSh G.2.1 a S]) _ _ := w
  by_cases e1 : cu = 0
  · refine lv_aload_n F.x F.b dX2_undoLatest_0 rfl (lv_at hl 0 rfl) ?_
    refine lv_aload_n F.x F.b dX2_undoLatest_1 rfl (lv_at hl 0 rfl) ?_
    refine rg F w cl2 0 rfl 1 (by decide) q184 rfl (v := .int (nI cu)) rfl dX2_undoLatest_2 ?_
    refine lv_if_gt (tgt := 13) F.x F.b dX2_undoLatest_5 (by decide) (fun c9 => absurd c9 (show ¬ (0 : Int32) < nI cu from by rw [e1]; decide)) (fun _ => ?_)
    refine lv_bipush (v := 8) F.x F.b dX2_undoLatest_8 (by decide) ?_
    refine lv_goto (tgt := 19) F.x F.b dX2_undoLatest_10 (by decide) ?_
    refine rp F w (ws' := fl [[(h 0, .inr (6, [.ref (h 1), .int 8, .int (nI ct)])), (h 1, .inl (G.2.1 6, 9, .inr (.inr (.inr (.inr (fun i => (hs i).map (fun q => q.1 0)))))))], hsL G.2.1 hs, wSh G.2.1 a S]) cl2 0 rfl 1 (by decide) q184 rfl rfl rfl rfl (Nat.le_of_ble_eq_true rfl) rfl dX2_undoLatest_19 (fun H locs w => ?_)
    refine lv_aload_n F.x F.b dX2_undoLatest_22 rfl (lv_at hl 0 rfl) ?_
    refine lv_dup F.x F.b dX2_undoLatest_23 rfl ?_
    refine rg F w cl2 0 rfl 2 (by decide) q185 rfl (v := .int (nI ct)) rfl dX2_undoLatest_24 ?_
    refine lv_iconst (v := 1) F.x F.b dX2_undoLatest_27 (by decide) ?_
    refine lv_isub F.x F.b dX2_undoLatest_28 ?_
    refine rp F w (ws' := fl [[(h 0, .inr (6, [.ref (h 1), .int 8, .int ((nI ct) - 1)])), (h 1, .inl (G.2.1 6, 9, .inr (.inr (.inr (.inr (fun i => (hs i).map (fun q => q.1 0)))))))], hsL G.2.1 hs, wSh G.2.1 a S]) cl2 0 rfl 2 (by decide) q185 rfl rfl rfl rfl (Nat.le_of_ble_eq_true rfl) rfl dX2_undoLatest_29 (fun H locs w => ?_)
    refine lv_aload_n F.x F.b dX2_undoLatest_32 rfl (lv_at hl 0 rfl) ?_
    refine lv_aload_n F.x F.b dX2_undoLatest_33 rfl (lv_at hl 1 rfl) ?_
    have w : Wd G A s.heap (fl [wHo G.2.1 h (prv cu) (ct - 1) hs, hsL G.2.1 hs, wSh G.2.1 a S]) H locs := by
      have z1 : nI (ct - 1) = nI ct - 1 := by rw [show (1 : Int32) = nI 1 from rfl, pk_sub (by omega)]
      have z2 : nI (prv cu) = 8 := by rw [prv, if_pos e1]; rfl
      unfold wHo; rw [z1, z2]; exact w
    refine kXv F w hst (LC := [wHo G.2.1 h (prv cu) (ct - 1) hs, hsL G.2.1 hs, wSh G.2.1 a S]) (LR := []) (As := [.ref (a 0)]) (rest := []) (t_X2_takeBack F.1 (by unfold prv; split <;> omega) hq hcp) m_X2_takeBack v_X2_takeBack q1497 (ci := 6) (q0 := 0) rfl rfl rfl 3 [0, 1, 2] rfl rfl rfl ⟨Nat.le_of_ble_eq_true rfl, Nat.le_of_ble_eq_true rfl⟩ rfl hl.1 rfl (Nat.le_of_ble_eq_true rfl) dX2_undoLatest_34 ⟨Nat.le_of_ble_eq_true rfl, Nat.le_of_ble_eq_true rfl⟩ (fun _ _ _ _ _ _ hx => False.elim hx) (fun w1 H locs h9 w => ?_)
    have w := w.jn (L1 := [wHo G.2.1 h (prv cu) (ct - 1) hs, hsL G.2.1 hs, wSh G.2.1 a S']) (L' := [wHo G.2.1 h (prv cu) (ct - 1) hs, hsL G.2.1 hs, wSh G.2.1 a S']) h9 3 [0, 1, 2] rfl rfl rfl
    exact evX F w hr hlocks rfl (Nat.le_of_ble_eq_true rfl) (Nat.le_of_ble_eq_true rfl) dX2_undoLatest_37
  · refine lv_aload_n F.x F.b dX2_undoLatest_0 rfl (lv_at hl 0 rfl) ?_
    refine lv_aload_n F.x F.b dX2_undoLatest_1 rfl (lv_at hl 0 rfl) ?_
    refine rg F w cl2 0 rfl 1 (by decide) q184 rfl (v := .int (nI cu)) rfl dX2_undoLatest_2 ?_
    refine lv_if_gt (tgt := 13) F.x F.b dX2_undoLatest_5 (by decide) (fun _ => ?_) (fun c9 => absurd (Int32.not_le.mp (nI_nle (n := cu) (by omega) (by omega))) c9)
    refine lv_aload_n F.x F.b dX2_undoLatest_13 rfl (lv_at hl 0 rfl) ?_
    refine rg F w cl2 0 rfl 1 (by decide) q184 rfl (v := .int (nI cu)) rfl dX2_undoLatest_14 ?_
    refine lv_iconst (v := 1) F.x F.b dX2_undoLatest_17 (by decide) ?_
    refine lv_isub F.x F.b dX2_undoLatest_18 ?_
    refine rp F w (ws' := fl [[(h 0, .inr (6, [.ref (h 1), .int ((nI cu) - 1), .int (nI ct)])), (h 1, .inl (G.2.1 6, 9, .inr (.inr (.inr (.inr (fun i => (hs i).map (fun q => q.1 0)))))))], hsL G.2.1 hs, wSh G.2.1 a S]) cl2 0 rfl 1 (by decide) q184 rfl rfl rfl rfl (Nat.le_of_ble_eq_true rfl) rfl dX2_undoLatest_19 (fun H locs w => ?_)
    refine lv_aload_n F.x F.b dX2_undoLatest_22 rfl (lv_at hl 0 rfl) ?_
    refine lv_dup F.x F.b dX2_undoLatest_23 rfl ?_
    refine rg F w cl2 0 rfl 2 (by decide) q185 rfl (v := .int (nI ct)) rfl dX2_undoLatest_24 ?_
    refine lv_iconst (v := 1) F.x F.b dX2_undoLatest_27 (by decide) ?_
    refine lv_isub F.x F.b dX2_undoLatest_28 ?_
    refine rp F w (ws' := fl [[(h 0, .inr (6, [.ref (h 1), .int ((nI cu) - 1), .int ((nI ct) - 1)])), (h 1, .inl (G.2.1 6, 9, .inr (.inr (.inr (.inr (fun i => (hs i).map (fun q => q.1 0)))))))], hsL G.2.1 hs, wSh G.2.1 a S]) cl2 0 rfl 2 (by decide) q185 rfl rfl rfl rfl (Nat.le_of_ble_eq_true rfl) rfl dX2_undoLatest_29 (fun H locs w => ?_)
    refine lv_aload_n F.x F.b dX2_undoLatest_32 rfl (lv_at hl 0 rfl) ?_
    refine lv_aload_n F.x F.b dX2_undoLatest_33 rfl (lv_at hl 1 rfl) ?_
    have w : Wd G A s.heap (fl [wHo G.2.1 h (prv cu) (ct - 1) hs, hsL G.2.1 hs, wSh G.2.1 a S]) H locs := by
      have z1 : nI (ct - 1) = nI ct - 1 := by rw [show (1 : Int32) = nI 1 from rfl, pk_sub (by omega)]
      have z2 : nI (prv cu) = nI cu - 1 := by rw [prv, if_neg e1, show (1 : Int32) = nI 1 from rfl, pk_sub (by omega)]
      unfold wHo; rw [z1, z2]; exact w
    refine kXv F w hst (LC := [wHo G.2.1 h (prv cu) (ct - 1) hs, hsL G.2.1 hs, wSh G.2.1 a S]) (LR := []) (As := [.ref (a 0)]) (rest := []) (t_X2_takeBack F.1 (by unfold prv; split <;> omega) hq hcp) m_X2_takeBack v_X2_takeBack q1497 (ci := 6) (q0 := 0) rfl rfl rfl 3 [0, 1, 2] rfl rfl rfl ⟨Nat.le_of_ble_eq_true rfl, Nat.le_of_ble_eq_true rfl⟩ rfl hl.1 rfl (Nat.le_of_ble_eq_true rfl) dX2_undoLatest_34 ⟨Nat.le_of_ble_eq_true rfl, Nat.le_of_ble_eq_true rfl⟩ (fun _ _ _ _ _ _ hx => False.elim hx) (fun w1 H locs h9 w => ?_)
    have w := w.jn (L1 := [wHo G.2.1 h (prv cu) (ct - 1) hs, hsL G.2.1 hs, wSh G.2.1 a S']) (L' := [wHo G.2.1 h (prv cu) (ct - 1) hs, hsL G.2.1 hs, wSh G.2.1 a S']) h9 3 [0, 1, 2] rfl rfl rfl
    exact evX F w hr hlocks rfl (Nat.le_of_ble_eq_true rfl) (Nat.le_of_ble_eq_true rfl) dX2_undoLatest_37

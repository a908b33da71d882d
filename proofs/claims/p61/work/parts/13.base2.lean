/-! .. more of the ground: calls over the caller's whole world, ends, narrow values, switches -/
theorem sm2 {α β : Type} {a c : α} {b d : β} (h : (a, b) = (c, d)) : a = c ∧ b = d := by cases h; exact ⟨rfl, rfl⟩
theorem sm3 {α β γ : Type} {a c : α} {b d : β} {e f : γ} (h : (a, b, e) = (c, d, f)) : a = c ∧ b = d ∧ e = f := by cases h; exact ⟨rfl, rfl, rfl⟩
theorem sw_out {x : Int32} (lo hi : Int) (h : ∀ j : Int, lo ≤ j → j ≤ hi → ¬ x.toInt = j) : x.toInt < lo ∨ hi < x.toInt := by
  by_cases h1 : x.toInt < lo
  · exact Or.inl h1
  · by_cases h2 : hi < x.toInt
    · exact Or.inr h2
    · exact absurd rfl (h x.toInt (by omega) (by omega))
theorem sw_ne {x k : Int32} {j : Int} (h : ¬ x = k) (hk : k.toInt = j) : ¬ x.toInt = j := fun q => h (Int32.toInt_inj.mp (by rw [hk]; exact q))
theorem nar_char {v : Int32} (h : vp_nar .char v = v) : narrow .char (.int v) = .int v := by
  have h1 : narrow .char (.int v) = .int (vp_nar .char v) := rfl
  rw [h1, h]
theorem nar_boolean {v : Int32} (h : vp_nar .boolean v = v) : narrow .boolean (.int v) = .int v := by
  have h1 : narrow .boolean (.int v) = .int (vp_nar .boolean v) := rfl
  rw [h1, h]
theorem fit_char {v : Int32} (h : vp_nar .char v = v) : fits .char (.int v) = true := by
  rw [← h, vp_nar_char]
  have := pk_fc v
  first | exact this | simpa using this
theorem range_map (ws : va_W) : (List.range ws.length).map (fun i => ws[i]?) = ws.map some := by
  apply List.ext_getElem
  · simp
  · intro i h1 h2
    simp
theorem range_nd (n : Nat) : va_nd (List.range n) = true := by
  have h : ∀ l : List Nat, l.Nodup → va_nd l = true := by
    intro l
    induction l with
    | nil => intro _; rfl
    | cons a t ih =>
      intro hn
      obtain ⟨h1, h2⟩ := List.nodup_cons.mp hn
      simp [va_nd, ih h2, h1]
  exact h _ List.nodup_range
section BASE2
variable {G : cG} {p : Program} {l : Launch} {e : Env} {R : Room} {s : State} {m : MethodId} {args : Array Value} {below : List Frame} {meth : Method} {c : Code} {H : Heap} {locs : List Loc} {cells slots : Nat} {Q : State → Prop} {cc : ByteArray} {nL : Nat} {own : String} {A : Nat → Prop} {ws : va_W} {pc : Nat} {ls : Array Slot} {rest : List Value}
/-- CALL over the whole world, int answer -/
theorem kVi0 (F : Fx G p s m c cc nL own A) (w : Wd G A s.heap ws H locs) {y : MethodName} {b : ByteArray} {n k idx fr lo o ci q0 : Nat} {ret : FieldType} {As : List Value} {w1 : va_W} {r : Int32} {fs : List Value} {qc : vw_C}
    (hc : CI G y b n ret fr lo (.ref o :: As) ws w1 r) (Y : YM y b n (some ret) k) (V : YV y) (hl : Cond.methodLink own idx y ∈ lw_tbl)
    (he : ws[q0]? = some (o, .inr (ci, fs))) (hq : vwCl[ci]? = some qc) (hqc : qc.1 = y.cls)
    (hRm : fr + 1 ≤ R.frames ∧ 8 + (n + 11) + lo ≤ R.locals) (hlen : As.length = k) (hls : ls.size = nL) {st0 : List Value} (hst : st0 = As.reverse ++ .ref o :: rest) (hrm : (rest.map fun v => v.category).sum ≤ 8) (hdg : decode cc pc = .ok (.invokevirtual idx, 3)) (hf : cells ≤ R.cells ∧ slots ≤ R.slots)
    (kk : ∀ (H1 : Heap) (locs1 : List Loc), Wd G A s.heap w1 H1 locs1 → W p l e R s m args below meth c H1 locs1 cells slots Q (F0 m (pc + 3) ls (.int r :: rest))) : W p l e R s m args below meth c H locs cells slots Q (F0 m pc ls st0) :=
  kVi F w (wr := []) (ws' := w1) hc Y V hl he hq hqc (List.range ws.length) [] (List.range w1.length) (range_nd _) (range_map ws) rfl rfl (fun i h => nomatch h) (range_map w1) (range_nd _) hRm hlen hls hst hrm hdg hf kk
/-- .. no answer -/
theorem kVv0 (F : Fx G p s m c cc nL own A) (w : Wd G A s.heap ws H locs) {y : MethodName} {b : ByteArray} {n k idx fr lo o ci q0 : Nat} {As : List Value} {w1 : va_W} {fs : List Value} {qc : vw_C}
    (hc : CV G y b n fr lo (.ref o :: As) ws w1) (Y : YM y b n none k) (V : YV y) (hl : Cond.methodLink own idx y ∈ lw_tbl)
    (he : ws[q0]? = some (o, .inr (ci, fs))) (hq : vwCl[ci]? = some qc) (hqc : qc.1 = y.cls)
    (hRm : fr + 1 ≤ R.frames ∧ 8 + (n + 11) + lo ≤ R.locals) (hlen : As.length = k) (hls : ls.size = nL) {st0 : List Value} (hst : st0 = As.reverse ++ .ref o :: rest) (hrm : (rest.map fun v => v.category).sum ≤ 8) (hdg : decode cc pc = .ok (.invokevirtual idx, 3)) (hf : cells ≤ R.cells ∧ slots ≤ R.slots)
    (kk : ∀ (H1 : Heap) (locs1 : List Loc), Wd G A s.heap w1 H1 locs1 → W p l e R s m args below meth c H1 locs1 cells slots Q (F0 m (pc + 3) ls rest)) : W p l e R s m args below meth c H locs cells slots Q (F0 m pc ls st0) :=
  kVv F w (wr := []) (ws' := w1) hc Y V hl he hq hqc (List.range ws.length) [] (List.range w1.length) (range_nd _) (range_map ws) rfl rfl (fun i h => nomatch h) (range_map w1) (range_nd _) hRm hlen hls hst hrm hdg hf kk
end BASE2

/-! printed by wip/p61/tools/emit.py: the worlds of the groups, words of the tables by their places, facts of methods -/
def wSh (T : Nat → ClassId) (a : Nat → Nat) (S : Mem) : va_W := [(a 0, .inr (8, [.ref (a 1), .ref (a 9), .ref (a 12), .int (S.1 3), .int (S.1 4), .int (S.1 5), .int (S.1 6)])), (a 1, .inr (7, [.ref (a 2), .ref (a 3), .ref (a 4), .ref (a 5), .ref (a 6), .ref (a 7), .ref (a 8), .int (S.1 0), .int (S.1 1)])), (a 2, .inl (T 0, 16, .inl (S.2 0))), (a 3, .inl (T 1, 16, .inl (S.2 1))), (a 4, .inl (T 0, 16, .inl (S.2 2))), (a 5, .inl (T 0, 16, .inl (S.2 3))), (a 6, .inl (T 0, 16, .inl (S.2 4))), (a 7, .inl (T 2, 16, .inl (S.2 5))), (a 8, .inl (T 2, 16, .inl (S.2 6))), (a 9, .inr (9, [.ref (a 10), .ref (a 11), .int (S.1 2)])), (a 10, .inl (T 0, 6, .inl (S.2 7))), (a 11, .inl (T 0, 6, .inl (S.2 8))), (a 12, .inr (4, [.ref (a 13), .int (S.1 7)])), (a 13, .inl (T 0, 16, .inl (S.2 9)))]
theorem at_Sh_0 (T : Nat → ClassId) (a : Nat → Nat) (S : Mem) : (wSh T a S)[0]? = some (a 0, .inr (8, [.ref (a 1), .ref (a 9), .ref (a 12), .int (S.1 3), .int (S.1 4), .int (S.1 5), .int (S.1 6)])) := rfl
theorem pt_Sh_0_3 (T : Nat → ClassId) (a : Nat → Nat) (S : Mem) (v : Int32) : (wSh T a S).set 0 (a 0, .inr (8, List.set [.ref (a 1), .ref (a 9), .ref (a 12), .int (S.1 3), .int (S.1 4), .int (S.1 5), .int (S.1 6)] 3 (.int v))) = wSh T a (wrI S 3 v) := rfl
theorem pt_Sh_0_4 (T : Nat → ClassId) (a : Nat → Nat) (S : Mem) (v : Int32) : (wSh T a S).set 0 (a 0, .inr (8, List.set [.ref (a 1), .ref (a 9), .ref (a 12), .int (S.1 3), .int (S.1 4), .int (S.1 5), .int (S.1 6)] 4 (.int v))) = wSh T a (wrI S 4 v) := rfl
theorem pt_Sh_0_5 (T : Nat → ClassId) (a : Nat → Nat) (S : Mem) (v : Int32) : (wSh T a S).set 0 (a 0, .inr (8, List.set [.ref (a 1), .ref (a 9), .ref (a 12), .int (S.1 3), .int (S.1 4), .int (S.1 5), .int (S.1 6)] 5 (.int v))) = wSh T a (wrI S 5 v) := rfl
theorem pt_Sh_0_6 (T : Nat → ClassId) (a : Nat → Nat) (S : Mem) (v : Int32) : (wSh T a S).set 0 (a 0, .inr (8, List.set [.ref (a 1), .ref (a 9), .ref (a 12), .int (S.1 3), .int (S.1 4), .int (S.1 5), .int (S.1 6)] 6 (.int v))) = wSh T a (wrI S 6 v) := rfl
theorem at_Sh_1 (T : Nat → ClassId) (a : Nat → Nat) (S : Mem) : (wSh T a S)[1]? = some (a 1, .inr (7, [.ref (a 2), .ref (a 3), .ref (a 4), .ref (a 5), .ref (a 6), .ref (a 7), .ref (a 8), .int (S.1 0), .int (S.1 1)])) := rfl
theorem pt_Sh_1_7 (T : Nat → ClassId) (a : Nat → Nat) (S : Mem) (v : Int32) : (wSh T a S).set 1 (a 1, .inr (7, List.set [.ref (a 2), .ref (a 3), .ref (a 4), .ref (a 5), .ref (a 6), .ref (a 7), .ref (a 8), .int (S.1 0), .int (S.1 1)] 7 (.int v))) = wSh T a (wrI S 0 v) := rfl
theorem pt_Sh_1_8 (T : Nat → ClassId) (a : Nat → Nat) (S : Mem) (v : Int32) : (wSh T a S).set 1 (a 1, .inr (7, List.set [.ref (a 2), .ref (a 3), .ref (a 4), .ref (a 5), .ref (a 6), .ref (a 7), .ref (a 8), .int (S.1 0), .int (S.1 1)] 8 (.int v))) = wSh T a (wrI S 1 v) := rfl
theorem at_Sh_2 (T : Nat → ClassId) (a : Nat → Nat) (S : Mem) : (wSh T a S)[2]? = some (a 2, .inl (T 0, 16, .inl (S.2 0))) := rfl
theorem st_Sh_2 (T : Nat → ClassId) (a : Nat → Nat) (S : Mem) (i v : Int32) : (wSh T a S).set 2 (a 2, .inl (T 0, 16, .inl (upd (S.2 0) i.toNatClampNeg v))) = wSh T a (wrA S 0 i v) := rfl
theorem at_Sh_3 (T : Nat → ClassId) (a : Nat → Nat) (S : Mem) : (wSh T a S)[3]? = some (a 3, .inl (T 1, 16, .inl (S.2 1))) := rfl
theorem st_Sh_3 (T : Nat → ClassId) (a : Nat → Nat) (S : Mem) (i v : Int32) : (wSh T a S).set 3 (a 3, .inl (T 1, 16, .inl (upd (S.2 1) i.toNatClampNeg (vp_nar .char v)))) = wSh T a (wrA S 1 i (vp_nar .char v)) := rfl
theorem at_Sh_4 (T : Nat → ClassId) (a : Nat → Nat) (S : Mem) : (wSh T a S)[4]? = some (a 4, .inl (T 0, 16, .inl (S.2 2))) := rfl
theorem st_Sh_4 (T : Nat → ClassId) (a : Nat → Nat) (S : Mem) (i v : Int32) : (wSh T a S).set 4 (a 4, .inl (T 0, 16, .inl (upd (S.2 2) i.toNatClampNeg v))) = wSh T a (wrA S 2 i v) := rfl
theorem at_Sh_5 (T : Nat → ClassId) (a : Nat → Nat) (S : Mem) : (wSh T a S)[5]? = some (a 5, .inl (T 0, 16, .inl (S.2 3))) := rfl
theorem st_Sh_5 (T : Nat → ClassId) (a : Nat → Nat) (S : Mem) (i v : Int32) : (wSh T a S).set 5 (a 5, .inl (T 0, 16, .inl (upd (S.2 3) i.toNatClampNeg v))) = wSh T a (wrA S 3 i v) := rfl
theorem at_Sh_6 (T : Nat → ClassId) (a : Nat → Nat) (S : Mem) : (wSh T a S)[6]? = some (a 6, .inl (T 0, 16, .inl (S.2 4))) := rfl
theorem st_Sh_6 (T : Nat → ClassId) (a : Nat → Nat) (S : Mem) (i v : Int32) : (wSh T a S).set 6 (a 6, .inl (T 0, 16, .inl (upd (S.2 4) i.toNatClampNeg v))) = wSh T a (wrA S 4 i v) := rfl
theorem at_Sh_7 (T : Nat → ClassId) (a : Nat → Nat) (S : Mem) : (wSh T a S)[7]? = some (a 7, .inl (T 2, 16, .inl (S.2 5))) := rfl
theorem st_Sh_7 (T : Nat → ClassId) (a : Nat → Nat) (S : Mem) (i v : Int32) : (wSh T a S).set 7 (a 7, .inl (T 2, 16, .inl (upd (S.2 5) i.toNatClampNeg (vp_nar .boolean v)))) = wSh T a (wrA S 5 i (vp_nar .boolean v)) := rfl
theorem at_Sh_8 (T : Nat → ClassId) (a : Nat → Nat) (S : Mem) : (wSh T a S)[8]? = some (a 8, .inl (T 2, 16, .inl (S.2 6))) := rfl
theorem st_Sh_8 (T : Nat → ClassId) (a : Nat → Nat) (S : Mem) (i v : Int32) : (wSh T a S).set 8 (a 8, .inl (T 2, 16, .inl (upd (S.2 6) i.toNatClampNeg (vp_nar .boolean v)))) = wSh T a (wrA S 6 i (vp_nar .boolean v)) := rfl
theorem at_Sh_9 (T : Nat → ClassId) (a : Nat → Nat) (S : Mem) : (wSh T a S)[9]? = some (a 9, .inr (9, [.ref (a 10), .ref (a 11), .int (S.1 2)])) := rfl
theorem pt_Sh_9_2 (T : Nat → ClassId) (a : Nat → Nat) (S : Mem) (v : Int32) : (wSh T a S).set 9 (a 9, .inr (9, List.set [.ref (a 10), .ref (a 11), .int (S.1 2)] 2 (.int v))) = wSh T a (wrI S 2 v) := rfl
theorem at_Sh_10 (T : Nat → ClassId) (a : Nat → Nat) (S : Mem) : (wSh T a S)[10]? = some (a 10, .inl (T 0, 6, .inl (S.2 7))) := rfl
theorem st_Sh_10 (T : Nat → ClassId) (a : Nat → Nat) (S : Mem) (i v : Int32) : (wSh T a S).set 10 (a 10, .inl (T 0, 6, .inl (upd (S.2 7) i.toNatClampNeg v))) = wSh T a (wrA S 7 i v) := rfl
theorem at_Sh_11 (T : Nat → ClassId) (a : Nat → Nat) (S : Mem) : (wSh T a S)[11]? = some (a 11, .inl (T 0, 6, .inl (S.2 8))) := rfl
theorem st_Sh_11 (T : Nat → ClassId) (a : Nat → Nat) (S : Mem) (i v : Int32) : (wSh T a S).set 11 (a 11, .inl (T 0, 6, .inl (upd (S.2 8) i.toNatClampNeg v))) = wSh T a (wrA S 8 i v) := rfl
theorem at_Sh_12 (T : Nat → ClassId) (a : Nat → Nat) (S : Mem) : (wSh T a S)[12]? = some (a 12, .inr (4, [.ref (a 13), .int (S.1 7)])) := rfl
theorem pt_Sh_12_1 (T : Nat → ClassId) (a : Nat → Nat) (S : Mem) (v : Int32) : (wSh T a S).set 12 (a 12, .inr (4, List.set [.ref (a 13), .int (S.1 7)] 1 (.int v))) = wSh T a (wrI S 7 v) := rfl
theorem at_Sh_13 (T : Nat → ClassId) (a : Nat → Nat) (S : Mem) : (wSh T a S)[13]? = some (a 13, .inl (T 0, 16, .inl (S.2 9))) := rfl
theorem st_Sh_13 (T : Nat → ClassId) (a : Nat → Nat) (S : Mem) (i v : Int32) : (wSh T a S).set 13 (a 13, .inl (T 0, 16, .inl (upd (S.2 9) i.toNatClampNeg v))) = wSh T a (wrA S 9 i v) := rfl
def wTe (T : Nat → ClassId) (a : Nat → Nat) (S : Mem) : va_W := [(a 0, .inr (5, [.ref (a 1), .ref (a 2), .int (S.1 0), .int (S.1 1), .int (S.1 2), .int (S.1 3), .int (S.1 4)])), (a 1, .inl (T 1, 60, .inl (S.2 0))), (a 2, .inl (T 0, 3, .inl (S.2 1)))]
theorem at_Te_0 (T : Nat → ClassId) (a : Nat → Nat) (S : Mem) : (wTe T a S)[0]? = some (a 0, .inr (5, [.ref (a 1), .ref (a 2), .int (S.1 0), .int (S.1 1), .int (S.1 2), .int (S.1 3), .int (S.1 4)])) := rfl
theorem pt_Te_0_2 (T : Nat → ClassId) (a : Nat → Nat) (S : Mem) (v : Int32) : (wTe T a S).set 0 (a 0, .inr (5, List.set [.ref (a 1), .ref (a 2), .int (S.1 0), .int (S.1 1), .int (S.1 2), .int (S.1 3), .int (S.1 4)] 2 (.int v))) = wTe T a (wrI S 0 v) := rfl
theorem pt_Te_0_3 (T : Nat → ClassId) (a : Nat → Nat) (S : Mem) (v : Int32) : (wTe T a S).set 0 (a 0, .inr (5, List.set [.ref (a 1), .ref (a 2), .int (S.1 0), .int (S.1 1), .int (S.1 2), .int (S.1 3), .int (S.1 4)] 3 (.int v))) = wTe T a (wrI S 1 v) := rfl
theorem pt_Te_0_4 (T : Nat → ClassId) (a : Nat → Nat) (S : Mem) (v : Int32) : (wTe T a S).set 0 (a 0, .inr (5, List.set [.ref (a 1), .ref (a 2), .int (S.1 0), .int (S.1 1), .int (S.1 2), .int (S.1 3), .int (S.1 4)] 4 (.int v))) = wTe T a (wrI S 2 v) := rfl
theorem pt_Te_0_5 (T : Nat → ClassId) (a : Nat → Nat) (S : Mem) (v : Int32) : (wTe T a S).set 0 (a 0, .inr (5, List.set [.ref (a 1), .ref (a 2), .int (S.1 0), .int (S.1 1), .int (S.1 2), .int (S.1 3), .int (S.1 4)] 5 (.int v))) = wTe T a (wrI S 3 v) := rfl
theorem pt_Te_0_6 (T : Nat → ClassId) (a : Nat → Nat) (S : Mem) (v : Int32) : (wTe T a S).set 0 (a 0, .inr (5, List.set [.ref (a 1), .ref (a 2), .int (S.1 0), .int (S.1 1), .int (S.1 2), .int (S.1 3), .int (S.1 4)] 6 (.int v))) = wTe T a (wrI S 4 v) := rfl
theorem at_Te_1 (T : Nat → ClassId) (a : Nat → Nat) (S : Mem) : (wTe T a S)[1]? = some (a 1, .inl (T 1, 60, .inl (S.2 0))) := rfl
theorem st_Te_1 (T : Nat → ClassId) (a : Nat → Nat) (S : Mem) (i v : Int32) : (wTe T a S).set 1 (a 1, .inl (T 1, 60, .inl (upd (S.2 0) i.toNatClampNeg (vp_nar .char v)))) = wTe T a (wrA S 0 i (vp_nar .char v)) := rfl
theorem at_Te_2 (T : Nat → ClassId) (a : Nat → Nat) (S : Mem) : (wTe T a S)[2]? = some (a 2, .inl (T 0, 3, .inl (S.2 1))) := rfl
theorem st_Te_2 (T : Nat → ClassId) (a : Nat → Nat) (S : Mem) (i v : Int32) : (wTe T a S).set 2 (a 2, .inl (T 0, 3, .inl (upd (S.2 1) i.toNatClampNeg v))) = wTe T a (wrA S 1 i v) := rfl
def wAd (T : Nat → ClassId) (a : Nat → Nat) (S : Mem) : va_W := [(a 0, .inl (T 0, 16, .inl (S.2 0)))]
theorem at_Ad_0 (T : Nat → ClassId) (a : Nat → Nat) (S : Mem) : (wAd T a S)[0]? = some (a 0, .inl (T 0, 16, .inl (S.2 0))) := rfl
theorem st_Ad_0 (T : Nat → ClassId) (a : Nat → Nat) (S : Mem) (i v : Int32) : (wAd T a S).set 0 (a 0, .inl (T 0, 16, .inl (upd (S.2 0) i.toNatClampNeg v))) = wAd T a (wrA S 0 i v) := rfl
def wAb (T : Nat → ClassId) (a : Nat → Nat) (S : Mem) : va_W := [(a 0, .inl (T 0, 24, .inl (S.2 0)))]
theorem at_Ab_0 (T : Nat → ClassId) (a : Nat → Nat) (S : Mem) : (wAb T a S)[0]? = some (a 0, .inl (T 0, 24, .inl (S.2 0))) := rfl
theorem st_Ab_0 (T : Nat → ClassId) (a : Nat → Nat) (S : Mem) (i v : Int32) : (wAb T a S).set 0 (a 0, .inl (T 0, 24, .inl (upd (S.2 0) i.toNatClampNeg v))) = wAb T a (wrA S 0 i v) := rfl
def wMo (T : Nat → ClassId) (a : Nat → Nat) (S : Mem) : va_W := [(a 0, .inr (11, [.int (S.1 0), .ref (a 1), .ref (a 2), .ref (a 3), .ref (a 4), .ref (a 5), .int (S.1 1), .int (S.1 2), .ref (a 6), .ref (a 7), .ref (a 8), .ref (a 9), .ref (a 10), .int (S.1 3), .int (S.1 4), .int (S.1 5), .int (S.1 6), .int (S.1 7), .int (S.1 8), .int (S.1 9), .int (S.1 10), .int (S.1 11)])), (a 1, .inl (T 0, 148, .inl (S.2 0))), (a 2, .inl (T 0, 148, .inl (S.2 1))), (a 3, .inl (T 0, 148, .inl (S.2 2))), (a 4, .inl (T 0, 1184, .inl (S.2 3))), (a 5, .inl (T 0, 148, .inl (S.2 4))), (a 6, .inl (T 0, 60, .inl (S.2 5))), (a 7, .inl (T 0, 300, .inl (S.2 6))), (a 8, .inl (T 0, 40, .inl (S.2 7))), (a 9, .inl (T 0, 24, .inl (S.2 8))), (a 10, .inl (T 0, 24, .inl (S.2 9)))]
theorem at_Mo_0 (T : Nat → ClassId) (a : Nat → Nat) (S : Mem) : (wMo T a S)[0]? = some (a 0, .inr (11, [.int (S.1 0), .ref (a 1), .ref (a 2), .ref (a 3), .ref (a 4), .ref (a 5), .int (S.1 1), .int (S.1 2), .ref (a 6), .ref (a 7), .ref (a 8), .ref (a 9), .ref (a 10), .int (S.1 3), .int (S.1 4), .int (S.1 5), .int (S.1 6), .int (S.1 7), .int (S.1 8), .int (S.1 9), .int (S.1 10), .int (S.1 11)])) := rfl
theorem pt_Mo_0_0 (T : Nat → ClassId) (a : Nat → Nat) (S : Mem) (v : Int32) : (wMo T a S).set 0 (a 0, .inr (11, List.set [.int (S.1 0), .ref (a 1), .ref (a 2), .ref (a 3), .ref (a 4), .ref (a 5), .int (S.1 1), .int (S.1 2), .ref (a 6), .ref (a 7), .ref (a 8), .ref (a 9), .ref (a 10), .int (S.1 3), .int (S.1 4), .int (S.1 5), .int (S.1 6), .int (S.1 7), .int (S.1 8), .int (S.1 9), .int (S.1 10), .int (S.1 11)] 0 (.int v))) = wMo T a (wrI S 0 v) := rfl
theorem pt_Mo_0_6 (T : Nat → ClassId) (a : Nat → Nat) (S : Mem) (v : Int32) : (wMo T a S).set 0 (a 0, .inr (11, List.set [.int (S.1 0), .ref (a 1), .ref (a 2), .ref (a 3), .ref (a 4), .ref (a 5), .int (S.1 1), .int (S.1 2), .ref (a 6), .ref (a 7), .ref (a 8), .ref (a 9), .ref (a 10), .int (S.1 3), .int (S.1 4), .int (S.1 5), .int (S.1 6), .int (S.1 7), .int (S.1 8), .int (S.1 9), .int (S.1 10), .int (S.1 11)] 6 (.int v))) = wMo T a (wrI S 1 v) := rfl
theorem pt_Mo_0_7 (T : Nat → ClassId) (a : Nat → Nat) (S : Mem) (v : Int32) : (wMo T a S).set 0 (a 0, .inr (11, List.set [.int (S.1 0), .ref (a 1), .ref (a 2), .ref (a 3), .ref (a 4), .ref (a 5), .int (S.1 1), .int (S.1 2), .ref (a 6), .ref (a 7), .ref (a 8), .ref (a 9), .ref (a 10), .int (S.1 3), .int (S.1 4), .int (S.1 5), .int (S.1 6), .int (S.1 7), .int (S.1 8), .int (S.1 9), .int (S.1 10), .int (S.1 11)] 7 (.int v))) = wMo T a (wrI S 2 v) := rfl
theorem pt_Mo_0_13 (T : Nat → ClassId) (a : Nat → Nat) (S : Mem) (v : Int32) : (wMo T a S).set 0 (a 0, .inr (11, List.set [.int (S.1 0), .ref (a 1), .ref (a 2), .ref (a 3), .ref (a 4), .ref (a 5), .int (S.1 1), .int (S.1 2), .ref (a 6), .ref (a 7), .ref (a 8), .ref (a 9), .ref (a 10), .int (S.1 3), .int (S.1 4), .int (S.1 5), .int (S.1 6), .int (S.1 7), .int (S.1 8), .int (S.1 9), .int (S.1 10), .int (S.1 11)] 13 (.int v))) = wMo T a (wrI S 3 v) := rfl
theorem pt_Mo_0_14 (T : Nat → ClassId) (a : Nat → Nat) (S : Mem) (v : Int32) : (wMo T a S).set 0 (a 0, .inr (11, List.set [.int (S.1 0), .ref (a 1), .ref (a 2), .ref (a 3), .ref (a 4), .ref (a 5), .int (S.1 1), .int (S.1 2), .ref (a 6), .ref (a 7), .ref (a 8), .ref (a 9), .ref (a 10), .int (S.1 3), .int (S.1 4), .int (S.1 5), .int (S.1 6), .int (S.1 7), .int (S.1 8), .int (S.1 9), .int (S.1 10), .int (S.1 11)] 14 (.int v))) = wMo T a (wrI S 4 v) := rfl
theorem pt_Mo_0_15 (T : Nat → ClassId) (a : Nat → Nat) (S : Mem) (v : Int32) : (wMo T a S).set 0 (a 0, .inr (11, List.set [.int (S.1 0), .ref (a 1), .ref (a 2), .ref (a 3), .ref (a 4), .ref (a 5), .int (S.1 1), .int (S.1 2), .ref (a 6), .ref (a 7), .ref (a 8), .ref (a 9), .ref (a 10), .int (S.1 3), .int (S.1 4), .int (S.1 5), .int (S.1 6), .int (S.1 7), .int (S.1 8), .int (S.1 9), .int (S.1 10), .int (S.1 11)] 15 (.int v))) = wMo T a (wrI S 5 v) := rfl
theorem pt_Mo_0_16 (T : Nat → ClassId) (a : Nat → Nat) (S : Mem) (v : Int32) : (wMo T a S).set 0 (a 0, .inr (11, List.set [.int (S.1 0), .ref (a 1), .ref (a 2), .ref (a 3), .ref (a 4), .ref (a 5), .int (S.1 1), .int (S.1 2), .ref (a 6), .ref (a 7), .ref (a 8), .ref (a 9), .ref (a 10), .int (S.1 3), .int (S.1 4), .int (S.1 5), .int (S.1 6), .int (S.1 7), .int (S.1 8), .int (S.1 9), .int (S.1 10), .int (S.1 11)] 16 (.int v))) = wMo T a (wrI S 6 v) := rfl
theorem pt_Mo_0_17 (T : Nat → ClassId) (a : Nat → Nat) (S : Mem) (v : Int32) : (wMo T a S).set 0 (a 0, .inr (11, List.set [.int (S.1 0), .ref (a 1), .ref (a 2), .ref (a 3), .ref (a 4), .ref (a 5), .int (S.1 1), .int (S.1 2), .ref (a 6), .ref (a 7), .ref (a 8), .ref (a 9), .ref (a 10), .int (S.1 3), .int (S.1 4), .int (S.1 5), .int (S.1 6), .int (S.1 7), .int (S.1 8), .int (S.1 9), .int (S.1 10), .int (S.1 11)] 17 (.int v))) = wMo T a (wrI S 7 v) := rfl
theorem pt_Mo_0_18 (T : Nat → ClassId) (a : Nat → Nat) (S : Mem) (v : Int32) : (wMo T a S).set 0 (a 0, .inr (11, List.set [.int (S.1 0), .ref (a 1), .ref (a 2), .ref (a 3), .ref (a 4), .ref (a 5), .int (S.1 1), .int (S.1 2), .ref (a 6), .ref (a 7), .ref (a 8), .ref (a 9), .ref (a 10), .int (S.1 3), .int (S.1 4), .int (S.1 5), .int (S.1 6), .int (S.1 7), .int (S.1 8), .int (S.1 9), .int (S.1 10), .int (S.1 11)] 18 (.int v))) = wMo T a (wrI S 8 v) := rfl
theorem pt_Mo_0_19 (T : Nat → ClassId) (a : Nat → Nat) (S : Mem) (v : Int32) : (wMo T a S).set 0 (a 0, .inr (11, List.set [.int (S.1 0), .ref (a 1), .ref (a 2), .ref (a 3), .ref (a 4), .ref (a 5), .int (S.1 1), .int (S.1 2), .ref (a 6), .ref (a 7), .ref (a 8), .ref (a 9), .ref (a 10), .int (S.1 3), .int (S.1 4), .int (S.1 5), .int (S.1 6), .int (S.1 7), .int (S.1 8), .int (S.1 9), .int (S.1 10), .int (S.1 11)] 19 (.int v))) = wMo T a (wrI S 9 v) := rfl
theorem pt_Mo_0_20 (T : Nat → ClassId) (a : Nat → Nat) (S : Mem) (v : Int32) : (wMo T a S).set 0 (a 0, .inr (11, List.set [.int (S.1 0), .ref (a 1), .ref (a 2), .ref (a 3), .ref (a 4), .ref (a 5), .int (S.1 1), .int (S.1 2), .ref (a 6), .ref (a 7), .ref (a 8), .ref (a 9), .ref (a 10), .int (S.1 3), .int (S.1 4), .int (S.1 5), .int (S.1 6), .int (S.1 7), .int (S.1 8), .int (S.1 9), .int (S.1 10), .int (S.1 11)] 20 (.int v))) = wMo T a (wrI S 10 v) := rfl
theorem pt_Mo_0_21 (T : Nat → ClassId) (a : Nat → Nat) (S : Mem) (v : Int32) : (wMo T a S).set 0 (a 0, .inr (11, List.set [.int (S.1 0), .ref (a 1), .ref (a 2), .ref (a 3), .ref (a 4), .ref (a 5), .int (S.1 1), .int (S.1 2), .ref (a 6), .ref (a 7), .ref (a 8), .ref (a 9), .ref (a 10), .int (S.1 3), .int (S.1 4), .int (S.1 5), .int (S.1 6), .int (S.1 7), .int (S.1 8), .int (S.1 9), .int (S.1 10), .int (S.1 11)] 21 (.int v))) = wMo T a (wrI S 11 v) := rfl
theorem at_Mo_1 (T : Nat → ClassId) (a : Nat → Nat) (S : Mem) : (wMo T a S)[1]? = some (a 1, .inl (T 0, 148, .inl (S.2 0))) := rfl
theorem st_Mo_1 (T : Nat → ClassId) (a : Nat → Nat) (S : Mem) (i v : Int32) : (wMo T a S).set 1 (a 1, .inl (T 0, 148, .inl (upd (S.2 0) i.toNatClampNeg v))) = wMo T a (wrA S 0 i v) := rfl
theorem at_Mo_2 (T : Nat → ClassId) (a : Nat → Nat) (S : Mem) : (wMo T a S)[2]? = some (a 2, .inl (T 0, 148, .inl (S.2 1))) := rfl
theorem st_Mo_2 (T : Nat → ClassId) (a : Nat → Nat) (S : Mem) (i v : Int32) : (wMo T a S).set 2 (a 2, .inl (T 0, 148, .inl (upd (S.2 1) i.toNatClampNeg v))) = wMo T a (wrA S 1 i v) := rfl
theorem at_Mo_3 (T : Nat → ClassId) (a : Nat → Nat) (S : Mem) : (wMo T a S)[3]? = some (a 3, .inl (T 0, 148, .inl (S.2 2))) := rfl
theorem st_Mo_3 (T : Nat → ClassId) (a : Nat → Nat) (S : Mem) (i v : Int32) : (wMo T a S).set 3 (a 3, .inl (T 0, 148, .inl (upd (S.2 2) i.toNatClampNeg v))) = wMo T a (wrA S 2 i v) := rfl
theorem at_Mo_4 (T : Nat → ClassId) (a : Nat → Nat) (S : Mem) : (wMo T a S)[4]? = some (a 4, .inl (T 0, 1184, .inl (S.2 3))) := rfl
theorem st_Mo_4 (T : Nat → ClassId) (a : Nat → Nat) (S : Mem) (i v : Int32) : (wMo T a S).set 4 (a 4, .inl (T 0, 1184, .inl (upd (S.2 3) i.toNatClampNeg v))) = wMo T a (wrA S 3 i v) := rfl
theorem at_Mo_5 (T : Nat → ClassId) (a : Nat → Nat) (S : Mem) : (wMo T a S)[5]? = some (a 5, .inl (T 0, 148, .inl (S.2 4))) := rfl
theorem st_Mo_5 (T : Nat → ClassId) (a : Nat → Nat) (S : Mem) (i v : Int32) : (wMo T a S).set 5 (a 5, .inl (T 0, 148, .inl (upd (S.2 4) i.toNatClampNeg v))) = wMo T a (wrA S 4 i v) := rfl
theorem at_Mo_6 (T : Nat → ClassId) (a : Nat → Nat) (S : Mem) : (wMo T a S)[6]? = some (a 6, .inl (T 0, 60, .inl (S.2 5))) := rfl
theorem st_Mo_6 (T : Nat → ClassId) (a : Nat → Nat) (S : Mem) (i v : Int32) : (wMo T a S).set 6 (a 6, .inl (T 0, 60, .inl (upd (S.2 5) i.toNatClampNeg v))) = wMo T a (wrA S 5 i v) := rfl
theorem at_Mo_7 (T : Nat → ClassId) (a : Nat → Nat) (S : Mem) : (wMo T a S)[7]? = some (a 7, .inl (T 0, 300, .inl (S.2 6))) := rfl
theorem st_Mo_7 (T : Nat → ClassId) (a : Nat → Nat) (S : Mem) (i v : Int32) : (wMo T a S).set 7 (a 7, .inl (T 0, 300, .inl (upd (S.2 6) i.toNatClampNeg v))) = wMo T a (wrA S 6 i v) := rfl
theorem at_Mo_8 (T : Nat → ClassId) (a : Nat → Nat) (S : Mem) : (wMo T a S)[8]? = some (a 8, .inl (T 0, 40, .inl (S.2 7))) := rfl
theorem st_Mo_8 (T : Nat → ClassId) (a : Nat → Nat) (S : Mem) (i v : Int32) : (wMo T a S).set 8 (a 8, .inl (T 0, 40, .inl (upd (S.2 7) i.toNatClampNeg v))) = wMo T a (wrA S 7 i v) := rfl
theorem at_Mo_9 (T : Nat → ClassId) (a : Nat → Nat) (S : Mem) : (wMo T a S)[9]? = some (a 9, .inl (T 0, 24, .inl (S.2 8))) := rfl
theorem st_Mo_9 (T : Nat → ClassId) (a : Nat → Nat) (S : Mem) (i v : Int32) : (wMo T a S).set 9 (a 9, .inl (T 0, 24, .inl (upd (S.2 8) i.toNatClampNeg v))) = wMo T a (wrA S 8 i v) := rfl
theorem at_Mo_10 (T : Nat → ClassId) (a : Nat → Nat) (S : Mem) : (wMo T a S)[10]? = some (a 10, .inl (T 0, 24, .inl (S.2 9))) := rfl
theorem st_Mo_10 (T : Nat → ClassId) (a : Nat → Nat) (S : Mem) (i v : Int32) : (wMo T a S).set 10 (a 10, .inl (T 0, 24, .inl (upd (S.2 9) i.toNatClampNeg v))) = wMo T a (wrA S 9 i v) := rfl
theorem cl0 : CL 4 RX0 TX0 2 tyX0 := ⟨rfl, by unfold FC; decide +kernel, tyX0_ok, nmX0⟩
theorem cl1 : CL 5 RX1 TX1 7 tyX1 := ⟨rfl, by unfold FC; decide +kernel, tyX1_ok, nmX1⟩
theorem cl2 : CL 6 RX2 TX2 3 tyX2 := ⟨rfl, by unfold FC; decide +kernel, tyX2_ok, nmX2⟩
theorem cl3 : CL 7 RX3 TX3 9 tyX3 := ⟨rfl, by unfold FC; decide +kernel, tyX3_ok, nmX3⟩
theorem cl4 : CL 8 RX4 TX4 7 tyX4 := ⟨rfl, by unfold FC; decide +kernel, tyX4_ok, nmX4⟩
theorem cl5 : CL 9 RX5 TX5 3 tyX5 := ⟨rfl, by unfold FC; decide +kernel, tyX5_ok, nmX5⟩
theorem cl6 : CL 10 RX6 TX6 10 tyX6 := ⟨rfl, by unfold FC; decide +kernel, tyX6_ok, nmX6⟩
theorem q34 : Cond.initialized "java/lang/Math" ∈ lw_tbl := List.mem_of_getElem? (i := 34) (by decide +kernel)
theorem q65 : Cond.fieldLink RX3 9 "CustomsShed$Lots" "ids" "[I" ∈ lw_tbl := List.mem_of_getElem? (i := 65) (by decide +kernel)
theorem q67 : Cond.fieldLinkNest RX4 113 "CustomsShed$Lots" "ids" "[I" "CustomsShed" ∈ lw_tbl := List.mem_of_getElem? (i := 67) (by decide +kernel)
theorem q68 : Cond.fieldLink RX3 15 "CustomsShed$Lots" "kinds" "[C" ∈ lw_tbl := List.mem_of_getElem? (i := 68) (by decide +kernel)
theorem q70 : Cond.fieldLink RX3 19 "CustomsShed$Lots" "quantities" "[I" ∈ lw_tbl := List.mem_of_getElem? (i := 70) (by decide +kernel)
theorem q72 : Cond.fieldLinkNest RX4 128 "CustomsShed$Lots" "quantities" "[I" "CustomsShed" ∈ lw_tbl := List.mem_of_getElem? (i := 72) (by decide +kernel)
theorem q73 : Cond.fieldLink RX3 22 "CustomsShed$Lots" "prices" "[I" ∈ lw_tbl := List.mem_of_getElem? (i := 73) (by decide +kernel)
theorem q75 : Cond.fieldLink RX3 25 "CustomsShed$Lots" "bays" "[I" ∈ lw_tbl := List.mem_of_getElem? (i := 75) (by decide +kernel)
theorem q76 : Cond.fieldLinkNest RX4 91 "CustomsShed$Lots" "bays" "[I" "CustomsShed" ∈ lw_tbl := List.mem_of_getElem? (i := 76) (by decide +kernel)
theorem q78 : Cond.fieldLink RX3 28 "CustomsShed$Lots" "underSeal" "[Z" ∈ lw_tbl := List.mem_of_getElem? (i := 78) (by decide +kernel)
theorem q79 : Cond.fieldLinkNest RX4 77 "CustomsShed$Lots" "underSeal" "[Z" "CustomsShed" ∈ lw_tbl := List.mem_of_getElem? (i := 79) (by decide +kernel)
theorem q81 : Cond.fieldLink RX3 32 "CustomsShed$Lots" "damp" "[Z" ∈ lw_tbl := List.mem_of_getElem? (i := 81) (by decide +kernel)
theorem q82 : Cond.fieldLinkNest RX4 81 "CustomsShed$Lots" "damp" "[Z" "CustomsShed" ∈ lw_tbl := List.mem_of_getElem? (i := 82) (by decide +kernel)
theorem q84 : Cond.fieldLink RX3 35 "CustomsShed$Lots" "count" "I" ∈ lw_tbl := List.mem_of_getElem? (i := 84) (by decide +kernel)
theorem q85 : Cond.fieldLinkNest RX4 63 "CustomsShed$Lots" "count" "I" "CustomsShed" ∈ lw_tbl := List.mem_of_getElem? (i := 85) (by decide +kernel)
theorem q87 : Cond.fieldLink RX3 39 "CustomsShed$Lots" "nextId" "I" ∈ lw_tbl := List.mem_of_getElem? (i := 87) (by decide +kernel)
theorem q116 : Cond.fieldLink RX5 9 "CustomsShed$Tariff" "thresholds" "[I" ∈ lw_tbl := List.mem_of_getElem? (i := 116) (by decide +kernel)
theorem q118 : Cond.fieldLink RX5 15 "CustomsShed$Tariff" "rates" "[I" ∈ lw_tbl := List.mem_of_getElem? (i := 118) (by decide +kernel)
theorem q120 : Cond.fieldLink RX5 18 "CustomsShed$Tariff" "count" "I" ∈ lw_tbl := List.mem_of_getElem? (i := 120) (by decide +kernel)
theorem q135 : Cond.fieldLink RX0 9 "CustomsShed$AuditQueue" "ids" "[I" ∈ lw_tbl := List.mem_of_getElem? (i := 135) (by decide +kernel)
theorem q136 : Cond.fieldLinkNest RX4 100 "CustomsShed$AuditQueue" "ids" "[I" "CustomsShed" ∈ lw_tbl := List.mem_of_getElem? (i := 136) (by decide +kernel)
theorem q138 : Cond.fieldLink RX0 15 "CustomsShed$AuditQueue" "length" "I" ∈ lw_tbl := List.mem_of_getElem? (i := 138) (by decide +kernel)
theorem q139 : Cond.fieldLinkNest RX4 97 "CustomsShed$AuditQueue" "length" "I" "CustomsShed" ∈ lw_tbl := List.mem_of_getElem? (i := 139) (by decide +kernel)
theorem q146 : Cond.fieldLink RX4 12 "CustomsShed$Shed" "lots" "LCustomsShed$Lots;" ∈ lw_tbl := List.mem_of_getElem? (i := 146) (by decide +kernel)
theorem q148 : Cond.fieldLink RX4 21 "CustomsShed$Shed" "tariff" "LCustomsShed$Tariff;" ∈ lw_tbl := List.mem_of_getElem? (i := 148) (by decide +kernel)
theorem q150 : Cond.fieldLink RX4 28 "CustomsShed$Shed" "queue" "LCustomsShed$AuditQueue;" ∈ lw_tbl := List.mem_of_getElem? (i := 150) (by decide +kernel)
theorem q152 : Cond.fieldLink RX4 32 "CustomsShed$Shed" "coins" "I" ∈ lw_tbl := List.mem_of_getElem? (i := 152) (by decide +kernel)
theorem q154 : Cond.fieldLink RX4 36 "CustomsShed$Shed" "coinsTaken" "I" ∈ lw_tbl := List.mem_of_getElem? (i := 154) (by decide +kernel)
theorem q156 : Cond.fieldLink RX4 39 "CustomsShed$Shed" "daysPassed" "I" ∈ lw_tbl := List.mem_of_getElem? (i := 156) (by decide +kernel)
theorem q158 : Cond.fieldLink RX4 42 "CustomsShed$Shed" "destroyed" "I" ∈ lw_tbl := List.mem_of_getElem? (i := 158) (by decide +kernel)
theorem q200 : Cond.fieldLink RX1 9 "CustomsShed$CommandText" "characters" "[C" ∈ lw_tbl := List.mem_of_getElem? (i := 200) (by decide +kernel)
theorem q201 : Cond.fieldLink RX1 15 "CustomsShed$CommandText" "numbers" "[I" ∈ lw_tbl := List.mem_of_getElem? (i := 201) (by decide +kernel)
theorem q202 : Cond.fieldLinkNest RX4 144 "CustomsShed$CommandText" "numbers" "[I" "CustomsShed" ∈ lw_tbl := List.mem_of_getElem? (i := 202) (by decide +kernel)
theorem q203 : Cond.fieldLink RX1 19 "CustomsShed$CommandText" "length" "I" ∈ lw_tbl := List.mem_of_getElem? (i := 203) (by decide +kernel)
theorem q205 : Cond.fieldLink RX1 23 "CustomsShed$CommandText" "cursor" "I" ∈ lw_tbl := List.mem_of_getElem? (i := 205) (by decide +kernel)
theorem q207 : Cond.fieldLink RX1 26 "CustomsShed$CommandText" "verb" "I" ∈ lw_tbl := List.mem_of_getElem? (i := 207) (by decide +kernel)
theorem q208 : Cond.fieldLinkNest RX4 149 "CustomsShed$CommandText" "verb" "I" "CustomsShed" ∈ lw_tbl := List.mem_of_getElem? (i := 208) (by decide +kernel)
theorem q209 : Cond.fieldLink RX1 29 "CustomsShed$CommandText" "kind" "C" ∈ lw_tbl := List.mem_of_getElem? (i := 209) (by decide +kernel)
theorem q210 : Cond.fieldLinkNest RX4 152 "CustomsShed$CommandText" "kind" "C" "CustomsShed" ∈ lw_tbl := List.mem_of_getElem? (i := 210) (by decide +kernel)
theorem q211 : Cond.fieldLink RX1 33 "CustomsShed$CommandText" "numbersRead" "I" ∈ lw_tbl := List.mem_of_getElem? (i := 211) (by decide +kernel)
theorem q327 : Cond.methodLink RX4 140 yX4_sortDutiesInto ∈ lw_tbl := List.mem_of_getElem? (i := 327) (by decide +kernel)
theorem q331 : Cond.methodLink RX4 107 yX4_dutyOf ∈ lw_tbl := List.mem_of_getElem? (i := 331) (by decide +kernel)
theorem q335 : Cond.methodLink RX4 131 yX3_valueOf ∈ lw_tbl := List.mem_of_getElem? (i := 335) (by decide +kernel)
theorem q339 : Cond.methodLink RX4 134 yX5_dutyByParts ∈ lw_tbl := List.mem_of_getElem? (i := 339) (by decide +kernel)
theorem q343 : Cond.methodLink RX5 26 Lib.Math.min.name ∈ lw_tbl := List.mem_of_getElem? (i := 343) (by decide +kernel)
theorem q344 : Cond.static Lib.Math.min.name ∈ lw_tbl := List.mem_of_getElem? (i := 344) (by decide +kernel)
theorem q345 : Cond.code Lib.Math.min.name Lib.Math.min.code 2 (some .int) ∈ lw_tbl := List.mem_of_getElem? (i := 345) (by decide +kernel)
theorem q346 : Cond.methodLink RX5 32 Lib.Math.max.name ∈ lw_tbl := List.mem_of_getElem? (i := 346) (by decide +kernel)
theorem q347 : Cond.static Lib.Math.max.name ∈ lw_tbl := List.mem_of_getElem? (i := 347) (by decide +kernel)
theorem q348 : Cond.code Lib.Math.max.name Lib.Math.max.code 2 (some .int) ∈ lw_tbl := List.mem_of_getElem? (i := 348) (by decide +kernel)
theorem q546 : Cond.methodLink RX4 45 yX3_copyFrom ∈ lw_tbl := List.mem_of_getElem? (i := 546) (by decide +kernel)
theorem q550 : Cond.methodLink RX3 49 yX3_takeSlot ∈ lw_tbl := List.mem_of_getElem? (i := 550) (by decide +kernel)
theorem q554 : Cond.methodLink RX4 49 yX5_copyFrom ∈ lw_tbl := List.mem_of_getElem? (i := 554) (by decide +kernel)
theorem q558 : Cond.methodLink RX4 52 yX0_copyFrom ∈ lw_tbl := List.mem_of_getElem? (i := 558) (by decide +kernel)
theorem q566 : Cond.methodLink RX4 115 yX4_letOneDayPass ∈ lw_tbl := List.mem_of_getElem? (i := 566) (by decide +kernel)
theorem q570 : Cond.methodLink RX4 118 yX3_baysOfDamp ∈ lw_tbl := List.mem_of_getElem? (i := 570) (by decide +kernel)
theorem q574 : Cond.methodLink RX4 121 yX3_spreadFrom ∈ lw_tbl := List.mem_of_getElem? (i := 574) (by decide +kernel)
theorem q578 : Cond.methodLinkNest RX3 53 yX6_hasBay "CustomsShed" ∈ lw_tbl := List.mem_of_getElem? (i := 578) (by decide +kernel)
theorem q581 : Cond.methodLink RX6 364 yX6_isBay ∈ lw_tbl := List.mem_of_getElem? (i := 581) (by decide +kernel)
theorem q584 : Cond.methodLinkNest RX4 124 yX6_hasBay "CustomsShed" ∈ lw_tbl := List.mem_of_getElem? (i := 584) (by decide +kernel)
theorem q585 : Cond.methodLink RX4 110 yX4_letLeave ∈ lw_tbl := List.mem_of_getElem? (i := 585) (by decide +kernel)
theorem q589 : Cond.methodLink RX4 103 yX0_remove ∈ lw_tbl := List.mem_of_getElem? (i := 589) (by decide +kernel)
theorem q593 : Cond.methodLink RX4 114 yX3_remove ∈ lw_tbl := List.mem_of_getElem? (i := 593) (by decide +kernel)
theorem q626 : Cond.methodLinkNest RX4 55 yX6_isBay "CustomsShed" ∈ lw_tbl := List.mem_of_getElem? (i := 626) (by decide +kernel)
theorem q627 : Cond.methodLinkNest RX4 59 yX6_isKind "CustomsShed" ∈ lw_tbl := List.mem_of_getElem? (i := 627) (by decide +kernel)
theorem q630 : Cond.methodLink RX4 66 yX3_slotAt ∈ lw_tbl := List.mem_of_getElem? (i := 630) (by decide +kernel)
theorem q634 : Cond.methodLink RX4 70 yX3_append ∈ lw_tbl := List.mem_of_getElem? (i := 634) (by decide +kernel)
theorem q698 : Cond.methodLink RX4 74 yX3_slotWith ∈ lw_tbl := List.mem_of_getElem? (i := 698) (by decide +kernel)
theorem q721 : Cond.methodLink RX4 84 yX3_countSealed ∈ lw_tbl := List.mem_of_getElem? (i := 721) (by decide +kernel)
theorem q743 : Cond.methodLink RX5 22 yX5_indexOf ∈ lw_tbl := List.mem_of_getElem? (i := 743) (by decide +kernel)
theorem q780 : Cond.methodLink RX4 88 yX3_countDamp ∈ lw_tbl := List.mem_of_getElem? (i := 780) (by decide +kernel)
theorem q1057 : Cond.methodLink RX1 58 yX1_rewind ∈ lw_tbl := List.mem_of_getElem? (i := 1057) (by decide +kernel)
theorem q1061 : Cond.methodLink RX1 61 yX1_readCommand ∈ lw_tbl := List.mem_of_getElem? (i := 1061) (by decide +kernel)
theorem q1065 : Cond.methodLink RX1 68 yX1_formOf ∈ lw_tbl := List.mem_of_getElem? (i := 1065) (by decide +kernel)
theorem q1079 : Cond.methodLink RX1 72 yX1_readForm ∈ lw_tbl := List.mem_of_getElem? (i := 1079) (by decide +kernel)
theorem q1083 : Cond.methodLink RX1 82 yJ0_length_8abf5 ∈ lw_tbl := List.mem_of_getElem? (i := 1083) (by decide +kernel)
theorem q1084 : Cond.methodLink RX1 87 yJ0_charAt_5068e ∈ lw_tbl := List.mem_of_getElem? (i := 1084) (by decide +kernel)
theorem q1085 : Cond.methodLink RX1 91 yX1_readNumber ∈ lw_tbl := List.mem_of_getElem? (i := 1085) (by decide +kernel)
theorem q1089 : Cond.methodLink RX1 101 yX1_isDigit ∈ lw_tbl := List.mem_of_getElem? (i := 1089) (by decide +kernel)
theorem q1092 : Cond.methodLink RX1 94 yX1_readCharacter ∈ lw_tbl := List.mem_of_getElem? (i := 1092) (by decide +kernel)
theorem q1096 : Cond.methodLinkNest RX1 98 yX6_isKind "CustomsShed" ∈ lw_tbl := List.mem_of_getElem? (i := 1096) (by decide +kernel)
theorem q1097 : Cond.methodLink RX1 76 Lib.Math.max.name ∈ lw_tbl := List.mem_of_getElem? (i := 1097) (by decide +kernel)
theorem q1098 : Cond.methodLink RX1 65 yX1_skipSemicolon ∈ lw_tbl := List.mem_of_getElem? (i := 1098) (by decide +kernel)
theorem q1117 : Cond.methodLink RX4 156 yX4_takeIn ∈ lw_tbl := List.mem_of_getElem? (i := 1117) (by decide +kernel)
theorem q1118 : Cond.methodLink RX4 159 yX4_sealLot ∈ lw_tbl := List.mem_of_getElem? (i := 1118) (by decide +kernel)
theorem q1119 : Cond.methodLink RX4 162 yX4_openLot ∈ lw_tbl := List.mem_of_getElem? (i := 1119) (by decide +kernel)
theorem q1120 : Cond.methodLink RX4 165 yX4_wetLot ∈ lw_tbl := List.mem_of_getElem? (i := 1120) (by decide +kernel)
theorem q1121 : Cond.methodLink RX4 168 yX4_queueLot ∈ lw_tbl := List.mem_of_getElem? (i := 1121) (by decide +kernel)
theorem q1125 : Cond.methodLink RX4 95 yX0_append ∈ lw_tbl := List.mem_of_getElem? (i := 1125) (by decide +kernel)
theorem q1129 : Cond.methodLink RX0 19 yX0_placeOf ∈ lw_tbl := List.mem_of_getElem? (i := 1129) (by decide +kernel)
theorem q1133 : Cond.methodLink RX4 171 yX4_releaseLot ∈ lw_tbl := List.mem_of_getElem? (i := 1133) (by decide +kernel)
theorem q1137 : Cond.methodLink RX4 174 yX4_moveLot ∈ lw_tbl := List.mem_of_getElem? (i := 1137) (by decide +kernel)
theorem q1138 : Cond.methodLink RX4 178 yX4_auditFirst ∈ lw_tbl := List.mem_of_getElem? (i := 1138) (by decide +kernel)
theorem q1139 : Cond.methodLink RX4 181 yX5_insert ∈ lw_tbl := List.mem_of_getElem? (i := 1139) (by decide +kernel)
theorem q1140 : Cond.methodLink RX4 184 yX4_takeCoins ∈ lw_tbl := List.mem_of_getElem? (i := 1140) (by decide +kernel)
theorem q1297 : Cond.methodLink RX3 57 yX3_baysOfOpen ∈ lw_tbl := List.mem_of_getElem? (i := 1297) (by decide +kernel)
theorem q1301 : Cond.methodLink RX3 61 yX3_baysOfDamp ∈ lw_tbl := List.mem_of_getElem? (i := 1301) (by decide +kernel)
theorem q1310 : Cond.methodLink RX3 64 yX3_slotAt ∈ lw_tbl := List.mem_of_getElem? (i := 1310) (by decide +kernel)
theorem q1403 : Cond.methodLink RX3 46 yX3_countAhead ∈ lw_tbl := List.mem_of_getElem? (i := 1403) (by decide +kernel)
theorem q1407 : Cond.methodLink RX3 42 yX3_valueOf ∈ lw_tbl := List.mem_of_getElem? (i := 1407) (by decide +kernel)
theorem q1477 : Cond.methodLink RX4 137 yX5_dutyByCoins ∈ lw_tbl := List.mem_of_getElem? (i := 1477) (by decide +kernel)
theorem m_X6_isBay : YM yX6_isBay cX6_isBay 1 (some .boolean) 1 := ⟨⟨List.mem_of_getElem? (i := 583) (by decide +kernel), by decide +kernel⟩, List.mem_of_getElem? (i := 15) (by decide +kernel), ⟨by decide, by decide⟩, by decide +kernel⟩
theorem v_X6_isBay : YS yX6_isBay := List.mem_of_getElem? (i := 582) (by decide +kernel)
theorem m_X3_valueOf : YM yX3_valueOf cX3_valueOf 2 (some .int) 1 := ⟨⟨List.mem_of_getElem? (i := 338) (by decide +kernel), by decide +kernel⟩, List.mem_of_getElem? (i := 17) (by decide +kernel), ⟨by decide, by decide⟩, by decide +kernel⟩
theorem v_X3_valueOf : YV yX3_valueOf := ⟨List.mem_of_getElem? (i := 336) (by decide +kernel), List.mem_of_getElem? (i := 337) (by decide +kernel)⟩
theorem m_X3_countAhead : YM yX3_countAhead cX3_countAhead 6 (some .int) 1 := ⟨⟨List.mem_of_getElem? (i := 1406) (by decide +kernel), by decide +kernel⟩, List.mem_of_getElem? (i := 17) (by decide +kernel), ⟨by decide, by decide⟩, by decide +kernel⟩
theorem v_X3_countAhead : YV yX3_countAhead := ⟨List.mem_of_getElem? (i := 1405) (by decide +kernel), List.mem_of_getElem? (i := 13) (by decide +kernel)⟩
theorem m_X3_takeSlot : YM yX3_takeSlot cX3_takeSlot 4 (none) 3 := ⟨⟨List.mem_of_getElem? (i := 553) (by decide +kernel), by decide +kernel⟩, List.mem_of_getElem? (i := 17) (by decide +kernel), ⟨by decide, by decide⟩, by decide +kernel⟩
theorem v_X3_takeSlot : YV yX3_takeSlot := ⟨List.mem_of_getElem? (i := 552) (by decide +kernel), List.mem_of_getElem? (i := 3) (by decide +kernel)⟩
theorem m_X6_hasBay : YM yX6_hasBay cX6_hasBay 2 (some .boolean) 2 := ⟨⟨List.mem_of_getElem? (i := 580) (by decide +kernel), by decide +kernel⟩, List.mem_of_getElem? (i := 15) (by decide +kernel), ⟨by decide, by decide⟩, by decide +kernel⟩
theorem v_X6_hasBay : YS yX6_hasBay := List.mem_of_getElem? (i := 579) (by decide +kernel)
theorem m_X3_slotAt : YM yX3_slotAt cX3_slotAt 3 (some .int) 1 := ⟨⟨List.mem_of_getElem? (i := 633) (by decide +kernel), by decide +kernel⟩, List.mem_of_getElem? (i := 17) (by decide +kernel), ⟨by decide, by decide⟩, by decide +kernel⟩
theorem v_X3_slotAt : YV yX3_slotAt := ⟨List.mem_of_getElem? (i := 631) (by decide +kernel), List.mem_of_getElem? (i := 632) (by decide +kernel)⟩
theorem m_X3_baysOfOpen : YM yX3_baysOfOpen cX3_baysOfOpen 3 (some .int) 0 := ⟨⟨List.mem_of_getElem? (i := 1300) (by decide +kernel), by decide +kernel⟩, List.mem_of_getElem? (i := 17) (by decide +kernel), ⟨by decide, by decide⟩, by decide +kernel⟩
theorem v_X3_baysOfOpen : YV yX3_baysOfOpen := ⟨List.mem_of_getElem? (i := 1299) (by decide +kernel), List.mem_of_getElem? (i := 12) (by decide +kernel)⟩
theorem m_X3_baysOfDamp : YM yX3_baysOfDamp cX3_baysOfDamp 3 (some .int) 0 := ⟨⟨List.mem_of_getElem? (i := 573) (by decide +kernel), by decide +kernel⟩, List.mem_of_getElem? (i := 17) (by decide +kernel), ⟨by decide, by decide⟩, by decide +kernel⟩
theorem v_X3_baysOfDamp : YV yX3_baysOfDamp := ⟨List.mem_of_getElem? (i := 571) (by decide +kernel), List.mem_of_getElem? (i := 572) (by decide +kernel)⟩
theorem m_X5_indexOf : YM yX5_indexOf cX5_indexOf 3 (some .int) 1 := ⟨⟨List.mem_of_getElem? (i := 746) (by decide +kernel), by decide +kernel⟩, List.mem_of_getElem? (i := 18) (by decide +kernel), ⟨by decide, by decide⟩, by decide +kernel⟩
theorem v_X5_indexOf : YV yX5_indexOf := ⟨List.mem_of_getElem? (i := 745) (by decide +kernel), List.mem_of_getElem? (i := 7) (by decide +kernel)⟩
theorem m_X0_placeOf : YM yX0_placeOf cX0_placeOf 3 (some .int) 1 := ⟨⟨List.mem_of_getElem? (i := 1132) (by decide +kernel), by decide +kernel⟩, List.mem_of_getElem? (i := 19) (by decide +kernel), ⟨by decide, by decide⟩, by decide +kernel⟩
theorem v_X0_placeOf : YV yX0_placeOf := ⟨List.mem_of_getElem? (i := 1130) (by decide +kernel), List.mem_of_getElem? (i := 1131) (by decide +kernel)⟩
theorem m_X3_copyFrom : YM yX3_copyFrom cX3_copyFrom 3 (none) 1 := ⟨⟨List.mem_of_getElem? (i := 549) (by decide +kernel), by decide +kernel⟩, List.mem_of_getElem? (i := 17) (by decide +kernel), ⟨by decide, by decide⟩, by decide +kernel⟩
theorem v_X3_copyFrom : YV yX3_copyFrom := ⟨List.mem_of_getElem? (i := 547) (by decide +kernel), List.mem_of_getElem? (i := 548) (by decide +kernel)⟩
theorem m_X5_copyFrom : YM yX5_copyFrom cX5_copyFrom 3 (none) 1 := ⟨⟨List.mem_of_getElem? (i := 557) (by decide +kernel), by decide +kernel⟩, List.mem_of_getElem? (i := 18) (by decide +kernel), ⟨by decide, by decide⟩, by decide +kernel⟩
theorem v_X5_copyFrom : YV yX5_copyFrom := ⟨List.mem_of_getElem? (i := 555) (by decide +kernel), List.mem_of_getElem? (i := 556) (by decide +kernel)⟩
theorem m_X0_copyFrom : YM yX0_copyFrom cX0_copyFrom 3 (none) 1 := ⟨⟨List.mem_of_getElem? (i := 561) (by decide +kernel), by decide +kernel⟩, List.mem_of_getElem? (i := 19) (by decide +kernel), ⟨by decide, by decide⟩, by decide +kernel⟩
theorem v_X0_copyFrom : YV yX0_copyFrom := ⟨List.mem_of_getElem? (i := 559) (by decide +kernel), List.mem_of_getElem? (i := 560) (by decide +kernel)⟩
theorem m_X6_isKind : YM yX6_isKind cX6_isKind 1 (some .boolean) 1 := ⟨⟨List.mem_of_getElem? (i := 629) (by decide +kernel), by decide +kernel⟩, List.mem_of_getElem? (i := 15) (by decide +kernel), ⟨by decide, by decide⟩, by decide +kernel⟩
theorem v_X6_isKind : YS yX6_isKind := List.mem_of_getElem? (i := 628) (by decide +kernel)
theorem m_X3_append : YM yX3_append cX3_append 6 (some .int) 4 := ⟨⟨List.mem_of_getElem? (i := 637) (by decide +kernel), by decide +kernel⟩, List.mem_of_getElem? (i := 17) (by decide +kernel), ⟨by decide, by decide⟩, by decide +kernel⟩
theorem v_X3_append : YV yX3_append := ⟨List.mem_of_getElem? (i := 635) (by decide +kernel), List.mem_of_getElem? (i := 636) (by decide +kernel)⟩
theorem m_X3_slotWith : YM yX3_slotWith cX3_slotWith 3 (some .int) 1 := ⟨⟨List.mem_of_getElem? (i := 486) (by decide +kernel), by decide +kernel⟩, List.mem_of_getElem? (i := 17) (by decide +kernel), ⟨by decide, by decide⟩, by decide +kernel⟩
theorem v_X3_slotWith : YV yX3_slotWith := ⟨List.mem_of_getElem? (i := 484) (by decide +kernel), List.mem_of_getElem? (i := 485) (by decide +kernel)⟩
theorem m_X3_countSealed : YM yX3_countSealed cX3_countSealed 3 (some .int) 0 := ⟨⟨List.mem_of_getElem? (i := 724) (by decide +kernel), by decide +kernel⟩, List.mem_of_getElem? (i := 17) (by decide +kernel), ⟨by decide, by decide⟩, by decide +kernel⟩
theorem v_X3_countSealed : YV yX3_countSealed := ⟨List.mem_of_getElem? (i := 722) (by decide +kernel), List.mem_of_getElem? (i := 723) (by decide +kernel)⟩
theorem m_X3_countDamp : YM yX3_countDamp cX3_countDamp 3 (some .int) 0 := ⟨⟨List.mem_of_getElem? (i := 302) (by decide +kernel), by decide +kernel⟩, List.mem_of_getElem? (i := 17) (by decide +kernel), ⟨by decide, by decide⟩, by decide +kernel⟩
theorem v_X3_countDamp : YV yX3_countDamp := ⟨List.mem_of_getElem? (i := 300) (by decide +kernel), List.mem_of_getElem? (i := 301) (by decide +kernel)⟩
theorem m_X0_append : YM yX0_append cX0_append 2 (some .int) 1 := ⟨⟨List.mem_of_getElem? (i := 1128) (by decide +kernel), by decide +kernel⟩, List.mem_of_getElem? (i := 19) (by decide +kernel), ⟨by decide, by decide⟩, by decide +kernel⟩
theorem v_X0_append : YV yX0_append := ⟨List.mem_of_getElem? (i := 1126) (by decide +kernel), List.mem_of_getElem? (i := 1127) (by decide +kernel)⟩
theorem m_X0_remove : YM yX0_remove cX0_remove 4 (none) 1 := ⟨⟨List.mem_of_getElem? (i := 592) (by decide +kernel), by decide +kernel⟩, List.mem_of_getElem? (i := 19) (by decide +kernel), ⟨by decide, by decide⟩, by decide +kernel⟩
theorem v_X0_remove : YV yX0_remove := ⟨List.mem_of_getElem? (i := 590) (by decide +kernel), List.mem_of_getElem? (i := 591) (by decide +kernel)⟩
theorem m_X5_dutyByParts : YM yX5_dutyByParts cX5_dutyByParts 6 (some .int) 1 := ⟨⟨List.mem_of_getElem? (i := 342) (by decide +kernel), by decide +kernel⟩, List.mem_of_getElem? (i := 18) (by decide +kernel), ⟨by decide, by decide⟩, by decide +kernel⟩
theorem v_X5_dutyByParts : YV yX5_dutyByParts := ⟨List.mem_of_getElem? (i := 340) (by decide +kernel), List.mem_of_getElem? (i := 341) (by decide +kernel)⟩
theorem m_X3_remove : YM yX3_remove cX3_remove 3 (none) 1 := ⟨⟨List.mem_of_getElem? (i := 596) (by decide +kernel), by decide +kernel⟩, List.mem_of_getElem? (i := 17) (by decide +kernel), ⟨by decide, by decide⟩, by decide +kernel⟩
theorem v_X3_remove : YV yX3_remove := ⟨List.mem_of_getElem? (i := 594) (by decide +kernel), List.mem_of_getElem? (i := 595) (by decide +kernel)⟩
theorem m_X4_dutyOf : YM yX4_dutyOf cX4_dutyOf 2 (some .int) 1 := ⟨⟨List.mem_of_getElem? (i := 334) (by decide +kernel), by decide +kernel⟩, List.mem_of_getElem? (i := 16) (by decide +kernel), ⟨by decide, by decide⟩, by decide +kernel⟩
theorem v_X4_dutyOf : YV yX4_dutyOf := ⟨List.mem_of_getElem? (i := 332) (by decide +kernel), List.mem_of_getElem? (i := 333) (by decide +kernel)⟩
theorem m_X4_letLeave : YM yX4_letLeave cX4_letLeave 2 (none) 1 := ⟨⟨List.mem_of_getElem? (i := 588) (by decide +kernel), by decide +kernel⟩, List.mem_of_getElem? (i := 16) (by decide +kernel), ⟨by decide, by decide⟩, by decide +kernel⟩
theorem v_X4_letLeave : YV yX4_letLeave := ⟨List.mem_of_getElem? (i := 587) (by decide +kernel), List.mem_of_getElem? (i := 5) (by decide +kernel)⟩
theorem m_X3_spreadFrom : YM yX3_spreadFrom cX3_spreadFrom 5 (none) 1 := ⟨⟨List.mem_of_getElem? (i := 577) (by decide +kernel), by decide +kernel⟩, List.mem_of_getElem? (i := 17) (by decide +kernel), ⟨by decide, by decide⟩, by decide +kernel⟩
theorem v_X3_spreadFrom : YV yX3_spreadFrom := ⟨List.mem_of_getElem? (i := 575) (by decide +kernel), List.mem_of_getElem? (i := 576) (by decide +kernel)⟩
theorem m_X4_letOneDayPass : YM yX4_letOneDayPass cX4_letOneDayPass 3 (none) 0 := ⟨⟨List.mem_of_getElem? (i := 569) (by decide +kernel), by decide +kernel⟩, List.mem_of_getElem? (i := 16) (by decide +kernel), ⟨by decide, by decide⟩, by decide +kernel⟩
theorem v_X4_letOneDayPass : YV yX4_letOneDayPass := ⟨List.mem_of_getElem? (i := 568) (by decide +kernel), List.mem_of_getElem? (i := 4) (by decide +kernel)⟩
theorem m_X5_dutyByCoins : YM yX5_dutyByCoins cX5_dutyByCoins 5 (some .int) 1 := ⟨⟨List.mem_of_getElem? (i := 1384) (by decide +kernel), by decide +kernel⟩, List.mem_of_getElem? (i := 18) (by decide +kernel), ⟨by decide, by decide⟩, by decide +kernel⟩
theorem v_X5_dutyByCoins : YV yX5_dutyByCoins := ⟨List.mem_of_getElem? (i := 1382) (by decide +kernel), List.mem_of_getElem? (i := 1383) (by decide +kernel)⟩
theorem m_X4_sortDutiesInto : YM yX4_sortDutiesInto cX4_sortDutiesInto 5 (none) 1 := ⟨⟨List.mem_of_getElem? (i := 330) (by decide +kernel), by decide +kernel⟩, List.mem_of_getElem? (i := 16) (by decide +kernel), ⟨by decide, by decide⟩, by decide +kernel⟩
theorem v_X4_sortDutiesInto : YV yX4_sortDutiesInto := ⟨List.mem_of_getElem? (i := 329) (by decide +kernel), List.mem_of_getElem? (i := 0) (by decide +kernel)⟩
theorem m_X4_takeIn : YM yX4_takeIn cX4_takeIn 7 (some .int) 4 := ⟨⟨List.mem_of_getElem? (i := 625) (by decide +kernel), by decide +kernel⟩, List.mem_of_getElem? (i := 16) (by decide +kernel), ⟨by decide, by decide⟩, by decide +kernel⟩
theorem v_X4_takeIn : YV yX4_takeIn := ⟨List.mem_of_getElem? (i := 623) (by decide +kernel), List.mem_of_getElem? (i := 624) (by decide +kernel)⟩
theorem m_X4_sealLot : YM yX4_sealLot cX4_sealLot 3 (some .int) 1 := ⟨⟨List.mem_of_getElem? (i := 720) (by decide +kernel), by decide +kernel⟩, List.mem_of_getElem? (i := 16) (by decide +kernel), ⟨by decide, by decide⟩, by decide +kernel⟩
theorem v_X4_sealLot : YV yX4_sealLot := ⟨List.mem_of_getElem? (i := 718) (by decide +kernel), List.mem_of_getElem? (i := 719) (by decide +kernel)⟩
theorem m_X4_openLot : YM yX4_openLot cX4_openLot 3 (some .int) 1 := ⟨⟨List.mem_of_getElem? (i := 768) (by decide +kernel), by decide +kernel⟩, List.mem_of_getElem? (i := 16) (by decide +kernel), ⟨by decide, by decide⟩, by decide +kernel⟩
theorem v_X4_openLot : YV yX4_openLot := ⟨List.mem_of_getElem? (i := 766) (by decide +kernel), List.mem_of_getElem? (i := 767) (by decide +kernel)⟩
theorem m_X4_wetLot : YM yX4_wetLot cX4_wetLot 3 (some .int) 1 := ⟨⟨List.mem_of_getElem? (i := 779) (by decide +kernel), by decide +kernel⟩, List.mem_of_getElem? (i := 16) (by decide +kernel), ⟨by decide, by decide⟩, by decide +kernel⟩
theorem v_X4_wetLot : YV yX4_wetLot := ⟨List.mem_of_getElem? (i := 777) (by decide +kernel), List.mem_of_getElem? (i := 778) (by decide +kernel)⟩
theorem m_X4_queueLot : YM yX4_queueLot cX4_queueLot 2 (some .int) 1 := ⟨⟨List.mem_of_getElem? (i := 1124) (by decide +kernel), by decide +kernel⟩, List.mem_of_getElem? (i := 16) (by decide +kernel), ⟨by decide, by decide⟩, by decide +kernel⟩
theorem v_X4_queueLot : YV yX4_queueLot := ⟨List.mem_of_getElem? (i := 1122) (by decide +kernel), List.mem_of_getElem? (i := 1123) (by decide +kernel)⟩
theorem m_X4_releaseLot : YM yX4_releaseLot cX4_releaseLot 4 (some .int) 1 := ⟨⟨List.mem_of_getElem? (i := 1136) (by decide +kernel), by decide +kernel⟩, List.mem_of_getElem? (i := 16) (by decide +kernel), ⟨by decide, by decide⟩, by decide +kernel⟩
theorem v_X4_releaseLot : YV yX4_releaseLot := ⟨List.mem_of_getElem? (i := 1134) (by decide +kernel), List.mem_of_getElem? (i := 1135) (by decide +kernel)⟩
theorem m_X4_moveLot : YM yX4_moveLot cX4_moveLot 5 (some .int) 2 := ⟨⟨List.mem_of_getElem? (i := 791) (by decide +kernel), by decide +kernel⟩, List.mem_of_getElem? (i := 16) (by decide +kernel), ⟨by decide, by decide⟩, by decide +kernel⟩
theorem v_X4_moveLot : YV yX4_moveLot := ⟨List.mem_of_getElem? (i := 789) (by decide +kernel), List.mem_of_getElem? (i := 790) (by decide +kernel)⟩
theorem m_X4_auditFirst : YM yX4_auditFirst cX4_auditFirst 3 (some .int) 0 := ⟨⟨List.mem_of_getElem? (i := 697) (by decide +kernel), by decide +kernel⟩, List.mem_of_getElem? (i := 16) (by decide +kernel), ⟨by decide, by decide⟩, by decide +kernel⟩
theorem v_X4_auditFirst : YV yX4_auditFirst := ⟨List.mem_of_getElem? (i := 695) (by decide +kernel), List.mem_of_getElem? (i := 696) (by decide +kernel)⟩
theorem m_X5_insert : YM yX5_insert cX5_insert 4 (some .int) 2 := ⟨⟨List.mem_of_getElem? (i := 742) (by decide +kernel), by decide +kernel⟩, List.mem_of_getElem? (i := 18) (by decide +kernel), ⟨by decide, by decide⟩, by decide +kernel⟩
theorem v_X5_insert : YV yX5_insert := ⟨List.mem_of_getElem? (i := 740) (by decide +kernel), List.mem_of_getElem? (i := 741) (by decide +kernel)⟩
theorem m_X4_takeCoins : YM yX4_takeCoins cX4_takeCoins 2 (some .int) 1 := ⟨⟨List.mem_of_getElem? (i := 709) (by decide +kernel), by decide +kernel⟩, List.mem_of_getElem? (i := 16) (by decide +kernel), ⟨by decide, by decide⟩, by decide +kernel⟩
theorem v_X4_takeCoins : YV yX4_takeCoins := ⟨List.mem_of_getElem? (i := 707) (by decide +kernel), List.mem_of_getElem? (i := 708) (by decide +kernel)⟩
theorem m_X1_isDigit : YM yX1_isDigit cX1_isDigit 1 (some .boolean) 1 := ⟨⟨List.mem_of_getElem? (i := 1091) (by decide +kernel), by decide +kernel⟩, List.mem_of_getElem? (i := 21) (by decide +kernel), ⟨by decide, by decide⟩, by decide +kernel⟩
theorem v_X1_isDigit : YS yX1_isDigit := List.mem_of_getElem? (i := 1090) (by decide +kernel)
theorem m_X1_readCharacter : YM yX1_readCharacter cX1_readCharacter 4 (some .boolean) 1 := ⟨⟨List.mem_of_getElem? (i := 1095) (by decide +kernel), by decide +kernel⟩, List.mem_of_getElem? (i := 21) (by decide +kernel), ⟨by decide, by decide⟩, by decide +kernel⟩
theorem v_X1_readCharacter : YV yX1_readCharacter := ⟨List.mem_of_getElem? (i := 1094) (by decide +kernel), List.mem_of_getElem? (i := 10) (by decide +kernel)⟩
theorem m_X1_readNumber : YM yX1_readNumber cX1_readNumber 3 (some .boolean) 0 := ⟨⟨List.mem_of_getElem? (i := 1088) (by decide +kernel), by decide +kernel⟩, List.mem_of_getElem? (i := 21) (by decide +kernel), ⟨by decide, by decide⟩, by decide +kernel⟩
theorem v_X1_readNumber : YV yX1_readNumber := ⟨List.mem_of_getElem? (i := 1087) (by decide +kernel), List.mem_of_getElem? (i := 9) (by decide +kernel)⟩
theorem m_X1_formOf : YM yX1_formOf cX1_formOf 1 (some (.object "java/lang/String")) 1 := ⟨⟨List.mem_of_getElem? (i := 1067) (by decide +kernel), by decide +kernel⟩, List.mem_of_getElem? (i := 21) (by decide +kernel), ⟨by decide, by decide⟩, by decide +kernel⟩
theorem v_X1_formOf : YS yX1_formOf := List.mem_of_getElem? (i := 1066) (by decide +kernel)
theorem m_X1_readForm : YM yX1_readForm cX1_readForm 5 (some .boolean) 1 := ⟨⟨List.mem_of_getElem? (i := 1082) (by decide +kernel), by decide +kernel⟩, List.mem_of_getElem? (i := 21) (by decide +kernel), ⟨by decide, by decide⟩, by decide +kernel⟩
theorem v_X1_readForm : YV yX1_readForm := ⟨List.mem_of_getElem? (i := 1081) (by decide +kernel), List.mem_of_getElem? (i := 8) (by decide +kernel)⟩
theorem m_X1_rewind : YM yX1_rewind cX1_rewind 1 (none) 0 := ⟨⟨List.mem_of_getElem? (i := 1060) (by decide +kernel), by decide +kernel⟩, List.mem_of_getElem? (i := 21) (by decide +kernel), ⟨by decide, by decide⟩, by decide +kernel⟩
theorem v_X1_rewind : YV yX1_rewind := ⟨List.mem_of_getElem? (i := 1058) (by decide +kernel), List.mem_of_getElem? (i := 1059) (by decide +kernel)⟩
theorem m_X1_readCommand : YM yX1_readCommand cX1_readCommand 4 (some .boolean) 0 := ⟨⟨List.mem_of_getElem? (i := 1064) (by decide +kernel), by decide +kernel⟩, List.mem_of_getElem? (i := 21) (by decide +kernel), ⟨by decide, by decide⟩, by decide +kernel⟩
theorem v_X1_readCommand : YV yX1_readCommand := ⟨List.mem_of_getElem? (i := 1062) (by decide +kernel), List.mem_of_getElem? (i := 1063) (by decide +kernel)⟩
theorem m_X1_skipSemicolon : YM yX1_skipSemicolon cX1_skipSemicolon 1 (none) 0 := ⟨⟨List.mem_of_getElem? (i := 1101) (by decide +kernel), by decide +kernel⟩, List.mem_of_getElem? (i := 21) (by decide +kernel), ⟨by decide, by decide⟩, by decide +kernel⟩
theorem v_X1_skipSemicolon : YV yX1_skipSemicolon := ⟨List.mem_of_getElem? (i := 1099) (by decide +kernel), List.mem_of_getElem? (i := 1100) (by decide +kernel)⟩

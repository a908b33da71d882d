/-! printed by wip/whole/tools/emit.py: the worlds of the groups, words of the tables by their places, facts of methods -/
def wSh (T : Nat → ClassId) (a : Nat → Nat) (S : Mem) : va_W := [(a 0, .inr (8, [.ref (a 1), .ref (a 9), .ref (a 12), .int (S.1 3), .int (S.1 4), .int (S.1 5), .int (S.1 6)])), (a 1, .inr (7, [.ref (a 2), .ref (a 3), .ref (a 4), .ref (a 5), .ref (a 6), .ref (a 7), .ref (a 8), .int (S.1 0), .int (S.1 1)])), (a 2, .inl (T 0, 16, .inl (S.2 0))), (a 3, .inl (T 1, 16, .inl (S.2 1))), (a 4, .inl (T 0, 16, .inl (S.2 2))), (a 5, .inl (T 0, 16, .inl (S.2 3))), (a 6, .inl (T 0, 16, .inl (S.2 4))), (a 7, .inl (T 2, 16, .inl (S.2 5))), (a 8, .inl (T 2, 16, .inl (S.2 6))), (a 9, .inr (9, [.ref (a 10), .ref (a 11), .int (S.1 2)])), (a 10, .inl (T 0, 6, .inl (S.2 7))), (a 11, .inl (T 0, 6, .inl (S.2 8))), (a 12, .inr (4, [.ref (a 13), .int (S.1 7)])), (a 13, .inl (T 0, 16, .inl (S.2 9)))]
theorem at_Sh_0 (T : Nat → ClassId) (a : Nat → Nat) (S : Mem) : (wSh T a S)[0]? = some (a 0, .inr (8, [.ref (a 1), .ref (a 9), .ref (a 12), .int (S.1 3), .int (S.1 4), .int (S.1 5), .int (S.1 6)])) := rfl
theorem pt_Sh_0_3 (T : Nat → ClassId) (a : Nat → Nat) (S : Mem) (v : Int32) : (wSh T a S).set 0 (a 0, .inr (8, List.set [.ref (a 1), .ref (a 9), .ref (a 12), .int (S.1 3), .int (S.1 4), .int (S.1 5), .int (S.1 6)] 3 (.int v))) = wSh T a (wrI S 3 v) := rfl
theorem pt_Sh_0_4 (T : Nat → ClassId) (a : Nat → Nat) (S : Mem) (v : Int32) : (wSh T a S).set 0 (a 0, .inr (8, List.set [.ref (a 1), .ref (a 9), .ref (a 12), .int (S.1 3), .int (S.1 4), .int (S.1 5), .int (S.1 6)] 4 (.int v))) = wSh T a (wrI S 4 v) := rfl
theorem pt_Sh_0_5 (T : Nat → ClassId) (a : Nat → Nat) (S : Mem) (v : Int32) : (wSh T a S).set 0 (a 0, .inr (8, List.set [.ref (a 1), .ref (a 9), .ref (a 12), .int (S.1 3), .int (S.1 4), .int (S.1 5), .int (S.1 6)] 5 (.int v))) = wSh T a (wrI S 5 v) := rfl
theorem pt_Sh_0_6 (T : Nat → ClassId) (a : Nat → Nat) (S : Mem) (v : Int32) : (wSh T a S).set 0 (a 0, .inr (8, List.set [.ref (a 1), .ref (a 9), .ref (a 12), .int (S.1 3), .int (S.1 4), .int (S.1 5), .int (S.1 6)] 6 (.int v))) = wSh T a (wrI S 6 v) := rfl
theorem at_Sh_1 (T : Nat → ClassId) (a : Nat → Nat) (S : Mem) : (wSh T a S)[1]? = some (a 1, .inr (7, [.ref (a 2), .ref (a 3), .ref (a 4), .ref (a 5), .ref (a 6), .ref (a 7), .ref (a 8), .int (S.1 0), .int (S.1 1)])) := rfl
theorem pt_Sh_1_7 (T : Nat → ClassId) (a : Nat → Nat) (S : Mem) (v : Int32) : (wSh T a S).set 1 (a 1, .inr (7, List.set [.ref (a 2), .ref (a 3), .ref (a 4), .ref (a 5), .ref (a 6), .ref (a 7), .ref (a 8), .int (S.1 0), .int (S.1 1)] 7 (.int v))) = wSh T a (wrI S 0 v) := rfl
theorem pt_Sh_1_8 (T : Nat → ClassId) (a : Nat → Nat) (S : Mem) (v : Int32) : (wSh T a S).set 1 (a 1, .inr (7, List.set [.ref (a 2), .ref (a 3), .ref (a 4), .ref (a 5), .ref (a 6), .ref (a 7), .ref (a 8), .int (S.1 0), .int (S.1 1)] 8 (.int v))) = wSh T a (wrI S 1 v) := rfl
theorem at_Sh_2 (T : Nat → ClassId) (a : Nat → Nat) (S : Mem) : (wSh T a S)[2]? = some (a 2, .inl (T 0, 16, .inl (S.2 0))) := rfl
theorem st_Sh_2 (T : Nat → ClassId) (a : Nat → Nat) (S : Mem) (i v : Int32) : (wSh T a S).set 2 (a 2, .inl (T 0, 16, .inl (upd (S.2 0) i.toNatClampNeg v))) = wSh T a (wrA S 0 i v) := rfl
theorem at_Sh_3 (T : Nat → ClassId) (a : Nat → Nat) (S : Mem) : (wSh T a S)[3]? = some (a 3, .inl (T 1, 16, .inl (S.2 1))) := rfl
theorem st_Sh_3 (T : Nat → ClassId) (a : Nat → Nat) (S : Mem) (i v : Int32) : (wSh T a S).set 3 (a 3, .inl (T 1, 16, .inl (upd (S.2 1) i.toNatClampNeg (vp_nar .char v)))) = wSh T a (wrA S 1 i (vp_nar .char v)) := rfl
theorem at_Sh_4 (T : Nat → ClassId) (a : Nat → Nat) (S : Mem) : (wSh T a S)[4]? = some (a 4, .inl (T 0, 16, .inl (S.2 2))) := rfl
theorem st_Sh_4 (T : Nat → ClassId) (a : Nat → Nat) (S : Mem) (i v : Int32) : (wSh T a S).set 4 (a 4, .inl (T 0, 16, .inl (upd (S.2 2) i.toNatClampNeg v))) = wSh T a (wrA S 2 i v) := rfl
theorem at_Sh_5 (T : Nat → ClassId) (a : Nat → Nat) (S : Mem) : (wSh T a S)[5]? = some (a 5, .inl (T 0, 16, .inl (S.2 3))) := rfl
theorem st_Sh_5 (T : Nat → ClassId) (a : Nat → Nat) (S : Mem) (i v : Int32) : (wSh T a S).set 5 (a 5, .inl (T 0, 16, .inl (upd (S.2 3) i.toNatClampNeg v))) = wSh T a (wrA S 3 i v) := rfl
theorem at_Sh_6 (T : Nat → ClassId) (a : Nat → Nat) (S : Mem) : (wSh T a S)[6]? = some (a 6, .inl (T 0, 16, .inl (S.2 4))) := rfl
theorem st_Sh_6 (T : Nat → ClassId) (a : Nat → Nat) (S : Mem) (i v : Int32) : (wSh T a S).set 6 (a 6, .inl (T 0, 16, .inl (upd (S.2 4) i.toNatClampNeg v))) = wSh T a (wrA S 4 i v) := rfl
theorem at_Sh_7 (T : Nat → ClassId) (a : Nat → Nat) (S : Mem) : (wSh T a S)[7]? = some (a 7, .inl (T 2, 16, .inl (S.2 5))) := rfl
theorem st_Sh_7 (T : Nat → ClassId) (a : Nat → Nat) (S : Mem) (i v : Int32) : (wSh T a S).set 7 (a 7, .inl (T 2, 16, .inl (upd (S.2 5) i.toNatClampNeg (vp_nar .boolean v)))) = wSh T a (wrA S 5 i (vp_nar .boolean v)) := rfl
theorem at_Sh_8 (T : Nat → ClassId) (a : Nat → Nat) (S : Mem) : (wSh T a S)[8]? = some (a 8, .inl (T 2, 16, .inl (S.2 6))) := rfl
theorem st_Sh_8 (T : Nat → ClassId) (a : Nat → Nat) (S : Mem) (i v : Int32) : (wSh T a S).set 8 (a 8, .inl (T 2, 16, .inl (upd (S.2 6) i.toNatClampNeg (vp_nar .boolean v)))) = wSh T a (wrA S 6 i (vp_nar .boolean v)) := rfl
theorem at_Sh_9 (T : Nat → ClassId) (a : Nat → Nat) (S : Mem) : (wSh T a S)[9]? = some (a 9, .inr (9, [.ref (a 10), .ref (a 11), .int (S.1 2)])) := rfl
theorem pt_Sh_9_2 (T : Nat → ClassId) (a : Nat → Nat) (S : Mem) (v : Int32) : (wSh T a S).set 9 (a 9, .inr (9, List.set [.ref (a 10), .ref (a 11), .int (S.1 2)] 2 (.int v))) = wSh T a (wrI S 2 v) := rfl
theorem at_Sh_10 (T : Nat → ClassId) (a : Nat → Nat) (S : Mem) : (wSh T a S)[10]? = some (a 10, .inl (T 0, 6, .inl (S.2 7))) := rfl
theorem st_Sh_10 (T : Nat → ClassId) (a : Nat → Nat) (S : Mem) (i v : Int32) : (wSh T a S).set 10 (a 10, .inl (T 0, 6, .inl (upd (S.2 7) i.toNatClampNeg v))) = wSh T a (wrA S 7 i v) := rfl
theorem at_Sh_11 (T : Nat → ClassId) (a : Nat → Nat) (S : Mem) : (wSh T a S)[11]? = some (a 11, .inl (T 0, 6, .inl (S.2 8))) := rfl
theorem st_Sh_11 (T : Nat → ClassId) (a : Nat → Nat) (S : Mem) (i v : Int32) : (wSh T a S).set 11 (a 11, .inl (T 0, 6, .inl (upd (S.2 8) i.toNatClampNeg v))) = wSh T a (wrA S 8 i v) := rfl
theorem at_Sh_12 (T : Nat → ClassId) (a : Nat → Nat) (S : Mem) : (wSh T a S)[12]? = some (a 12, .inr (4, [.ref (a 13), .int (S.1 7)])) := rfl
theorem pt_Sh_12_1 (T : Nat → ClassId) (a : Nat → Nat) (S : Mem) (v : Int32) : (wSh T a S).set 12 (a 12, .inr (4, List.set [.ref (a 13), .int (S.1 7)] 1 (.int v))) = wSh T a (wrI S 7 v) := rfl
theorem at_Sh_13 (T : Nat → ClassId) (a : Nat → Nat) (S : Mem) : (wSh T a S)[13]? = some (a 13, .inl (T 0, 16, .inl (S.2 9))) := rfl
theorem st_Sh_13 (T : Nat → ClassId) (a : Nat → Nat) (S : Mem) (i v : Int32) : (wSh T a S).set 13 (a 13, .inl (T 0, 16, .inl (upd (S.2 9) i.toNatClampNeg v))) = wSh T a (wrA S 9 i v) := rfl
def wTe (T : Nat → ClassId) (a : Nat → Nat) (S : Mem) : va_W := [(a 0, .inr (5, [.ref (a 1), .ref (a 2), .int (S.1 0), .int (S.1 1), .int (S.1 2), .int (S.1 3), .int (S.1 4)])), (a 1, .inl (T 1, 60, .inl (S.2 0))), (a 2, .inl (T 0, 3, .inl (S.2 1)))]
theorem at_Te_0 (T : Nat → ClassId) (a : Nat → Nat) (S : Mem) : (wTe T a S)[0]? = some (a 0, .inr (5, [.ref (a 1), .ref (a 2), .int (S.1 0), .int (S.1 1), .int (S.1 2), .int (S.1 3), .int (S.1 4)])) := rfl
theorem pt_Te_0_2 (T : Nat → ClassId) (a : Nat → Nat) (S : Mem) (v : Int32) : (wTe T a S).set 0 (a 0, .inr (5, List.set [.ref (a 1), .ref (a 2), .int (S.1 0), .int (S.1 1), .int (S.1 2), .int (S.1 3), .int (S.1 4)] 2 (.int v))) = wTe T a (wrI S 0 v) := rfl
theorem pt_Te_0_3 (T : Nat → ClassId) (a : Nat → Nat) (S : Mem) (v : Int32) : (wTe T a S).set 0 (a 0, .inr (5, List.set [.ref (a 1), .ref (a 2), .int (S.1 0), .int (S.1 1), .int (S.1 2), .int (S.1 3), .int (S.1 4)] 3 (.int v))) = wTe T a (wrI S 1 v) := rfl
theorem pt_Te_0_4 (T : Nat → ClassId) (a : Nat → Nat) (S : Mem) (v : Int32) : (wTe T a S).set 0 (a 0, .inr (5, List.set [.ref (a 1), .ref (a 2), .int (S.1 0), .int (S.1 1), .int (S.1 2), .int (S.1 3), .int (S.1 4)] 4 (.int v))) = wTe T a (wrI S 2 v) := rfl
theorem pt_Te_0_5 (T : Nat → ClassId) (a : Nat → Nat) (S : Mem) (v : Int32) : (wTe T a S).set 0 (a 0, .inr (5, List.set [.ref (a 1), .ref (a 2), .int (S.1 0), .int (S.1 1), .int (S.1 2), .int (S.1 3), .int (S.1 4)] 5 (.int v))) = wTe T a (wrI S 3 v) := rfl
theorem pt_Te_0_6 (T : Nat → ClassId) (a : Nat → Nat) (S : Mem) (v : Int32) : (wTe T a S).set 0 (a 0, .inr (5, List.set [.ref (a 1), .ref (a 2), .int (S.1 0), .int (S.1 1), .int (S.1 2), .int (S.1 3), .int (S.1 4)] 6 (.int v))) = wTe T a (wrI S 4 v) := rfl
theorem at_Te_1 (T : Nat → ClassId) (a : Nat → Nat) (S : Mem) : (wTe T a S)[1]? = some (a 1, .inl (T 1, 60, .inl (S.2 0))) := rfl
theorem st_Te_1 (T : Nat → ClassId) (a : Nat → Nat) (S : Mem) (i v : Int32) : (wTe T a S).set 1 (a 1, .inl (T 1, 60, .inl (upd (S.2 0) i.toNatClampNeg (vp_nar .char v)))) = wTe T a (wrA S 0 i (vp_nar .char v)) := rfl
theorem at_Te_2 (T : Nat → ClassId) (a : Nat → Nat) (S : Mem) : (wTe T a S)[2]? = some (a 2, .inl (T 0, 3, .inl (S.2 1))) := rfl
theorem st_Te_2 (T : Nat → ClassId) (a : Nat → Nat) (S : Mem) (i v : Int32) : (wTe T a S).set 2 (a 2, .inl (T 0, 3, .inl (upd (S.2 1) i.toNatClampNeg v))) = wTe T a (wrA S 1 i v) := rfl
def wAd (T : Nat → ClassId) (a : Nat → Nat) (S : Mem) : va_W := [(a 0, .inl (T 0, 16, .inl (S.2 0)))]
theorem at_Ad_0 (T : Nat → ClassId) (a : Nat → Nat) (S : Mem) : (wAd T a S)[0]? = some (a 0, .inl (T 0, 16, .inl (S.2 0))) := rfl
theorem st_Ad_0 (T : Nat → ClassId) (a : Nat → Nat) (S : Mem) (i v : Int32) : (wAd T a S).set 0 (a 0, .inl (T 0, 16, .inl (upd (S.2 0) i.toNatClampNeg v))) = wAd T a (wrA S 0 i v) := rfl
def wAb (T : Nat → ClassId) (a : Nat → Nat) (S : Mem) : va_W := [(a 0, .inl (T 0, 24, .inl (S.2 0)))]
theorem at_Ab_0 (T : Nat → ClassId) (a : Nat → Nat) (S : Mem) : (wAb T a S)[0]? = some (a 0, .inl (T 0, 24, .inl (S.2 0))) := rfl
theorem st_Ab_0 (T : Nat → ClassId) (a : Nat → Nat) (S : Mem) (i v : Int32) : (wAb T a S).set 0 (a 0, .inl (T 0, 24, .inl (upd (S.2 0) i.toNatClampNeg v))) = wAb T a (wrA S 0 i v) := rfl
def wMo (T : Nat → ClassId) (a : Nat → Nat) (S : Mem) : va_W := [(a 0, .inr (11, [.int (S.1 0), .ref (a 1), .ref (a 2), .ref (a 3), .ref (a 4), .ref (a 5), .int (S.1 1), .int (S.1 2), .ref (a 6), .ref (a 7), .ref (a 8), .ref (a 9), .ref (a 10), .int (S.1 3), .int (S.1 4), .int (S.1 5), .int (S.1 6), .int (S.1 7), .int (S.1 8), .int (S.1 9), .int (S.1 10), .int (S.1 11)])), (a 1, .inl (T 0, 148, .inl (S.2 0))), (a 2, .inl (T 0, 148, .inl (S.2 1))), (a 3, .inl (T 0, 148, .inl (S.2 2))), (a 4, .inl (T 0, 1184, .inl (S.2 3))), (a 5, .inl (T 0, 148, .inl (S.2 4))), (a 6, .inl (T 0, 60, .inl (S.2 5))), (a 7, .inl (T 0, 300, .inl (S.2 6))), (a 8, .inl (T 0, 40, .inl (S.2 7))), (a 9, .inl (T 0, 24, .inl (S.2 8))), (a 10, .inl (T 0, 24, .inl (S.2 9)))]
theorem at_Mo_0 (T : Nat → ClassId) (a : Nat → Nat) (S : Mem) : (wMo T a S)[0]? = some (a 0, .inr (11, [.int (S.1 0), .ref (a 1), .ref (a 2), .ref (a 3), .ref (a 4), .ref (a 5), .int (S.1 1), .int (S.1 2), .ref (a 6), .ref (a 7), .ref (a 8), .ref (a 9), .ref (a 10), .int (S.1 3), .int (S.1 4), .int (S.1 5), .int (S.1 6), .int (S.1 7), .int (S.1 8), .int (S.1 9), .int (S.1 10), .int (S.1 11)])) := rfl
theorem pt_Mo_0_0 (T : Nat → ClassId) (a : Nat → Nat) (S : Mem) (v : Int32) : (wMo T a S).set 0 (a 0, .inr (11, List.set [.int (S.1 0), .ref (a 1), .ref (a 2), .ref (a 3), .ref (a 4), .ref (a 5), .int (S.1 1), .int (S.1 2), .ref (a 6), .ref (a 7), .ref (a 8), .ref (a 9), .ref (a 10), .int (S.1 3), .int (S.1 4), .int (S.1 5), .int (S.1 6), .int (S.1 7), .int (S.1 8), .int (S.1 9), .int (S.1 10), .int (S.1 11)] 0 (.int v))) = wMo T a (wrI S 0 v) := rfl
theorem pt_Mo_0_6 (T : Nat → ClassId) (a : Nat → Nat) (S : Mem) (v : Int32) : (wMo T a S).set 0 (a 0, .inr (11, List.set [.int (S.1 0), .ref (a 1), .ref (a 2), .ref (a 3), .ref (a 4), .ref (a 5), .int (S.1 1), .int (S.1 2), .ref (a 6), .ref (a 7), .ref (a 8), .ref (a 9), .ref (a 10), .int (S.1 3), .int (S.1 4), .int (S.1 5), .int (S.1 6), .int (S.1 7), .int (S.1 8), .int (S.1 9), .int (S.1 10), .int (S.1 11)] 6 (.int v))) = wMo T a (wrI S 1 v) := rfl
theorem pt_Mo_0_7 (T : Nat → ClassId) (a : Nat → Nat) (S : Mem) (v : Int32) : (wMo T a S).set 0 (a 0, .inr (11, List.set [.int (S.1 0), .ref (a 1), .ref (a 2), .ref (a 3), .ref (a 4), .ref (a 5), .int (S.1 1), .int (S.1 2), .ref (a 6), .ref (a 7), .ref (a 8), .ref (a 9), .ref (a 10), .int (S.1 3), .int (S.1 4), .int (S.1 5), .int (S.1 6), .int (S.1 7), .int (S.1 8), .int (S.1 9), .int (S.1 10), .int (S.1 11)] 7 (.int v))) = wMo T a (wrI S 2 v) := rfl
theorem pt_Mo_0_13 (T : Nat → ClassId) (a : Nat → Nat) (S : Mem) (v : Int32) : (wMo T a S).set 0 (a 0, .inr (11, List.set [.int (S.1 0), .ref (a 1), .ref (a 2), .ref (a 3), .ref (a 4), .ref (a 5), .int (S.1 1), .int (S.1 2), .ref (a 6), .ref (a 7), .ref (a 8), .ref (a 9), .ref (a 10), .int (S.1 3), .int (S.1 4), .int (S.1 5), .int (S.1 6), .int (S.1 7), .int (S.1 8), .int (S.1 9), .int (S.1 10), .int (S.1 11)] 13 (.int v))) = wMo T a (wrI S 3 v) := rfl
theorem pt_Mo_0_14 (T : Nat → ClassId) (a : Nat → Nat) (S : Mem) (v : Int32) : (wMo T a S).set 0 (a 0, .inr (11, List.set [.int (S.1 0), .ref (a 1), .ref (a 2), .ref (a 3), .ref (a 4), .ref (a 5), .int (S.1 1), .int (S.1 2), .ref (a 6), .ref (a 7), .ref (a 8), .ref (a 9), .ref (a 10), .int (S.1 3), .int (S.1 4), .int (S.1 5), .int (S.1 6), .int (S.1 7), .int (S.1 8), .int (S.1 9), .int (S.1 10), .int (S.1 11)] 14 (.int v))) = wMo T a (wrI S 4 v) := rfl
theorem pt_Mo_0_15 (T : Nat → ClassId) (a : Nat → Nat) (S : Mem) (v : Int32) : (wMo T a S).set 0 (a 0, .inr (11, List.set [.int (S.1 0), .ref (a 1), .ref (a 2), .ref (a 3), .ref (a 4), .ref (a 5), .int (S.1 1), .int (S.1 2), .ref (a 6), .ref (a 7), .ref (a 8), .ref (a 9), .ref (a 10), .int (S.1 3), .int (S.1 4), .int (S.1 5), .int (S.1 6), .int (S.1 7), .int (S.1 8), .int (S.1 9), .int (S.1 10), .int (S.1 11)] 15 (.int v))) = wMo T a (wrI S 5 v) := rfl
theorem pt_Mo_0_16 (T : Nat → ClassId) (a : Nat → Nat) (S : Mem) (v : Int32) : (wMo T a S).set 0 (a 0, .inr (11, List.set [.int (S.1 0), .ref (a 1), .ref (a 2), .ref (a 3), .ref (a 4), .ref (a 5), .int (S.1 1), .int (S.1 2), .ref (a 6), .ref (a 7), .ref (a 8), .ref (a 9), .ref (a 10), .int (S.1 3), .int (S.1 4), .int (S.1 5), .int (S.1 6), .int (S.1 7), .int (S.1 8), .int (S.1 9), .int (S.1 10), .int (S.1 11)] 16 (.int v))) = wMo T a (wrI S 6 v) := rfl
theorem pt_Mo_0_17 (T : Nat → ClassId) (a : Nat → Nat) (S : Mem) (v : Int32) : (wMo T a S).set 0 (a 0, .inr (11, List.set [.int (S.1 0), .ref (a 1), .ref (a 2), .ref (a 3), .ref (a 4), .ref (a 5), .int (S.1 1), .int (S.1 2), .ref (a 6), .ref (a 7), .ref (a 8), .ref (a 9), .ref (a 10), .int (S.1 3), .int (S.1 4), .int (S.1 5), .int (S.1 6), .int (S.1 7), .int (S.1 8), .int (S.1 9), .int (S.1 10), .int (S.1 11)] 17 (.int v))) = wMo T a (wrI S 7 v) := rfl
theorem pt_Mo_0_18 (T : Nat → ClassId) (a : Nat → Nat) (S : Mem) (v : Int32) : (wMo T a S).set 0 (a 0, .inr (11, List.set [.int (S.1 0), .ref (a 1), .ref (a 2), .ref (a 3), .ref (a 4), .ref (a 5), .int (S.1 1), .int (S.1 2), .ref (a 6), .ref (a 7), .ref (a 8), .ref (a 9), .ref (a 10), .int (S.1 3), .int (S.1 4), .int (S.1 5), .int (S.1 6), .int (S.1 7), .int (S.1 8), .int (S.1 9), .int (S.1 10), .int (S.1 11)] 18 (.int v))) = wMo T a (wrI S 8 v) := rfl
theorem pt_Mo_0_19 (T : Nat → ClassId) (a : Nat → Nat) (S : Mem) (v : Int32) : (wMo T a S).set 0 (a 0, .inr (11, List.set [.int (S.1 0), .ref (a 1), .ref (a 2), .ref (a 3), .ref (a 4), .ref (a 5), .int (S.1 1), .int (S.1 2), .ref (a 6), .ref (a 7), .ref (a 8), .ref (a 9), .ref (a 10), .int (S.1 3), .int (S.1 4), .int (S.1 5), .int (S.1 6), .int (S.1 7), .int (S.1 8), .int (S.1 9), .int (S.1 10), .int (S.1 11)] 19 (.int v))) = wMo T a (wrI S 9 v) := rfl
theorem pt_Mo_0_20 (T : Nat → ClassId) (a : Nat → Nat) (S : Mem) (v : Int32) : (wMo T a S).set 0 (a 0, .inr (11, List.set [.int (S.1 0), .ref (a 1), .ref (a 2), .ref (a 3), .ref (a 4), .ref (a 5), .int (S.1 1), .int (S.1 2), .ref (a 6), .ref (a 7), .ref (a 8), .ref (a 9), .ref (a 10), .int (S.1 3), .int (S.1 4), .int (S.1 5), .int (S.1 6), .int (S.1 7), .int (S.1 8), .int (S.1 9), .int (S.1 10), .int (S.1 11)] 20 (.int v))) = wMo T a (wrI S 10 v) := rfl
theorem pt_Mo_0_21 (T : Nat → ClassId) (a : Nat → Nat) (S : Mem) (v : Int32) : (wMo T a S).set 0 (a 0, .inr (11, List.set [.int (S.1 0), .ref (a 1), .ref (a 2), .ref (a 3), .ref (a 4), .ref (a 5), .int (S.1 1), .int (S.1 2), .ref (a 6), .ref (a 7), .ref (a 8), .ref (a 9), .ref (a 10), .int (S.1 3), .int (S.1 4), .int (S.1 5), .int (S.1 6), .int (S.1 7), .int (S.1 8), .int (S.1 9), .int (S.1 10), .int (S.1 11)] 21 (.int v))) = wMo T a (wrI S 11 v) := rfl
theorem at_Mo_1 (T : Nat → ClassId) (a : Nat → Nat) (S : Mem) : (wMo T a S)[1]? = some (a 1, .inl (T 0, 148, .inl (S.2 0))) := rfl
theorem st_Mo_1 (T : Nat → ClassId) (a : Nat → Nat) (S : Mem) (i v : Int32) : (wMo T a S).set 1 (a 1, .inl (T 0, 148, .inl (upd (S.2 0) i.toNatClampNeg v))) = wMo T a (wrA S 0 i v) := rfl
theorem at_Mo_2 (T : Nat → ClassId) (a : Nat → Nat) (S : Mem) : (wMo T a S)[2]? = some (a 2, .inl (T 0, 148, .inl (S.2 1))) := rfl
theorem st_Mo_2 (T : Nat → ClassId) (a : Nat → Nat) (S : Mem) (i v : Int32) : (wMo T a S).set 2 (a 2, .inl (T 0, 148, .inl (upd (S.2 1) i.toNatClampNeg v))) = wMo T a (wrA S 1 i v) := rfl
theorem at_Mo_3 (T : Nat → ClassId) (a : Nat → Nat) (S : Mem) : (wMo T a S)[3]? = some (a 3, .inl (T 0, 148, .inl (S.2 2))) := rfl
theorem st_Mo_3 (T : Nat → ClassId) (a : Nat → Nat) (S : Mem) (i v : Int32) : (wMo T a S).set 3 (a 3, .inl (T 0, 148, .inl (upd (S.2 2) i.toNatClampNeg v))) = wMo T a (wrA S 2 i v) := rfl
theorem at_Mo_4 (T : Nat → ClassId) (a : Nat → Nat) (S : Mem) : (wMo T a S)[4]? = some (a 4, .inl (T 0, 1184, .inl (S.2 3))) := rfl
theorem st_Mo_4 (T : Nat → ClassId) (a : Nat → Nat) (S : Mem) (i v : Int32) : (wMo T a S).set 4 (a 4, .inl (T 0, 1184, .inl (upd (S.2 3) i.toNatClampNeg v))) = wMo T a (wrA S 3 i v) := rfl
theorem at_Mo_5 (T : Nat → ClassId) (a : Nat → Nat) (S : Mem) : (wMo T a S)[5]? = some (a 5, .inl (T 0, 148, .inl (S.2 4))) := rfl
theorem st_Mo_5 (T : Nat → ClassId) (a : Nat → Nat) (S : Mem) (i v : Int32) : (wMo T a S).set 5 (a 5, .inl (T 0, 148, .inl (upd (S.2 4) i.toNatClampNeg v))) = wMo T a (wrA S 4 i v) := rfl
theorem at_Mo_6 (T : Nat → ClassId) (a : Nat → Nat) (S : Mem) : (wMo T a S)[6]? = some (a 6, .inl (T 0, 60, .inl (S.2 5))) := rfl
theorem st_Mo_6 (T : Nat → ClassId) (a : Nat → Nat) (S : Mem) (i v : Int32) : (wMo T a S).set 6 (a 6, .inl (T 0, 60, .inl (upd (S.2 5) i.toNatClampNeg v))) = wMo T a (wrA S 5 i v) := rfl
theorem at_Mo_7 (T : Nat → ClassId) (a : Nat → Nat) (S : Mem) : (wMo T a S)[7]? = some (a 7, .inl (T 0, 300, .inl (S.2 6))) := rfl
theorem st_Mo_7 (T : Nat → ClassId) (a : Nat → Nat) (S : Mem) (i v : Int32) : (wMo T a S).set 7 (a 7, .inl (T 0, 300, .inl (upd (S.2 6) i.toNatClampNeg v))) = wMo T a (wrA S 6 i v) := rfl
theorem at_Mo_8 (T : Nat → ClassId) (a : Nat → Nat) (S : Mem) : (wMo T a S)[8]? = some (a 8, .inl (T 0, 40, .inl (S.2 7))) := rfl
theorem st_Mo_8 (T : Nat → ClassId) (a : Nat → Nat) (S : Mem) (i v : Int32) : (wMo T a S).set 8 (a 8, .inl (T 0, 40, .inl (upd (S.2 7) i.toNatClampNeg v))) = wMo T a (wrA S 7 i v) := rfl
theorem at_Mo_9 (T : Nat → ClassId) (a : Nat → Nat) (S : Mem) : (wMo T a S)[9]? = some (a 9, .inl (T 0, 24, .inl (S.2 8))) := rfl
theorem st_Mo_9 (T : Nat → ClassId) (a : Nat → Nat) (S : Mem) (i v : Int32) : (wMo T a S).set 9 (a 9, .inl (T 0, 24, .inl (upd (S.2 8) i.toNatClampNeg v))) = wMo T a (wrA S 8 i v) := rfl
theorem at_Mo_10 (T : Nat → ClassId) (a : Nat → Nat) (S : Mem) : (wMo T a S)[10]? = some (a 10, .inl (T 0, 24, .inl (S.2 9))) := rfl
theorem st_Mo_10 (T : Nat → ClassId) (a : Nat → Nat) (S : Mem) (i v : Int32) : (wMo T a S).set 10 (a 10, .inl (T 0, 24, .inl (upd (S.2 9) i.toNatClampNeg v))) = wMo T a (wrA S 9 i v) := rfl
theorem cl0 : CL 4 RX0 TX0 2 tyX0 := ⟨rfl, by unfold FC; decide +kernel, tyX0_ok, nmX0⟩
theorem cl1 : CL 5 RX1 TX1 7 tyX1 := ⟨rfl, by unfold FC; decide +kernel, tyX1_ok, nmX1⟩
theorem cl2 : CL 6 RX2 TX2 3 tyX2 := ⟨rfl, by unfold FC; decide +kernel, tyX2_ok, nmX2⟩
theorem cl3 : CL 7 RX3 TX3 9 tyX3 := ⟨rfl, by unfold FC; decide +kernel, tyX3_ok, nmX3⟩
theorem cl4 : CL 8 RX4 TX4 7 tyX4 := ⟨rfl, by unfold FC; decide +kernel, tyX4_ok, nmX4⟩
theorem cl5 : CL 9 RX5 TX5 3 tyX5 := ⟨rfl, by unfold FC; decide +kernel, tyX5_ok, nmX5⟩
theorem cl6 : CL 10 RX6 TX6 10 tyX6 := ⟨rfl, by unfold FC; decide +kernel, tyX6_ok, nmX6⟩
theorem cl7 : CL 11 RX7 TX7 22 tyX7 := ⟨rfl, by unfold FC; decide +kernel, tyX7_ok, nmX7⟩
theorem q76 : Cond.initialized "java/lang/Math" ∈ lw_tbl := List.mem_of_getElem? (i := 76) (by decide +kernel)
theorem q106 : Cond.fieldLink RX3 9 "CustomsShed$Lots" "ids" "[I" ∈ lw_tbl := List.mem_of_getElem? (i := 106) (by decide +kernel)
theorem q108 : Cond.fieldLinkNest RX4 113 "CustomsShed$Lots" "ids" "[I" "CustomsShed" ∈ lw_tbl := List.mem_of_getElem? (i := 108) (by decide +kernel)
theorem q109 : Cond.fieldLink RX3 15 "CustomsShed$Lots" "kinds" "[C" ∈ lw_tbl := List.mem_of_getElem? (i := 109) (by decide +kernel)
theorem q111 : Cond.fieldLink RX3 19 "CustomsShed$Lots" "quantities" "[I" ∈ lw_tbl := List.mem_of_getElem? (i := 111) (by decide +kernel)
theorem q113 : Cond.fieldLinkNest RX4 128 "CustomsShed$Lots" "quantities" "[I" "CustomsShed" ∈ lw_tbl := List.mem_of_getElem? (i := 113) (by decide +kernel)
theorem q114 : Cond.fieldLink RX3 22 "CustomsShed$Lots" "prices" "[I" ∈ lw_tbl := List.mem_of_getElem? (i := 114) (by decide +kernel)
theorem q116 : Cond.fieldLink RX3 25 "CustomsShed$Lots" "bays" "[I" ∈ lw_tbl := List.mem_of_getElem? (i := 116) (by decide +kernel)
theorem q117 : Cond.fieldLinkNest RX4 91 "CustomsShed$Lots" "bays" "[I" "CustomsShed" ∈ lw_tbl := List.mem_of_getElem? (i := 117) (by decide +kernel)
theorem q119 : Cond.fieldLink RX3 28 "CustomsShed$Lots" "underSeal" "[Z" ∈ lw_tbl := List.mem_of_getElem? (i := 119) (by decide +kernel)
theorem q120 : Cond.fieldLinkNest RX4 77 "CustomsShed$Lots" "underSeal" "[Z" "CustomsShed" ∈ lw_tbl := List.mem_of_getElem? (i := 120) (by decide +kernel)
theorem q122 : Cond.fieldLink RX3 32 "CustomsShed$Lots" "damp" "[Z" ∈ lw_tbl := List.mem_of_getElem? (i := 122) (by decide +kernel)
theorem q123 : Cond.fieldLinkNest RX4 81 "CustomsShed$Lots" "damp" "[Z" "CustomsShed" ∈ lw_tbl := List.mem_of_getElem? (i := 123) (by decide +kernel)
theorem q125 : Cond.fieldLink RX3 35 "CustomsShed$Lots" "count" "I" ∈ lw_tbl := List.mem_of_getElem? (i := 125) (by decide +kernel)
theorem q126 : Cond.fieldLinkNest RX4 63 "CustomsShed$Lots" "count" "I" "CustomsShed" ∈ lw_tbl := List.mem_of_getElem? (i := 126) (by decide +kernel)
theorem q128 : Cond.fieldLink RX3 39 "CustomsShed$Lots" "nextId" "I" ∈ lw_tbl := List.mem_of_getElem? (i := 128) (by decide +kernel)
theorem q157 : Cond.fieldLink RX5 9 "CustomsShed$Tariff" "thresholds" "[I" ∈ lw_tbl := List.mem_of_getElem? (i := 157) (by decide +kernel)
theorem q159 : Cond.fieldLink RX5 15 "CustomsShed$Tariff" "rates" "[I" ∈ lw_tbl := List.mem_of_getElem? (i := 159) (by decide +kernel)
theorem q161 : Cond.fieldLink RX5 18 "CustomsShed$Tariff" "count" "I" ∈ lw_tbl := List.mem_of_getElem? (i := 161) (by decide +kernel)
theorem q176 : Cond.fieldLink RX0 9 "CustomsShed$AuditQueue" "ids" "[I" ∈ lw_tbl := List.mem_of_getElem? (i := 176) (by decide +kernel)
theorem q177 : Cond.fieldLinkNest RX4 100 "CustomsShed$AuditQueue" "ids" "[I" "CustomsShed" ∈ lw_tbl := List.mem_of_getElem? (i := 177) (by decide +kernel)
theorem q179 : Cond.fieldLink RX0 15 "CustomsShed$AuditQueue" "length" "I" ∈ lw_tbl := List.mem_of_getElem? (i := 179) (by decide +kernel)
theorem q180 : Cond.fieldLinkNest RX4 97 "CustomsShed$AuditQueue" "length" "I" "CustomsShed" ∈ lw_tbl := List.mem_of_getElem? (i := 180) (by decide +kernel)
theorem q187 : Cond.fieldLink RX4 12 "CustomsShed$Shed" "lots" "LCustomsShed$Lots;" ∈ lw_tbl := List.mem_of_getElem? (i := 187) (by decide +kernel)
theorem q189 : Cond.fieldLink RX4 21 "CustomsShed$Shed" "tariff" "LCustomsShed$Tariff;" ∈ lw_tbl := List.mem_of_getElem? (i := 189) (by decide +kernel)
theorem q191 : Cond.fieldLink RX4 28 "CustomsShed$Shed" "queue" "LCustomsShed$AuditQueue;" ∈ lw_tbl := List.mem_of_getElem? (i := 191) (by decide +kernel)
theorem q193 : Cond.fieldLink RX4 32 "CustomsShed$Shed" "coins" "I" ∈ lw_tbl := List.mem_of_getElem? (i := 193) (by decide +kernel)
theorem q195 : Cond.fieldLink RX4 36 "CustomsShed$Shed" "coinsTaken" "I" ∈ lw_tbl := List.mem_of_getElem? (i := 195) (by decide +kernel)
theorem q197 : Cond.fieldLink RX4 39 "CustomsShed$Shed" "daysPassed" "I" ∈ lw_tbl := List.mem_of_getElem? (i := 197) (by decide +kernel)
theorem q199 : Cond.fieldLink RX4 42 "CustomsShed$Shed" "destroyed" "I" ∈ lw_tbl := List.mem_of_getElem? (i := 199) (by decide +kernel)
theorem q241 : Cond.fieldLink RX1 9 "CustomsShed$CommandText" "characters" "[C" ∈ lw_tbl := List.mem_of_getElem? (i := 241) (by decide +kernel)
theorem q242 : Cond.fieldLink RX1 15 "CustomsShed$CommandText" "numbers" "[I" ∈ lw_tbl := List.mem_of_getElem? (i := 242) (by decide +kernel)
theorem q243 : Cond.fieldLinkNest RX4 144 "CustomsShed$CommandText" "numbers" "[I" "CustomsShed" ∈ lw_tbl := List.mem_of_getElem? (i := 243) (by decide +kernel)
theorem q244 : Cond.fieldLink RX1 19 "CustomsShed$CommandText" "length" "I" ∈ lw_tbl := List.mem_of_getElem? (i := 244) (by decide +kernel)
theorem q246 : Cond.fieldLink RX1 23 "CustomsShed$CommandText" "cursor" "I" ∈ lw_tbl := List.mem_of_getElem? (i := 246) (by decide +kernel)
theorem q248 : Cond.fieldLink RX1 26 "CustomsShed$CommandText" "verb" "I" ∈ lw_tbl := List.mem_of_getElem? (i := 248) (by decide +kernel)
theorem q249 : Cond.fieldLinkNest RX4 149 "CustomsShed$CommandText" "verb" "I" "CustomsShed" ∈ lw_tbl := List.mem_of_getElem? (i := 249) (by decide +kernel)
theorem q250 : Cond.fieldLink RX1 29 "CustomsShed$CommandText" "kind" "C" ∈ lw_tbl := List.mem_of_getElem? (i := 250) (by decide +kernel)
theorem q251 : Cond.fieldLinkNest RX4 152 "CustomsShed$CommandText" "kind" "C" "CustomsShed" ∈ lw_tbl := List.mem_of_getElem? (i := 251) (by decide +kernel)
theorem q252 : Cond.fieldLink RX1 33 "CustomsShed$CommandText" "numbersRead" "I" ∈ lw_tbl := List.mem_of_getElem? (i := 252) (by decide +kernel)
theorem q348 : Cond.methodLink RX4 107 yX4_dutyOf ∈ lw_tbl := List.mem_of_getElem? (i := 348) (by decide +kernel)
theorem q352 : Cond.methodLink RX4 131 yX3_valueOf ∈ lw_tbl := List.mem_of_getElem? (i := 352) (by decide +kernel)
theorem q356 : Cond.methodLink RX4 134 yX5_dutyByParts ∈ lw_tbl := List.mem_of_getElem? (i := 356) (by decide +kernel)
theorem q360 : Cond.methodLink RX5 26 Lib.Math.min.name ∈ lw_tbl := List.mem_of_getElem? (i := 360) (by decide +kernel)
theorem q361 : Cond.static Lib.Math.min.name ∈ lw_tbl := List.mem_of_getElem? (i := 361) (by decide +kernel)
theorem q362 : Cond.code Lib.Math.min.name Lib.Math.min.code 2 (some .int) ∈ lw_tbl := List.mem_of_getElem? (i := 362) (by decide +kernel)
theorem q363 : Cond.methodLink RX5 32 Lib.Math.max.name ∈ lw_tbl := List.mem_of_getElem? (i := 363) (by decide +kernel)
theorem q364 : Cond.static Lib.Math.max.name ∈ lw_tbl := List.mem_of_getElem? (i := 364) (by decide +kernel)
theorem q365 : Cond.code Lib.Math.max.name Lib.Math.max.code 2 (some .int) ∈ lw_tbl := List.mem_of_getElem? (i := 365) (by decide +kernel)
theorem q374 : Cond.methodLink RX4 66 yX3_slotAt ∈ lw_tbl := List.mem_of_getElem? (i := 374) (by decide +kernel)
theorem q398 : Cond.methodLink RX3 57 yX3_baysOfOpen ∈ lw_tbl := List.mem_of_getElem? (i := 398) (by decide +kernel)
theorem q402 : Cond.methodLink RX3 61 yX3_baysOfDamp ∈ lw_tbl := List.mem_of_getElem? (i := 402) (by decide +kernel)
theorem q406 : Cond.methodLinkNest RX3 53 yX6_hasBay "CustomsShed" ∈ lw_tbl := List.mem_of_getElem? (i := 406) (by decide +kernel)
theorem q409 : Cond.methodLink RX6 364 yX6_isBay ∈ lw_tbl := List.mem_of_getElem? (i := 409) (by decide +kernel)
theorem q420 : Cond.methodLink RX3 64 yX3_slotAt ∈ lw_tbl := List.mem_of_getElem? (i := 420) (by decide +kernel)
theorem q445 : Cond.methodLink RX4 140 yX4_sortDutiesInto ∈ lw_tbl := List.mem_of_getElem? (i := 445) (by decide +kernel)
theorem q831 : Cond.methodLink RX4 137 yX5_dutyByCoins ∈ lw_tbl := List.mem_of_getElem? (i := 831) (by decide +kernel)
theorem q847 : Cond.methodLink RX4 45 yX3_copyFrom ∈ lw_tbl := List.mem_of_getElem? (i := 847) (by decide +kernel)
theorem q851 : Cond.methodLink RX3 49 yX3_takeSlot ∈ lw_tbl := List.mem_of_getElem? (i := 851) (by decide +kernel)
theorem q855 : Cond.methodLink RX4 49 yX5_copyFrom ∈ lw_tbl := List.mem_of_getElem? (i := 855) (by decide +kernel)
theorem q859 : Cond.methodLink RX4 52 yX0_copyFrom ∈ lw_tbl := List.mem_of_getElem? (i := 859) (by decide +kernel)
theorem q886 : Cond.methodLinkNest RX4 55 yX6_isBay "CustomsShed" ∈ lw_tbl := List.mem_of_getElem? (i := 886) (by decide +kernel)
theorem q887 : Cond.methodLinkNest RX4 59 yX6_isKind "CustomsShed" ∈ lw_tbl := List.mem_of_getElem? (i := 887) (by decide +kernel)
theorem q890 : Cond.methodLink RX4 70 yX3_append ∈ lw_tbl := List.mem_of_getElem? (i := 890) (by decide +kernel)
theorem q988 : Cond.methodLink RX4 74 yX3_slotWith ∈ lw_tbl := List.mem_of_getElem? (i := 988) (by decide +kernel)
theorem q992 : Cond.methodLink RX4 84 yX3_countSealed ∈ lw_tbl := List.mem_of_getElem? (i := 992) (by decide +kernel)
theorem q1018 : Cond.methodLink RX4 88 yX3_countDamp ∈ lw_tbl := List.mem_of_getElem? (i := 1018) (by decide +kernel)
theorem q1142 : Cond.methodLink RX3 46 yX3_countAhead ∈ lw_tbl := List.mem_of_getElem? (i := 1142) (by decide +kernel)
theorem q1146 : Cond.methodLink RX3 42 yX3_valueOf ∈ lw_tbl := List.mem_of_getElem? (i := 1146) (by decide +kernel)
theorem q1160 : Cond.methodLink RX5 22 yX5_indexOf ∈ lw_tbl := List.mem_of_getElem? (i := 1160) (by decide +kernel)
theorem q1228 : Cond.methodLink RX4 115 yX4_letOneDayPass ∈ lw_tbl := List.mem_of_getElem? (i := 1228) (by decide +kernel)
theorem q1232 : Cond.methodLink RX4 118 yX3_baysOfDamp ∈ lw_tbl := List.mem_of_getElem? (i := 1232) (by decide +kernel)
theorem q1233 : Cond.methodLink RX4 121 yX3_spreadFrom ∈ lw_tbl := List.mem_of_getElem? (i := 1233) (by decide +kernel)
theorem q1237 : Cond.methodLinkNest RX4 124 yX6_hasBay "CustomsShed" ∈ lw_tbl := List.mem_of_getElem? (i := 1237) (by decide +kernel)
theorem q1238 : Cond.methodLink RX4 110 yX4_letLeave ∈ lw_tbl := List.mem_of_getElem? (i := 1238) (by decide +kernel)
theorem q1242 : Cond.methodLink RX4 103 yX0_remove ∈ lw_tbl := List.mem_of_getElem? (i := 1242) (by decide +kernel)
theorem q1246 : Cond.methodLink RX4 114 yX3_remove ∈ lw_tbl := List.mem_of_getElem? (i := 1246) (by decide +kernel)
theorem q1269 : Cond.methodLink RX4 95 yX0_append ∈ lw_tbl := List.mem_of_getElem? (i := 1269) (by decide +kernel)
theorem q1273 : Cond.methodLink RX0 19 yX0_placeOf ∈ lw_tbl := List.mem_of_getElem? (i := 1273) (by decide +kernel)
theorem q1406 : Cond.methodLink RX1 58 yX1_rewind ∈ lw_tbl := List.mem_of_getElem? (i := 1406) (by decide +kernel)
theorem q1410 : Cond.methodLink RX1 61 yX1_readCommand ∈ lw_tbl := List.mem_of_getElem? (i := 1410) (by decide +kernel)
theorem q1414 : Cond.methodLink RX1 68 yX1_formOf ∈ lw_tbl := List.mem_of_getElem? (i := 1414) (by decide +kernel)
theorem q1428 : Cond.methodLink RX1 72 yX1_readForm ∈ lw_tbl := List.mem_of_getElem? (i := 1428) (by decide +kernel)
theorem q1432 : Cond.methodLink RX1 82 yJ0_length_8abf5 ∈ lw_tbl := List.mem_of_getElem? (i := 1432) (by decide +kernel)
theorem q1433 : Cond.methodLink RX1 87 yJ0_charAt_5068e ∈ lw_tbl := List.mem_of_getElem? (i := 1433) (by decide +kernel)
theorem q1448 : Cond.methodLink RX1 91 yX1_readNumber ∈ lw_tbl := List.mem_of_getElem? (i := 1448) (by decide +kernel)
theorem q1452 : Cond.methodLink RX1 101 yX1_isDigit ∈ lw_tbl := List.mem_of_getElem? (i := 1452) (by decide +kernel)
theorem q1455 : Cond.methodLink RX1 94 yX1_readCharacter ∈ lw_tbl := List.mem_of_getElem? (i := 1455) (by decide +kernel)
theorem q1459 : Cond.methodLinkNest RX1 98 yX6_isKind "CustomsShed" ∈ lw_tbl := List.mem_of_getElem? (i := 1459) (by decide +kernel)
theorem q1460 : Cond.methodLink RX1 76 Lib.Math.max.name ∈ lw_tbl := List.mem_of_getElem? (i := 1460) (by decide +kernel)
theorem q1461 : Cond.methodLink RX1 65 yX1_skipSemicolon ∈ lw_tbl := List.mem_of_getElem? (i := 1461) (by decide +kernel)
theorem q1480 : Cond.methodLink RX4 156 yX4_takeIn ∈ lw_tbl := List.mem_of_getElem? (i := 1480) (by decide +kernel)
theorem q1481 : Cond.methodLink RX4 159 yX4_sealLot ∈ lw_tbl := List.mem_of_getElem? (i := 1481) (by decide +kernel)
theorem q1482 : Cond.methodLink RX4 162 yX4_openLot ∈ lw_tbl := List.mem_of_getElem? (i := 1482) (by decide +kernel)
theorem q1483 : Cond.methodLink RX4 165 yX4_wetLot ∈ lw_tbl := List.mem_of_getElem? (i := 1483) (by decide +kernel)
theorem q1484 : Cond.methodLink RX4 168 yX4_queueLot ∈ lw_tbl := List.mem_of_getElem? (i := 1484) (by decide +kernel)
theorem q1485 : Cond.methodLink RX4 171 yX4_releaseLot ∈ lw_tbl := List.mem_of_getElem? (i := 1485) (by decide +kernel)
theorem q1486 : Cond.methodLink RX4 174 yX4_moveLot ∈ lw_tbl := List.mem_of_getElem? (i := 1486) (by decide +kernel)
theorem q1487 : Cond.methodLink RX4 178 yX4_auditFirst ∈ lw_tbl := List.mem_of_getElem? (i := 1487) (by decide +kernel)
theorem q1488 : Cond.methodLink RX4 181 yX5_insert ∈ lw_tbl := List.mem_of_getElem? (i := 1488) (by decide +kernel)
theorem q1489 : Cond.methodLink RX4 184 yX4_takeCoins ∈ lw_tbl := List.mem_of_getElem? (i := 1489) (by decide +kernel)
theorem q1547 : Cond.fieldLink RX7 47 "CustomsShedModel" "thrown" "I" ∈ lw_tbl := List.mem_of_getElem? (i := 1547) (by decide +kernel)
theorem q1548 : Cond.fieldLink RX7 7 "CustomsShedModel" "s" "[I" ∈ lw_tbl := List.mem_of_getElem? (i := 1548) (by decide +kernel)
theorem q1549 : Cond.fieldLink RX7 13 "CustomsShedModel" "frame" "[I" ∈ lw_tbl := List.mem_of_getElem? (i := 1549) (by decide +kernel)
theorem q1550 : Cond.fieldLink RX7 16 "CustomsShedModel" "saved" "[I" ∈ lw_tbl := List.mem_of_getElem? (i := 1550) (by decide +kernel)
theorem q1551 : Cond.fieldLink RX7 19 "CustomsShedModel" "history" "[I" ∈ lw_tbl := List.mem_of_getElem? (i := 1551) (by decide +kernel)
theorem q1552 : Cond.fieldLink RX7 22 "CustomsShedModel" "thought" "[I" ∈ lw_tbl := List.mem_of_getElem? (i := 1552) (by decide +kernel)
theorem q1553 : Cond.fieldLink RX7 50 "CustomsShedModel" "kept" "I" ∈ lw_tbl := List.mem_of_getElem? (i := 1553) (by decide +kernel)
theorem q1554 : Cond.fieldLink RX7 260 "CustomsShedModel" "hasSaved" "Z" ∈ lw_tbl := List.mem_of_getElem? (i := 1554) (by decide +kernel)
theorem q1555 : Cond.fieldLink RX7 25 "CustomsShedModel" "text" "[I" ∈ lw_tbl := List.mem_of_getElem? (i := 1555) (by decide +kernel)
theorem q1556 : Cond.fieldLink RX7 28 "CustomsShedModel" "told" "[I" ∈ lw_tbl := List.mem_of_getElem? (i := 1556) (by decide +kernel)
theorem q1557 : Cond.fieldLink RX7 31 "CustomsShedModel" "out" "[I" ∈ lw_tbl := List.mem_of_getElem? (i := 1557) (by decide +kernel)
theorem q1558 : Cond.fieldLink RX7 34 "CustomsShedModel" "was" "[I" ∈ lw_tbl := List.mem_of_getElem? (i := 1558) (by decide +kernel)
theorem q1559 : Cond.fieldLink RX7 37 "CustomsShedModel" "mark" "[I" ∈ lw_tbl := List.mem_of_getElem? (i := 1559) (by decide +kernel)
theorem q1560 : Cond.fieldLink RX7 181 "CustomsShedModel" "length" "I" ∈ lw_tbl := List.mem_of_getElem? (i := 1560) (by decide +kernel)
theorem q1561 : Cond.fieldLink RX7 172 "CustomsShedModel" "outLength" "I" ∈ lw_tbl := List.mem_of_getElem? (i := 1561) (by decide +kernel)
theorem q1562 : Cond.fieldLink RX7 40 "CustomsShedModel" "faultAt" "I" ∈ lw_tbl := List.mem_of_getElem? (i := 1562) (by decide +kernel)
theorem q1563 : Cond.fieldLink RX7 44 "CustomsShedModel" "failedAt" "I" ∈ lw_tbl := List.mem_of_getElem? (i := 1563) (by decide +kernel)
theorem q1564 : Cond.fieldLink RX7 53 "CustomsShedModel" "answer" "I" ∈ lw_tbl := List.mem_of_getElem? (i := 1564) (by decide +kernel)
theorem q1565 : Cond.fieldLink RX7 184 "CustomsShedModel" "spot" "I" ∈ lw_tbl := List.mem_of_getElem? (i := 1565) (by decide +kernel)
theorem q1566 : Cond.fieldLink RX7 187 "CustomsShedModel" "end" "I" ∈ lw_tbl := List.mem_of_getElem? (i := 1566) (by decide +kernel)
theorem q1567 : Cond.fieldLink RX7 205 "CustomsShedModel" "commands" "I" ∈ lw_tbl := List.mem_of_getElem? (i := 1567) (by decide +kernel)
theorem q1568 : Cond.fieldLink RX7 194 "CustomsShedModel" "isWrong" "Z" ∈ lw_tbl := List.mem_of_getElem? (i := 1568) (by decide +kernel)
theorem q1622 : Cond.methodLink RX7 117 yX7_remembers ∈ lw_tbl := List.mem_of_getElem? (i := 1622) (by decide +kernel)
theorem q1626 : Cond.methodLink RX7 120 yX7_adds ∈ lw_tbl := List.mem_of_getElem? (i := 1626) (by decide +kernel)
theorem q1630 : Cond.methodLink RX7 84 yX7_isBay ∈ lw_tbl := List.mem_of_getElem? (i := 1630) (by decide +kernel)
theorem q1633 : Cond.methodLink RX7 67 yX7_in ∈ lw_tbl := List.mem_of_getElem? (i := 1633) (by decide +kernel)
theorem q1636 : Cond.methodLink RX7 88 yX7_isKind ∈ lw_tbl := List.mem_of_getElem? (i := 1636) (by decide +kernel)
theorem q1639 : Cond.methodLink RX7 91 yX7_inside ∈ lw_tbl := List.mem_of_getElem? (i := 1639) (by decide +kernel)
theorem q1643 : Cond.methodLink RX7 63 yX7_of ∈ lw_tbl := List.mem_of_getElem? (i := 1643) (by decide +kernel)
theorem q1647 : Cond.methodLink RX7 94 yX7_sets ∈ lw_tbl := List.mem_of_getElem? (i := 1647) (by decide +kernel)
theorem q1651 : Cond.methodLink RX7 98 yX7_done ∈ lw_tbl := List.mem_of_getElem? (i := 1651) (by decide +kernel)
theorem q1655 : Cond.methodLink RX7 124 yX7_ends ∈ lw_tbl := List.mem_of_getElem? (i := 1655) (by decide +kernel)
theorem q1659 : Cond.methodLink RX7 56 yX7_changed ∈ lw_tbl := List.mem_of_getElem? (i := 1659) (by decide +kernel)
theorem q1663 : Cond.methodLink RX7 60 yX7_fails ∈ lw_tbl := List.mem_of_getElem? (i := 1663) (by decide +kernel)
theorem q1671 : Cond.methodLink RX7 127 yX7_seals ∈ lw_tbl := List.mem_of_getElem? (i := 1671) (by decide +kernel)
theorem q1675 : Cond.methodLink RX7 101 yX7_placeOf ∈ lw_tbl := List.mem_of_getElem? (i := 1675) (by decide +kernel)
theorem q1679 : Cond.methodLink RX7 104 yX7_many ∈ lw_tbl := List.mem_of_getElem? (i := 1679) (by decide +kernel)
theorem q1687 : Cond.methodLink RX7 130 yX7_opens ∈ lw_tbl := List.mem_of_getElem? (i := 1687) (by decide +kernel)
theorem q1695 : Cond.methodLink RX7 133 yX7_wets ∈ lw_tbl := List.mem_of_getElem? (i := 1695) (by decide +kernel)
theorem q1703 : Cond.methodLink RX7 136 yX7_moves ∈ lw_tbl := List.mem_of_getElem? (i := 1703) (by decide +kernel)
theorem q1719 : Cond.methodLink RX7 139 yX7_asked ∈ lw_tbl := List.mem_of_getElem? (i := 1719) (by decide +kernel)
theorem q1763 : Cond.methodLink RX7 71 yX7_worth ∈ lw_tbl := List.mem_of_getElem? (i := 1763) (by decide +kernel)
theorem q1771 : Cond.methodLink RX7 142 yX7_addsStep ∈ lw_tbl := List.mem_of_getElem? (i := 1771) (by decide +kernel)
theorem q1779 : Cond.methodLink RX7 145 yX7_removesStep ∈ lw_tbl := List.mem_of_getElem? (i := 1779) (by decide +kernel)
theorem q1799 : Cond.methodLink RX7 74 yX7_charged ∈ lw_tbl := List.mem_of_getElem? (i := 1799) (by decide +kernel)
theorem q1807 : Cond.methodLink RX7 148 yX7_dutyOn ∈ lw_tbl := List.mem_of_getElem? (i := 1807) (by decide +kernel)
theorem q1812 : Cond.methodLink RX7 114 yX7_owed ∈ lw_tbl := List.mem_of_getElem? (i := 1812) (by decide +kernel)
theorem q1824 : Cond.methodLink RX7 151 yX7_totalDuty ∈ lw_tbl := List.mem_of_getElem? (i := 1824) (by decide +kernel)
theorem q1829 : Cond.methodLink RX7 154 yX7_passes ∈ lw_tbl := List.mem_of_getElem? (i := 1829) (by decide +kernel)
theorem q1833 : Cond.methodLink RX7 110 yX7_oneDay ∈ lw_tbl := List.mem_of_getElem? (i := 1833) (by decide +kernel)
theorem q1837 : Cond.methodLink RX7 107 yX7_leaves ∈ lw_tbl := List.mem_of_getElem? (i := 1837) (by decide +kernel)
theorem q1841 : Cond.methodLink RX7 77 yX7_waits ∈ lw_tbl := List.mem_of_getElem? (i := 1841) (by decide +kernel)
theorem q1845 : Cond.methodLink RX7 80 yX7_unqueues ∈ lw_tbl := List.mem_of_getElem? (i := 1845) (by decide +kernel)
theorem q1869 : Cond.methodLink RX7 157 yX7_dampReach ∈ lw_tbl := List.mem_of_getElem? (i := 1869) (by decide +kernel)
theorem q1878 : Cond.methodLink RX7 160 yX7_joins ∈ lw_tbl := List.mem_of_getElem? (i := 1878) (by decide +kernel)
theorem q1886 : Cond.methodLink RX7 163 yX7_audits ∈ lw_tbl := List.mem_of_getElem? (i := 1886) (by decide +kernel)
theorem q1902 : Cond.methodLink RX7 166 yX7_deposits ∈ lw_tbl := List.mem_of_getElem? (i := 1902) (by decide +kernel)
theorem q1910 : Cond.methodLink RX7 169 yX7_releases ∈ lw_tbl := List.mem_of_getElem? (i := 1910) (by decide +kernel)
theorem q1938 : Cond.methodLink RX7 175 yX7_writes ∈ lw_tbl := List.mem_of_getElem? (i := 1938) (by decide +kernel)
theorem q1942 : Cond.methodLink RX7 178 yX7_writesNumber ∈ lw_tbl := List.mem_of_getElem? (i := 1942) (by decide +kernel)
theorem q1966 : Cond.methodLink RX7 254 yX7_readsOne ∈ lw_tbl := List.mem_of_getElem? (i := 1966) (by decide +kernel)
theorem q1970 : Cond.methodLink RX7 198 yX7_here ∈ lw_tbl := List.mem_of_getElem? (i := 1970) (by decide +kernel)
theorem q1974 : Cond.methodLink RX7 225 yX7_readsLot ∈ lw_tbl := List.mem_of_getElem? (i := 1974) (by decide +kernel)
theorem q1979 : Cond.methodLink RX7 208 yX7_says ∈ lw_tbl := List.mem_of_getElem? (i := 1979) (by decide +kernel)
theorem q1983 : Cond.methodLink RX7 190 yJ0_length_8abf5 ∈ lw_tbl := List.mem_of_getElem? (i := 1983) (by decide +kernel)
theorem q1984 : Cond.methodLink RX7 201 yJ0_charAt_5068e ∈ lw_tbl := List.mem_of_getElem? (i := 1984) (by decide +kernel)
theorem q1985 : Cond.methodLink RX7 212 yX7_number ∈ lw_tbl := List.mem_of_getElem? (i := 1985) (by decide +kernel)
theorem q1993 : Cond.methodLink RX7 232 yX7_two ∈ lw_tbl := List.mem_of_getElem? (i := 1993) (by decide +kernel)
theorem q1997 : Cond.methodLink RX7 215 yX7_one ∈ lw_tbl := List.mem_of_getElem? (i := 1997) (by decide +kernel)
theorem q2010 : Cond.methodLink RX7 257 yX7_does ∈ lw_tbl := List.mem_of_getElem? (i := 2010) (by decide +kernel)
theorem m_X6_isBay : YM yX6_isBay cX6_isBay 1 (some .boolean) 1 := ⟨⟨List.mem_of_getElem? (i := 411) (by decide +kernel), by decide +kernel⟩, List.mem_of_getElem? (i := 55) (by decide +kernel), ⟨by decide, by decide⟩, by decide +kernel⟩
theorem v_X6_isBay : YS yX6_isBay := List.mem_of_getElem? (i := 410) (by decide +kernel)
theorem m_X3_valueOf : YM yX3_valueOf cX3_valueOf 2 (some .int) 1 := ⟨⟨List.mem_of_getElem? (i := 355) (by decide +kernel), by decide +kernel⟩, List.mem_of_getElem? (i := 57) (by decide +kernel), ⟨by decide, by decide⟩, by decide +kernel⟩
theorem v_X3_valueOf : YV yX3_valueOf := ⟨List.mem_of_getElem? (i := 353) (by decide +kernel), List.mem_of_getElem? (i := 354) (by decide +kernel)⟩
theorem m_X3_countAhead : YM yX3_countAhead cX3_countAhead 6 (some .int) 1 := ⟨⟨List.mem_of_getElem? (i := 1145) (by decide +kernel), by decide +kernel⟩, List.mem_of_getElem? (i := 57) (by decide +kernel), ⟨by decide, by decide⟩, by decide +kernel⟩
theorem v_X3_countAhead : YV yX3_countAhead := ⟨List.mem_of_getElem? (i := 1144) (by decide +kernel), List.mem_of_getElem? (i := 6) (by decide +kernel)⟩
theorem m_X3_takeSlot : YM yX3_takeSlot cX3_takeSlot 4 (none) 3 := ⟨⟨List.mem_of_getElem? (i := 854) (by decide +kernel), by decide +kernel⟩, List.mem_of_getElem? (i := 57) (by decide +kernel), ⟨by decide, by decide⟩, by decide +kernel⟩
theorem v_X3_takeSlot : YV yX3_takeSlot := ⟨List.mem_of_getElem? (i := 853) (by decide +kernel), List.mem_of_getElem? (i := 3) (by decide +kernel)⟩
theorem m_X6_hasBay : YM yX6_hasBay cX6_hasBay 2 (some .boolean) 2 := ⟨⟨List.mem_of_getElem? (i := 408) (by decide +kernel), by decide +kernel⟩, List.mem_of_getElem? (i := 55) (by decide +kernel), ⟨by decide, by decide⟩, by decide +kernel⟩
theorem v_X6_hasBay : YS yX6_hasBay := List.mem_of_getElem? (i := 407) (by decide +kernel)
theorem m_X3_slotAt : YM yX3_slotAt cX3_slotAt 3 (some .int) 1 := ⟨⟨List.mem_of_getElem? (i := 377) (by decide +kernel), by decide +kernel⟩, List.mem_of_getElem? (i := 57) (by decide +kernel), ⟨by decide, by decide⟩, by decide +kernel⟩
theorem v_X3_slotAt : YV yX3_slotAt := ⟨List.mem_of_getElem? (i := 375) (by decide +kernel), List.mem_of_getElem? (i := 376) (by decide +kernel)⟩
theorem m_X3_baysOfOpen : YM yX3_baysOfOpen cX3_baysOfOpen 3 (some .int) 0 := ⟨⟨List.mem_of_getElem? (i := 401) (by decide +kernel), by decide +kernel⟩, List.mem_of_getElem? (i := 57) (by decide +kernel), ⟨by decide, by decide⟩, by decide +kernel⟩
theorem v_X3_baysOfOpen : YV yX3_baysOfOpen := ⟨List.mem_of_getElem? (i := 400) (by decide +kernel), List.mem_of_getElem? (i := 0) (by decide +kernel)⟩
theorem m_X3_baysOfDamp : YM yX3_baysOfDamp cX3_baysOfDamp 3 (some .int) 0 := ⟨⟨List.mem_of_getElem? (i := 405) (by decide +kernel), by decide +kernel⟩, List.mem_of_getElem? (i := 57) (by decide +kernel), ⟨by decide, by decide⟩, by decide +kernel⟩
theorem v_X3_baysOfDamp : YV yX3_baysOfDamp := ⟨List.mem_of_getElem? (i := 403) (by decide +kernel), List.mem_of_getElem? (i := 404) (by decide +kernel)⟩
theorem m_X5_indexOf : YM yX5_indexOf cX5_indexOf 3 (some .int) 1 := ⟨⟨List.mem_of_getElem? (i := 1163) (by decide +kernel), by decide +kernel⟩, List.mem_of_getElem? (i := 58) (by decide +kernel), ⟨by decide, by decide⟩, by decide +kernel⟩
theorem v_X5_indexOf : YV yX5_indexOf := ⟨List.mem_of_getElem? (i := 1162) (by decide +kernel), List.mem_of_getElem? (i := 7) (by decide +kernel)⟩
theorem m_X0_placeOf : YM yX0_placeOf cX0_placeOf 3 (some .int) 1 := ⟨⟨List.mem_of_getElem? (i := 1276) (by decide +kernel), by decide +kernel⟩, List.mem_of_getElem? (i := 59) (by decide +kernel), ⟨by decide, by decide⟩, by decide +kernel⟩
theorem v_X0_placeOf : YV yX0_placeOf := ⟨List.mem_of_getElem? (i := 1274) (by decide +kernel), List.mem_of_getElem? (i := 1275) (by decide +kernel)⟩
theorem m_X3_copyFrom : YM yX3_copyFrom cX3_copyFrom 3 (none) 1 := ⟨⟨List.mem_of_getElem? (i := 850) (by decide +kernel), by decide +kernel⟩, List.mem_of_getElem? (i := 57) (by decide +kernel), ⟨by decide, by decide⟩, by decide +kernel⟩
theorem v_X3_copyFrom : YV yX3_copyFrom := ⟨List.mem_of_getElem? (i := 848) (by decide +kernel), List.mem_of_getElem? (i := 849) (by decide +kernel)⟩
theorem m_X5_copyFrom : YM yX5_copyFrom cX5_copyFrom 3 (none) 1 := ⟨⟨List.mem_of_getElem? (i := 858) (by decide +kernel), by decide +kernel⟩, List.mem_of_getElem? (i := 58) (by decide +kernel), ⟨by decide, by decide⟩, by decide +kernel⟩
theorem v_X5_copyFrom : YV yX5_copyFrom := ⟨List.mem_of_getElem? (i := 856) (by decide +kernel), List.mem_of_getElem? (i := 857) (by decide +kernel)⟩
theorem m_X0_copyFrom : YM yX0_copyFrom cX0_copyFrom 3 (none) 1 := ⟨⟨List.mem_of_getElem? (i := 862) (by decide +kernel), by decide +kernel⟩, List.mem_of_getElem? (i := 59) (by decide +kernel), ⟨by decide, by decide⟩, by decide +kernel⟩
theorem v_X0_copyFrom : YV yX0_copyFrom := ⟨List.mem_of_getElem? (i := 860) (by decide +kernel), List.mem_of_getElem? (i := 861) (by decide +kernel)⟩
theorem m_X6_isKind : YM yX6_isKind cX6_isKind 1 (some .boolean) 1 := ⟨⟨List.mem_of_getElem? (i := 889) (by decide +kernel), by decide +kernel⟩, List.mem_of_getElem? (i := 55) (by decide +kernel), ⟨by decide, by decide⟩, by decide +kernel⟩
theorem v_X6_isKind : YS yX6_isKind := List.mem_of_getElem? (i := 888) (by decide +kernel)
theorem m_X3_append : YM yX3_append cX3_append 6 (some .int) 4 := ⟨⟨List.mem_of_getElem? (i := 893) (by decide +kernel), by decide +kernel⟩, List.mem_of_getElem? (i := 57) (by decide +kernel), ⟨by decide, by decide⟩, by decide +kernel⟩
theorem v_X3_append : YV yX3_append := ⟨List.mem_of_getElem? (i := 891) (by decide +kernel), List.mem_of_getElem? (i := 892) (by decide +kernel)⟩
theorem m_X3_slotWith : YM yX3_slotWith cX3_slotWith 3 (some .int) 1 := ⟨⟨List.mem_of_getElem? (i := 991) (by decide +kernel), by decide +kernel⟩, List.mem_of_getElem? (i := 57) (by decide +kernel), ⟨by decide, by decide⟩, by decide +kernel⟩
theorem v_X3_slotWith : YV yX3_slotWith := ⟨List.mem_of_getElem? (i := 989) (by decide +kernel), List.mem_of_getElem? (i := 990) (by decide +kernel)⟩
theorem m_X3_countSealed : YM yX3_countSealed cX3_countSealed 3 (some .int) 0 := ⟨⟨List.mem_of_getElem? (i := 995) (by decide +kernel), by decide +kernel⟩, List.mem_of_getElem? (i := 57) (by decide +kernel), ⟨by decide, by decide⟩, by decide +kernel⟩
theorem v_X3_countSealed : YV yX3_countSealed := ⟨List.mem_of_getElem? (i := 993) (by decide +kernel), List.mem_of_getElem? (i := 994) (by decide +kernel)⟩
theorem m_X3_countDamp : YM yX3_countDamp cX3_countDamp 3 (some .int) 0 := ⟨⟨List.mem_of_getElem? (i := 389) (by decide +kernel), by decide +kernel⟩, List.mem_of_getElem? (i := 57) (by decide +kernel), ⟨by decide, by decide⟩, by decide +kernel⟩
theorem v_X3_countDamp : YV yX3_countDamp := ⟨List.mem_of_getElem? (i := 387) (by decide +kernel), List.mem_of_getElem? (i := 388) (by decide +kernel)⟩
theorem m_X0_append : YM yX0_append cX0_append 2 (some .int) 1 := ⟨⟨List.mem_of_getElem? (i := 1272) (by decide +kernel), by decide +kernel⟩, List.mem_of_getElem? (i := 59) (by decide +kernel), ⟨by decide, by decide⟩, by decide +kernel⟩
theorem v_X0_append : YV yX0_append := ⟨List.mem_of_getElem? (i := 1270) (by decide +kernel), List.mem_of_getElem? (i := 1271) (by decide +kernel)⟩
theorem m_X0_remove : YM yX0_remove cX0_remove 4 (none) 1 := ⟨⟨List.mem_of_getElem? (i := 1245) (by decide +kernel), by decide +kernel⟩, List.mem_of_getElem? (i := 59) (by decide +kernel), ⟨by decide, by decide⟩, by decide +kernel⟩
theorem v_X0_remove : YV yX0_remove := ⟨List.mem_of_getElem? (i := 1243) (by decide +kernel), List.mem_of_getElem? (i := 1244) (by decide +kernel)⟩
theorem m_X5_dutyByParts : YM yX5_dutyByParts cX5_dutyByParts 6 (some .int) 1 := ⟨⟨List.mem_of_getElem? (i := 359) (by decide +kernel), by decide +kernel⟩, List.mem_of_getElem? (i := 58) (by decide +kernel), ⟨by decide, by decide⟩, by decide +kernel⟩
theorem v_X5_dutyByParts : YV yX5_dutyByParts := ⟨List.mem_of_getElem? (i := 357) (by decide +kernel), List.mem_of_getElem? (i := 358) (by decide +kernel)⟩
theorem m_X3_remove : YM yX3_remove cX3_remove 3 (none) 1 := ⟨⟨List.mem_of_getElem? (i := 1249) (by decide +kernel), by decide +kernel⟩, List.mem_of_getElem? (i := 57) (by decide +kernel), ⟨by decide, by decide⟩, by decide +kernel⟩
theorem v_X3_remove : YV yX3_remove := ⟨List.mem_of_getElem? (i := 1247) (by decide +kernel), List.mem_of_getElem? (i := 1248) (by decide +kernel)⟩
theorem m_X4_dutyOf : YM yX4_dutyOf cX4_dutyOf 2 (some .int) 1 := ⟨⟨List.mem_of_getElem? (i := 351) (by decide +kernel), by decide +kernel⟩, List.mem_of_getElem? (i := 56) (by decide +kernel), ⟨by decide, by decide⟩, by decide +kernel⟩
theorem v_X4_dutyOf : YV yX4_dutyOf := ⟨List.mem_of_getElem? (i := 349) (by decide +kernel), List.mem_of_getElem? (i := 350) (by decide +kernel)⟩
theorem m_X4_letLeave : YM yX4_letLeave cX4_letLeave 2 (none) 1 := ⟨⟨List.mem_of_getElem? (i := 1241) (by decide +kernel), by decide +kernel⟩, List.mem_of_getElem? (i := 56) (by decide +kernel), ⟨by decide, by decide⟩, by decide +kernel⟩
theorem v_X4_letLeave : YV yX4_letLeave := ⟨List.mem_of_getElem? (i := 1240) (by decide +kernel), List.mem_of_getElem? (i := 9) (by decide +kernel)⟩
theorem m_X3_spreadFrom : YM yX3_spreadFrom cX3_spreadFrom 5 (none) 1 := ⟨⟨List.mem_of_getElem? (i := 1236) (by decide +kernel), by decide +kernel⟩, List.mem_of_getElem? (i := 57) (by decide +kernel), ⟨by decide, by decide⟩, by decide +kernel⟩
theorem v_X3_spreadFrom : YV yX3_spreadFrom := ⟨List.mem_of_getElem? (i := 1234) (by decide +kernel), List.mem_of_getElem? (i := 1235) (by decide +kernel)⟩
theorem m_X4_letOneDayPass : YM yX4_letOneDayPass cX4_letOneDayPass 3 (none) 0 := ⟨⟨List.mem_of_getElem? (i := 1231) (by decide +kernel), by decide +kernel⟩, List.mem_of_getElem? (i := 56) (by decide +kernel), ⟨by decide, by decide⟩, by decide +kernel⟩
theorem v_X4_letOneDayPass : YV yX4_letOneDayPass := ⟨List.mem_of_getElem? (i := 1230) (by decide +kernel), List.mem_of_getElem? (i := 8) (by decide +kernel)⟩
theorem m_X5_dutyByCoins : YM yX5_dutyByCoins cX5_dutyByCoins 5 (some .int) 1 := ⟨⟨List.mem_of_getElem? (i := 834) (by decide +kernel), by decide +kernel⟩, List.mem_of_getElem? (i := 58) (by decide +kernel), ⟨by decide, by decide⟩, by decide +kernel⟩
theorem v_X5_dutyByCoins : YV yX5_dutyByCoins := ⟨List.mem_of_getElem? (i := 832) (by decide +kernel), List.mem_of_getElem? (i := 833) (by decide +kernel)⟩
theorem m_X4_sortDutiesInto : YM yX4_sortDutiesInto cX4_sortDutiesInto 5 (none) 1 := ⟨⟨List.mem_of_getElem? (i := 448) (by decide +kernel), by decide +kernel⟩, List.mem_of_getElem? (i := 56) (by decide +kernel), ⟨by decide, by decide⟩, by decide +kernel⟩
theorem v_X4_sortDutiesInto : YV yX4_sortDutiesInto := ⟨List.mem_of_getElem? (i := 447) (by decide +kernel), List.mem_of_getElem? (i := 1) (by decide +kernel)⟩
theorem m_X4_takeIn : YM yX4_takeIn cX4_takeIn 7 (some .int) 4 := ⟨⟨List.mem_of_getElem? (i := 885) (by decide +kernel), by decide +kernel⟩, List.mem_of_getElem? (i := 56) (by decide +kernel), ⟨by decide, by decide⟩, by decide +kernel⟩
theorem v_X4_takeIn : YV yX4_takeIn := ⟨List.mem_of_getElem? (i := 883) (by decide +kernel), List.mem_of_getElem? (i := 884) (by decide +kernel)⟩
theorem m_X4_sealLot : YM yX4_sealLot cX4_sealLot 3 (some .int) 1 := ⟨⟨List.mem_of_getElem? (i := 987) (by decide +kernel), by decide +kernel⟩, List.mem_of_getElem? (i := 56) (by decide +kernel), ⟨by decide, by decide⟩, by decide +kernel⟩
theorem v_X4_sealLot : YV yX4_sealLot := ⟨List.mem_of_getElem? (i := 985) (by decide +kernel), List.mem_of_getElem? (i := 986) (by decide +kernel)⟩
theorem m_X4_openLot : YM yX4_openLot cX4_openLot 3 (some .int) 1 := ⟨⟨List.mem_of_getElem? (i := 1006) (by decide +kernel), by decide +kernel⟩, List.mem_of_getElem? (i := 56) (by decide +kernel), ⟨by decide, by decide⟩, by decide +kernel⟩
theorem v_X4_openLot : YV yX4_openLot := ⟨List.mem_of_getElem? (i := 1004) (by decide +kernel), List.mem_of_getElem? (i := 1005) (by decide +kernel)⟩
theorem m_X4_wetLot : YM yX4_wetLot cX4_wetLot 3 (some .int) 1 := ⟨⟨List.mem_of_getElem? (i := 1017) (by decide +kernel), by decide +kernel⟩, List.mem_of_getElem? (i := 56) (by decide +kernel), ⟨by decide, by decide⟩, by decide +kernel⟩
theorem v_X4_wetLot : YV yX4_wetLot := ⟨List.mem_of_getElem? (i := 1015) (by decide +kernel), List.mem_of_getElem? (i := 1016) (by decide +kernel)⟩
theorem m_X4_queueLot : YM yX4_queueLot cX4_queueLot 2 (some .int) 1 := ⟨⟨List.mem_of_getElem? (i := 1268) (by decide +kernel), by decide +kernel⟩, List.mem_of_getElem? (i := 56) (by decide +kernel), ⟨by decide, by decide⟩, by decide +kernel⟩
theorem v_X4_queueLot : YV yX4_queueLot := ⟨List.mem_of_getElem? (i := 1266) (by decide +kernel), List.mem_of_getElem? (i := 1267) (by decide +kernel)⟩
theorem m_X4_releaseLot : YM yX4_releaseLot cX4_releaseLot 4 (some .int) 1 := ⟨⟨List.mem_of_getElem? (i := 1316) (by decide +kernel), by decide +kernel⟩, List.mem_of_getElem? (i := 56) (by decide +kernel), ⟨by decide, by decide⟩, by decide +kernel⟩
theorem v_X4_releaseLot : YV yX4_releaseLot := ⟨List.mem_of_getElem? (i := 1314) (by decide +kernel), List.mem_of_getElem? (i := 1315) (by decide +kernel)⟩
theorem m_X4_moveLot : YM yX4_moveLot cX4_moveLot 5 (some .int) 2 := ⟨⟨List.mem_of_getElem? (i := 1029) (by decide +kernel), by decide +kernel⟩, List.mem_of_getElem? (i := 56) (by decide +kernel), ⟨by decide, by decide⟩, by decide +kernel⟩
theorem v_X4_moveLot : YV yX4_moveLot := ⟨List.mem_of_getElem? (i := 1027) (by decide +kernel), List.mem_of_getElem? (i := 1028) (by decide +kernel)⟩
theorem m_X4_auditFirst : YM yX4_auditFirst cX4_auditFirst 3 (some .int) 0 := ⟨⟨List.mem_of_getElem? (i := 1287) (by decide +kernel), by decide +kernel⟩, List.mem_of_getElem? (i := 56) (by decide +kernel), ⟨by decide, by decide⟩, by decide +kernel⟩
theorem v_X4_auditFirst : YV yX4_auditFirst := ⟨List.mem_of_getElem? (i := 1285) (by decide +kernel), List.mem_of_getElem? (i := 1286) (by decide +kernel)⟩
theorem m_X5_insert : YM yX5_insert cX5_insert 4 (some .int) 2 := ⟨⟨List.mem_of_getElem? (i := 1159) (by decide +kernel), by decide +kernel⟩, List.mem_of_getElem? (i := 58) (by decide +kernel), ⟨by decide, by decide⟩, by decide +kernel⟩
theorem v_X5_insert : YV yX5_insert := ⟨List.mem_of_getElem? (i := 1157) (by decide +kernel), List.mem_of_getElem? (i := 1158) (by decide +kernel)⟩
theorem m_X4_takeCoins : YM yX4_takeCoins cX4_takeCoins 2 (some .int) 1 := ⟨⟨List.mem_of_getElem? (i := 1305) (by decide +kernel), by decide +kernel⟩, List.mem_of_getElem? (i := 56) (by decide +kernel), ⟨by decide, by decide⟩, by decide +kernel⟩
theorem v_X4_takeCoins : YV yX4_takeCoins := ⟨List.mem_of_getElem? (i := 1303) (by decide +kernel), List.mem_of_getElem? (i := 1304) (by decide +kernel)⟩
theorem m_X1_isDigit : YM yX1_isDigit cX1_isDigit 1 (some .boolean) 1 := ⟨⟨List.mem_of_getElem? (i := 1454) (by decide +kernel), by decide +kernel⟩, List.mem_of_getElem? (i := 61) (by decide +kernel), ⟨by decide, by decide⟩, by decide +kernel⟩
theorem v_X1_isDigit : YS yX1_isDigit := List.mem_of_getElem? (i := 1453) (by decide +kernel)
theorem m_X1_readCharacter : YM yX1_readCharacter cX1_readCharacter 4 (some .boolean) 1 := ⟨⟨List.mem_of_getElem? (i := 1458) (by decide +kernel), by decide +kernel⟩, List.mem_of_getElem? (i := 61) (by decide +kernel), ⟨by decide, by decide⟩, by decide +kernel⟩
theorem v_X1_readCharacter : YV yX1_readCharacter := ⟨List.mem_of_getElem? (i := 1457) (by decide +kernel), List.mem_of_getElem? (i := 12) (by decide +kernel)⟩
theorem m_X1_readNumber : YM yX1_readNumber cX1_readNumber 3 (some .boolean) 0 := ⟨⟨List.mem_of_getElem? (i := 1451) (by decide +kernel), by decide +kernel⟩, List.mem_of_getElem? (i := 61) (by decide +kernel), ⟨by decide, by decide⟩, by decide +kernel⟩
theorem v_X1_readNumber : YV yX1_readNumber := ⟨List.mem_of_getElem? (i := 1450) (by decide +kernel), List.mem_of_getElem? (i := 11) (by decide +kernel)⟩
theorem m_X1_formOf : YM yX1_formOf cX1_formOf 1 (some (.object "java/lang/String")) 1 := ⟨⟨List.mem_of_getElem? (i := 1416) (by decide +kernel), by decide +kernel⟩, List.mem_of_getElem? (i := 61) (by decide +kernel), ⟨by decide, by decide⟩, by decide +kernel⟩
theorem v_X1_formOf : YS yX1_formOf := List.mem_of_getElem? (i := 1415) (by decide +kernel)
theorem m_X1_readForm : YM yX1_readForm cX1_readForm 5 (some .boolean) 1 := ⟨⟨List.mem_of_getElem? (i := 1431) (by decide +kernel), by decide +kernel⟩, List.mem_of_getElem? (i := 61) (by decide +kernel), ⟨by decide, by decide⟩, by decide +kernel⟩
theorem v_X1_readForm : YV yX1_readForm := ⟨List.mem_of_getElem? (i := 1430) (by decide +kernel), List.mem_of_getElem? (i := 10) (by decide +kernel)⟩
theorem m_X1_rewind : YM yX1_rewind cX1_rewind 1 (none) 0 := ⟨⟨List.mem_of_getElem? (i := 1409) (by decide +kernel), by decide +kernel⟩, List.mem_of_getElem? (i := 61) (by decide +kernel), ⟨by decide, by decide⟩, by decide +kernel⟩
theorem v_X1_rewind : YV yX1_rewind := ⟨List.mem_of_getElem? (i := 1407) (by decide +kernel), List.mem_of_getElem? (i := 1408) (by decide +kernel)⟩
theorem m_X1_readCommand : YM yX1_readCommand cX1_readCommand 4 (some .boolean) 0 := ⟨⟨List.mem_of_getElem? (i := 1413) (by decide +kernel), by decide +kernel⟩, List.mem_of_getElem? (i := 61) (by decide +kernel), ⟨by decide, by decide⟩, by decide +kernel⟩
theorem v_X1_readCommand : YV yX1_readCommand := ⟨List.mem_of_getElem? (i := 1411) (by decide +kernel), List.mem_of_getElem? (i := 1412) (by decide +kernel)⟩
theorem m_X1_skipSemicolon : YM yX1_skipSemicolon cX1_skipSemicolon 1 (none) 0 := ⟨⟨List.mem_of_getElem? (i := 1464) (by decide +kernel), by decide +kernel⟩, List.mem_of_getElem? (i := 61) (by decide +kernel), ⟨by decide, by decide⟩, by decide +kernel⟩
theorem v_X1_skipSemicolon : YV yX1_skipSemicolon := ⟨List.mem_of_getElem? (i := 1462) (by decide +kernel), List.mem_of_getElem? (i := 1463) (by decide +kernel)⟩
theorem m_X7_fails : YM yX7_fails cX7_fails 2 (some .int) 1 := ⟨⟨List.mem_of_getElem? (i := 1666) (by decide +kernel), by decide +kernel⟩, List.mem_of_getElem? (i := 66) (by decide +kernel), ⟨by decide, by decide⟩, by decide +kernel⟩
theorem v_X7_fails : YV yX7_fails := ⟨List.mem_of_getElem? (i := 1665) (by decide +kernel), List.mem_of_getElem? (i := 22) (by decide +kernel)⟩
theorem m_X7_changed : YM yX7_changed cX7_changed 3 (some .int) 1 := ⟨⟨List.mem_of_getElem? (i := 1662) (by decide +kernel), by decide +kernel⟩, List.mem_of_getElem? (i := 66) (by decide +kernel), ⟨by decide, by decide⟩, by decide +kernel⟩
theorem v_X7_changed : YV yX7_changed := ⟨List.mem_of_getElem? (i := 1661) (by decide +kernel), List.mem_of_getElem? (i := 21) (by decide +kernel)⟩
theorem m_X7_of : YM yX7_of cX7_of 3 (some .int) 2 := ⟨⟨List.mem_of_getElem? (i := 1646) (by decide +kernel), by decide +kernel⟩, List.mem_of_getElem? (i := 66) (by decide +kernel), ⟨by decide, by decide⟩, by decide +kernel⟩
theorem v_X7_of : YV yX7_of := ⟨List.mem_of_getElem? (i := 1645) (by decide +kernel), List.mem_of_getElem? (i := 17) (by decide +kernel)⟩
theorem m_X7_in : YM yX7_in cX7_in 3 (some .boolean) 3 := ⟨⟨List.mem_of_getElem? (i := 1635) (by decide +kernel), by decide +kernel⟩, List.mem_of_getElem? (i := 66) (by decide +kernel), ⟨by decide, by decide⟩, by decide +kernel⟩
theorem v_X7_in : YS yX7_in := List.mem_of_getElem? (i := 1634) (by decide +kernel)
theorem m_X7_worth : YM yX7_worth cX7_worth 2 (some .int) 1 := ⟨⟨List.mem_of_getElem? (i := 1766) (by decide +kernel), by decide +kernel⟩, List.mem_of_getElem? (i := 66) (by decide +kernel), ⟨by decide, by decide⟩, by decide +kernel⟩
theorem v_X7_worth : YV yX7_worth := ⟨List.mem_of_getElem? (i := 1765) (by decide +kernel), List.mem_of_getElem? (i := 30) (by decide +kernel)⟩
theorem m_X7_charged : YM yX7_charged cX7_charged 6 (some .int) 1 := ⟨⟨List.mem_of_getElem? (i := 1802) (by decide +kernel), by decide +kernel⟩, List.mem_of_getElem? (i := 66) (by decide +kernel), ⟨by decide, by decide⟩, by decide +kernel⟩
theorem v_X7_charged : YV yX7_charged := ⟨List.mem_of_getElem? (i := 1801) (by decide +kernel), List.mem_of_getElem? (i := 33) (by decide +kernel)⟩
theorem m_X7_waits : YM yX7_waits cX7_waits 3 (some .int) 1 := ⟨⟨List.mem_of_getElem? (i := 1844) (by decide +kernel), by decide +kernel⟩, List.mem_of_getElem? (i := 66) (by decide +kernel), ⟨by decide, by decide⟩, by decide +kernel⟩
theorem v_X7_waits : YV yX7_waits := ⟨List.mem_of_getElem? (i := 1843) (by decide +kernel), List.mem_of_getElem? (i := 38) (by decide +kernel)⟩
theorem m_X7_unqueues : YM yX7_unqueues cX7_unqueues 3 (none) 1 := ⟨⟨List.mem_of_getElem? (i := 1848) (by decide +kernel), by decide +kernel⟩, List.mem_of_getElem? (i := 66) (by decide +kernel), ⟨by decide, by decide⟩, by decide +kernel⟩
theorem v_X7_unqueues : YV yX7_unqueues := ⟨List.mem_of_getElem? (i := 1847) (by decide +kernel), List.mem_of_getElem? (i := 39) (by decide +kernel)⟩
theorem m_X7_isBay : YM yX7_isBay cX7_isBay 1 (some .boolean) 1 := ⟨⟨List.mem_of_getElem? (i := 1632) (by decide +kernel), by decide +kernel⟩, List.mem_of_getElem? (i := 66) (by decide +kernel), ⟨by decide, by decide⟩, by decide +kernel⟩
theorem v_X7_isBay : YS yX7_isBay := List.mem_of_getElem? (i := 1631) (by decide +kernel)
theorem m_X7_isKind : YM yX7_isKind cX7_isKind 1 (some .boolean) 1 := ⟨⟨List.mem_of_getElem? (i := 1638) (by decide +kernel), by decide +kernel⟩, List.mem_of_getElem? (i := 66) (by decide +kernel), ⟨by decide, by decide⟩, by decide +kernel⟩
theorem v_X7_isKind : YS yX7_isKind := List.mem_of_getElem? (i := 1637) (by decide +kernel)
theorem m_X7_inside : YM yX7_inside cX7_inside 3 (some .int) 1 := ⟨⟨List.mem_of_getElem? (i := 1642) (by decide +kernel), by decide +kernel⟩, List.mem_of_getElem? (i := 66) (by decide +kernel), ⟨by decide, by decide⟩, by decide +kernel⟩
theorem v_X7_inside : YV yX7_inside := ⟨List.mem_of_getElem? (i := 1641) (by decide +kernel), List.mem_of_getElem? (i := 16) (by decide +kernel)⟩
theorem m_X7_sets : YM yX7_sets cX7_sets 4 (none) 3 := ⟨⟨List.mem_of_getElem? (i := 1650) (by decide +kernel), by decide +kernel⟩, List.mem_of_getElem? (i := 66) (by decide +kernel), ⟨by decide, by decide⟩, by decide +kernel⟩
theorem v_X7_sets : YV yX7_sets := ⟨List.mem_of_getElem? (i := 1649) (by decide +kernel), List.mem_of_getElem? (i := 18) (by decide +kernel)⟩
theorem m_X7_done : YM yX7_done cX7_done 2 (some .int) 1 := ⟨⟨List.mem_of_getElem? (i := 1654) (by decide +kernel), by decide +kernel⟩, List.mem_of_getElem? (i := 66) (by decide +kernel), ⟨by decide, by decide⟩, by decide +kernel⟩
theorem v_X7_done : YV yX7_done := ⟨List.mem_of_getElem? (i := 1653) (by decide +kernel), List.mem_of_getElem? (i := 19) (by decide +kernel)⟩
theorem m_X7_placeOf : YM yX7_placeOf cX7_placeOf 3 (some .int) 1 := ⟨⟨List.mem_of_getElem? (i := 1678) (by decide +kernel), by decide +kernel⟩, List.mem_of_getElem? (i := 66) (by decide +kernel), ⟨by decide, by decide⟩, by decide +kernel⟩
theorem v_X7_placeOf : YV yX7_placeOf := ⟨List.mem_of_getElem? (i := 1677) (by decide +kernel), List.mem_of_getElem? (i := 24) (by decide +kernel)⟩
theorem m_X7_many : YM yX7_many cX7_many 4 (some .int) 1 := ⟨⟨List.mem_of_getElem? (i := 1682) (by decide +kernel), by decide +kernel⟩, List.mem_of_getElem? (i := 66) (by decide +kernel), ⟨by decide, by decide⟩, by decide +kernel⟩
theorem v_X7_many : YV yX7_many := ⟨List.mem_of_getElem? (i := 1681) (by decide +kernel), List.mem_of_getElem? (i := 25) (by decide +kernel)⟩
theorem m_X7_leaves : YM yX7_leaves cX7_leaves 5 (none) 1 := ⟨⟨List.mem_of_getElem? (i := 1840) (by decide +kernel), by decide +kernel⟩, List.mem_of_getElem? (i := 66) (by decide +kernel), ⟨by decide, by decide⟩, by decide +kernel⟩
theorem v_X7_leaves : YV yX7_leaves := ⟨List.mem_of_getElem? (i := 1839) (by decide +kernel), List.mem_of_getElem? (i := 37) (by decide +kernel)⟩
theorem m_X7_oneDay : YM yX7_oneDay cX7_oneDay 4 (some .int) 0 := ⟨⟨List.mem_of_getElem? (i := 1836) (by decide +kernel), by decide +kernel⟩, List.mem_of_getElem? (i := 66) (by decide +kernel), ⟨by decide, by decide⟩, by decide +kernel⟩
theorem v_X7_oneDay : YV yX7_oneDay := ⟨List.mem_of_getElem? (i := 1835) (by decide +kernel), List.mem_of_getElem? (i := 36) (by decide +kernel)⟩
theorem m_X7_owed : YM yX7_owed cX7_owed 2 (some .int) 1 := ⟨⟨List.mem_of_getElem? (i := 1815) (by decide +kernel), by decide +kernel⟩, List.mem_of_getElem? (i := 66) (by decide +kernel), ⟨by decide, by decide⟩, by decide +kernel⟩
theorem v_X7_owed : YV yX7_owed := ⟨List.mem_of_getElem? (i := 1814) (by decide +kernel), List.mem_of_getElem? (i := 34) (by decide +kernel)⟩
theorem m_X7_remembers : YM yX7_remembers cX7_remembers 2 (none) 0 := ⟨⟨List.mem_of_getElem? (i := 1625) (by decide +kernel), by decide +kernel⟩, List.mem_of_getElem? (i := 66) (by decide +kernel), ⟨by decide, by decide⟩, by decide +kernel⟩
theorem v_X7_remembers : YV yX7_remembers := ⟨List.mem_of_getElem? (i := 1624) (by decide +kernel), List.mem_of_getElem? (i := 14) (by decide +kernel)⟩
theorem m_X7_adds : YM yX7_adds cX7_adds 6 (some .int) 4 := ⟨⟨List.mem_of_getElem? (i := 1629) (by decide +kernel), by decide +kernel⟩, List.mem_of_getElem? (i := 66) (by decide +kernel), ⟨by decide, by decide⟩, by decide +kernel⟩
theorem v_X7_adds : YV yX7_adds := ⟨List.mem_of_getElem? (i := 1628) (by decide +kernel), List.mem_of_getElem? (i := 15) (by decide +kernel)⟩
theorem m_X7_ends : YM yX7_ends cX7_ends 2 (some .int) 1 := ⟨⟨List.mem_of_getElem? (i := 1658) (by decide +kernel), by decide +kernel⟩, List.mem_of_getElem? (i := 66) (by decide +kernel), ⟨by decide, by decide⟩, by decide +kernel⟩
theorem v_X7_ends : YV yX7_ends := ⟨List.mem_of_getElem? (i := 1657) (by decide +kernel), List.mem_of_getElem? (i := 20) (by decide +kernel)⟩
theorem m_X7_seals : YM yX7_seals cX7_seals 3 (some .int) 1 := ⟨⟨List.mem_of_getElem? (i := 1674) (by decide +kernel), by decide +kernel⟩, List.mem_of_getElem? (i := 66) (by decide +kernel), ⟨by decide, by decide⟩, by decide +kernel⟩
theorem v_X7_seals : YV yX7_seals := ⟨List.mem_of_getElem? (i := 1673) (by decide +kernel), List.mem_of_getElem? (i := 23) (by decide +kernel)⟩
theorem m_X7_opens : YM yX7_opens cX7_opens 3 (some .int) 1 := ⟨⟨List.mem_of_getElem? (i := 1690) (by decide +kernel), by decide +kernel⟩, List.mem_of_getElem? (i := 66) (by decide +kernel), ⟨by decide, by decide⟩, by decide +kernel⟩
theorem v_X7_opens : YV yX7_opens := ⟨List.mem_of_getElem? (i := 1689) (by decide +kernel), List.mem_of_getElem? (i := 26) (by decide +kernel)⟩
theorem m_X7_wets : YM yX7_wets cX7_wets 3 (some .int) 1 := ⟨⟨List.mem_of_getElem? (i := 1698) (by decide +kernel), by decide +kernel⟩, List.mem_of_getElem? (i := 66) (by decide +kernel), ⟨by decide, by decide⟩, by decide +kernel⟩
theorem v_X7_wets : YV yX7_wets := ⟨List.mem_of_getElem? (i := 1697) (by decide +kernel), List.mem_of_getElem? (i := 27) (by decide +kernel)⟩
theorem m_X7_moves : YM yX7_moves cX7_moves 5 (some .int) 2 := ⟨⟨List.mem_of_getElem? (i := 1706) (by decide +kernel), by decide +kernel⟩, List.mem_of_getElem? (i := 66) (by decide +kernel), ⟨by decide, by decide⟩, by decide +kernel⟩
theorem v_X7_moves : YV yX7_moves := ⟨List.mem_of_getElem? (i := 1705) (by decide +kernel), List.mem_of_getElem? (i := 28) (by decide +kernel)⟩
theorem m_X7_asked : YM yX7_asked cX7_asked 4 (some .int) 2 := ⟨⟨List.mem_of_getElem? (i := 1722) (by decide +kernel), by decide +kernel⟩, List.mem_of_getElem? (i := 66) (by decide +kernel), ⟨by decide, by decide⟩, by decide +kernel⟩
theorem v_X7_asked : YV yX7_asked := ⟨List.mem_of_getElem? (i := 1721) (by decide +kernel), List.mem_of_getElem? (i := 29) (by decide +kernel)⟩
theorem m_X7_addsStep : YM yX7_addsStep cX7_addsStep 5 (some .int) 2 := ⟨⟨List.mem_of_getElem? (i := 1774) (by decide +kernel), by decide +kernel⟩, List.mem_of_getElem? (i := 66) (by decide +kernel), ⟨by decide, by decide⟩, by decide +kernel⟩
theorem v_X7_addsStep : YV yX7_addsStep := ⟨List.mem_of_getElem? (i := 1773) (by decide +kernel), List.mem_of_getElem? (i := 31) (by decide +kernel)⟩
theorem m_X7_removesStep : YM yX7_removesStep cX7_removesStep 5 (some .int) 1 := ⟨⟨List.mem_of_getElem? (i := 1782) (by decide +kernel), by decide +kernel⟩, List.mem_of_getElem? (i := 66) (by decide +kernel), ⟨by decide, by decide⟩, by decide +kernel⟩
theorem v_X7_removesStep : YV yX7_removesStep := ⟨List.mem_of_getElem? (i := 1781) (by decide +kernel), List.mem_of_getElem? (i := 32) (by decide +kernel)⟩
theorem m_X7_dutyOn : YM yX7_dutyOn cX7_dutyOn 2 (some .int) 1 := ⟨⟨List.mem_of_getElem? (i := 1798) (by decide +kernel), by decide +kernel⟩, List.mem_of_getElem? (i := 66) (by decide +kernel), ⟨by decide, by decide⟩, by decide +kernel⟩
theorem v_X7_dutyOn : YV yX7_dutyOn := ⟨List.mem_of_getElem? (i := 1796) (by decide +kernel), List.mem_of_getElem? (i := 1797) (by decide +kernel)⟩
theorem m_X7_totalDuty : YM yX7_totalDuty cX7_totalDuty 3 (some .int) 0 := ⟨⟨List.mem_of_getElem? (i := 1819) (by decide +kernel), by decide +kernel⟩, List.mem_of_getElem? (i := 66) (by decide +kernel), ⟨by decide, by decide⟩, by decide +kernel⟩
theorem v_X7_totalDuty : YV yX7_totalDuty := ⟨List.mem_of_getElem? (i := 1817) (by decide +kernel), List.mem_of_getElem? (i := 1818) (by decide +kernel)⟩
theorem m_X7_passes : YM yX7_passes cX7_passes 4 (some .int) 1 := ⟨⟨List.mem_of_getElem? (i := 1832) (by decide +kernel), by decide +kernel⟩, List.mem_of_getElem? (i := 66) (by decide +kernel), ⟨by decide, by decide⟩, by decide +kernel⟩
theorem v_X7_passes : YV yX7_passes := ⟨List.mem_of_getElem? (i := 1831) (by decide +kernel), List.mem_of_getElem? (i := 35) (by decide +kernel)⟩
theorem m_X7_dampReach : YM yX7_dampReach cX7_dampReach 4 (some .int) 0 := ⟨⟨List.mem_of_getElem? (i := 1864) (by decide +kernel), by decide +kernel⟩, List.mem_of_getElem? (i := 66) (by decide +kernel), ⟨by decide, by decide⟩, by decide +kernel⟩
theorem v_X7_dampReach : YV yX7_dampReach := ⟨List.mem_of_getElem? (i := 1862) (by decide +kernel), List.mem_of_getElem? (i := 1863) (by decide +kernel)⟩
theorem m_X7_joins : YM yX7_joins cX7_joins 2 (some .int) 1 := ⟨⟨List.mem_of_getElem? (i := 1881) (by decide +kernel), by decide +kernel⟩, List.mem_of_getElem? (i := 66) (by decide +kernel), ⟨by decide, by decide⟩, by decide +kernel⟩
theorem v_X7_joins : YV yX7_joins := ⟨List.mem_of_getElem? (i := 1880) (by decide +kernel), List.mem_of_getElem? (i := 40) (by decide +kernel)⟩
theorem m_X7_audits : YM yX7_audits cX7_audits 2 (some .int) 0 := ⟨⟨List.mem_of_getElem? (i := 1889) (by decide +kernel), by decide +kernel⟩, List.mem_of_getElem? (i := 66) (by decide +kernel), ⟨by decide, by decide⟩, by decide +kernel⟩
theorem v_X7_audits : YV yX7_audits := ⟨List.mem_of_getElem? (i := 1888) (by decide +kernel), List.mem_of_getElem? (i := 41) (by decide +kernel)⟩
theorem m_X7_deposits : YM yX7_deposits cX7_deposits 2 (some .int) 1 := ⟨⟨List.mem_of_getElem? (i := 1905) (by decide +kernel), by decide +kernel⟩, List.mem_of_getElem? (i := 66) (by decide +kernel), ⟨by decide, by decide⟩, by decide +kernel⟩
theorem v_X7_deposits : YV yX7_deposits := ⟨List.mem_of_getElem? (i := 1904) (by decide +kernel), List.mem_of_getElem? (i := 42) (by decide +kernel)⟩
theorem m_X7_releases : YM yX7_releases cX7_releases 4 (some .int) 1 := ⟨⟨List.mem_of_getElem? (i := 1913) (by decide +kernel), by decide +kernel⟩, List.mem_of_getElem? (i := 66) (by decide +kernel), ⟨by decide, by decide⟩, by decide +kernel⟩
theorem v_X7_releases : YV yX7_releases := ⟨List.mem_of_getElem? (i := 1912) (by decide +kernel), List.mem_of_getElem? (i := 43) (by decide +kernel)⟩
theorem m_X7_writes : YM yX7_writes cX7_writes 2 (none) 1 := ⟨⟨List.mem_of_getElem? (i := 1941) (by decide +kernel), by decide +kernel⟩, List.mem_of_getElem? (i := 66) (by decide +kernel), ⟨by decide, by decide⟩, by decide +kernel⟩
theorem v_X7_writes : YV yX7_writes := ⟨List.mem_of_getElem? (i := 1940) (by decide +kernel), List.mem_of_getElem? (i := 44) (by decide +kernel)⟩
theorem m_X7_writesNumber : YM yX7_writesNumber cX7_writesNumber 2 (none) 1 := ⟨⟨List.mem_of_getElem? (i := 1945) (by decide +kernel), by decide +kernel⟩, List.mem_of_getElem? (i := 66) (by decide +kernel), ⟨by decide, by decide⟩, by decide +kernel⟩
theorem v_X7_writesNumber : YV yX7_writesNumber := ⟨List.mem_of_getElem? (i := 1944) (by decide +kernel), List.mem_of_getElem? (i := 45) (by decide +kernel)⟩
theorem m_X7_here : YM yX7_here cX7_here 2 (some .int) 1 := ⟨⟨List.mem_of_getElem? (i := 1973) (by decide +kernel), by decide +kernel⟩, List.mem_of_getElem? (i := 66) (by decide +kernel), ⟨by decide, by decide⟩, by decide +kernel⟩
theorem v_X7_here : YV yX7_here := ⟨List.mem_of_getElem? (i := 1972) (by decide +kernel), List.mem_of_getElem? (i := 47) (by decide +kernel)⟩
theorem m_X7_says : YM yX7_says cX7_says 3 (none) 1 := ⟨⟨List.mem_of_getElem? (i := 1982) (by decide +kernel), by decide +kernel⟩, List.mem_of_getElem? (i := 66) (by decide +kernel), ⟨by decide, by decide⟩, by decide +kernel⟩
theorem v_X7_says : YV yX7_says := ⟨List.mem_of_getElem? (i := 1981) (by decide +kernel), List.mem_of_getElem? (i := 49) (by decide +kernel)⟩
theorem m_X7_number : YM yX7_number cX7_number 4 (none) 1 := ⟨⟨List.mem_of_getElem? (i := 1988) (by decide +kernel), by decide +kernel⟩, List.mem_of_getElem? (i := 66) (by decide +kernel), ⟨by decide, by decide⟩, by decide +kernel⟩
theorem v_X7_number : YV yX7_number := ⟨List.mem_of_getElem? (i := 1987) (by decide +kernel), List.mem_of_getElem? (i := 50) (by decide +kernel)⟩
theorem m_X7_one : YM yX7_one cX7_one 3 (none) 2 := ⟨⟨List.mem_of_getElem? (i := 2000) (by decide +kernel), by decide +kernel⟩, List.mem_of_getElem? (i := 66) (by decide +kernel), ⟨by decide, by decide⟩, by decide +kernel⟩
theorem v_X7_one : YV yX7_one := ⟨List.mem_of_getElem? (i := 1999) (by decide +kernel), List.mem_of_getElem? (i := 52) (by decide +kernel)⟩
theorem m_X7_readsLot : YM yX7_readsLot cX7_readsLot 1 (none) 0 := ⟨⟨List.mem_of_getElem? (i := 1977) (by decide +kernel), by decide +kernel⟩, List.mem_of_getElem? (i := 66) (by decide +kernel), ⟨by decide, by decide⟩, by decide +kernel⟩
theorem v_X7_readsLot : YV yX7_readsLot := ⟨List.mem_of_getElem? (i := 1976) (by decide +kernel), List.mem_of_getElem? (i := 48) (by decide +kernel)⟩
theorem m_X7_two : YM yX7_two cX7_two 4 (none) 3 := ⟨⟨List.mem_of_getElem? (i := 1996) (by decide +kernel), by decide +kernel⟩, List.mem_of_getElem? (i := 66) (by decide +kernel), ⟨by decide, by decide⟩, by decide +kernel⟩
theorem v_X7_two : YV yX7_two := ⟨List.mem_of_getElem? (i := 1995) (by decide +kernel), List.mem_of_getElem? (i := 51) (by decide +kernel)⟩
theorem m_X7_readsOne : YM yX7_readsOne cX7_readsOne 2 (none) 0 := ⟨⟨List.mem_of_getElem? (i := 1969) (by decide +kernel), by decide +kernel⟩, List.mem_of_getElem? (i := 66) (by decide +kernel), ⟨by decide, by decide⟩, by decide +kernel⟩
theorem v_X7_readsOne : YV yX7_readsOne := ⟨List.mem_of_getElem? (i := 1968) (by decide +kernel), List.mem_of_getElem? (i := 46) (by decide +kernel)⟩
theorem m_X7_does : YM yX7_does cX7_does 4 (some .int) 1 := ⟨⟨List.mem_of_getElem? (i := 2013) (by decide +kernel), by decide +kernel⟩, List.mem_of_getElem? (i := 66) (by decide +kernel), ⟨by decide, by decide⟩, by decide +kernel⟩
theorem v_X7_does : YV yX7_does := ⟨List.mem_of_getElem? (i := 2012) (by decide +kernel), List.mem_of_getElem? (i := 53) (by decide +kernel)⟩

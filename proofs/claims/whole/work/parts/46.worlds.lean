/-! The cells of the two sides, printed. -/
def wC (a : Nat → Nat) (cI cZ : ClassId) (g : St) : va_W := [(a 0, .inr (4, [.ref (a 1), .ref (a 2), .ref (a 3), .ref (a 4)])), (a 1, .inr (2, [.ref (a 5), .ref (a 6), .ref (a 7), .int (g 1 3)])), (a 2, .inr (1, [.ref (a 8), .ref (a 9), .int (g 2 2)])), (a 3, .inr (0, [.ref (a 10), .ref (a 11), .ref (a 12), .ref (a 13), .ref (a 14), .int (g 3 5)])), (a 4, .inr (3, [.ref (a 15), .ref (a 16), .ref (a 17), .int (g 4 3)])), (a 5, .inl (cI, 16, .inl (g 5))), (a 6, .inl (cI, 16, .inl (g 6))), (a 7, .inl (cI, 16, .inl (g 7))), (a 8, .inl (cI, 81, .inl (g 8))), (a 9, .inl (cI, 256, .inl (g 9))), (a 10, .inl (cZ, 16, .inl (g 10))), (a 11, .inl (cI, 120, .inl (g 11))), (a 12, .inl (cI, 121, .inl (g 12))), (a 13, .inl (cZ, 120, .inl (g 13))), (a 14, .inl (cZ, 256, .inl (g 14))), (a 15, .inl (cI, 20, .inl (g 15))), (a 16, .inl (cI, 20, .inl (g 16))), (a 17, .inl (cI, 20, .inl (g 17)))]
theorem wC_0 (a : Nat → Nat) (cI cZ : ClassId) (g : St) : (wC a cI cZ g)[0]? = some (a 0, .inr (4, [.ref (a 1), .ref (a 2), .ref (a 3), .ref (a 4)])) := rfl
theorem wC_1 (a : Nat → Nat) (cI cZ : ClassId) (g : St) : (wC a cI cZ g)[1]? = some (a 1, .inr (2, [.ref (a 5), .ref (a 6), .ref (a 7), .int (g 1 3)])) := rfl
theorem wC_2 (a : Nat → Nat) (cI cZ : ClassId) (g : St) : (wC a cI cZ g)[2]? = some (a 2, .inr (1, [.ref (a 8), .ref (a 9), .int (g 2 2)])) := rfl
theorem wC_3 (a : Nat → Nat) (cI cZ : ClassId) (g : St) : (wC a cI cZ g)[3]? = some (a 3, .inr (0, [.ref (a 10), .ref (a 11), .ref (a 12), .ref (a 13), .ref (a 14), .int (g 3 5)])) := rfl
theorem wC_4 (a : Nat → Nat) (cI cZ : ClassId) (g : St) : (wC a cI cZ g)[4]? = some (a 4, .inr (3, [.ref (a 15), .ref (a 16), .ref (a 17), .int (g 4 3)])) := rfl
theorem wC_5 (a : Nat → Nat) (cI cZ : ClassId) (g : St) : (wC a cI cZ g)[5]? = some (a 5, .inl (cI, 16, .inl (g 5))) := rfl
theorem wC_6 (a : Nat → Nat) (cI cZ : ClassId) (g : St) : (wC a cI cZ g)[6]? = some (a 6, .inl (cI, 16, .inl (g 6))) := rfl
theorem wC_7 (a : Nat → Nat) (cI cZ : ClassId) (g : St) : (wC a cI cZ g)[7]? = some (a 7, .inl (cI, 16, .inl (g 7))) := rfl
theorem wC_8 (a : Nat → Nat) (cI cZ : ClassId) (g : St) : (wC a cI cZ g)[8]? = some (a 8, .inl (cI, 81, .inl (g 8))) := rfl
theorem wC_9 (a : Nat → Nat) (cI cZ : ClassId) (g : St) : (wC a cI cZ g)[9]? = some (a 9, .inl (cI, 256, .inl (g 9))) := rfl
theorem wC_10 (a : Nat → Nat) (cI cZ : ClassId) (g : St) : (wC a cI cZ g)[10]? = some (a 10, .inl (cZ, 16, .inl (g 10))) := rfl
theorem wC_11 (a : Nat → Nat) (cI cZ : ClassId) (g : St) : (wC a cI cZ g)[11]? = some (a 11, .inl (cI, 120, .inl (g 11))) := rfl
theorem wC_12 (a : Nat → Nat) (cI cZ : ClassId) (g : St) : (wC a cI cZ g)[12]? = some (a 12, .inl (cI, 121, .inl (g 12))) := rfl
theorem wC_13 (a : Nat → Nat) (cI cZ : ClassId) (g : St) : (wC a cI cZ g)[13]? = some (a 13, .inl (cZ, 120, .inl (g 13))) := rfl
theorem wC_14 (a : Nat → Nat) (cI cZ : ClassId) (g : St) : (wC a cI cZ g)[14]? = some (a 14, .inl (cZ, 256, .inl (g 14))) := rfl
theorem wC_15 (a : Nat → Nat) (cI cZ : ClassId) (g : St) : (wC a cI cZ g)[15]? = some (a 15, .inl (cI, 20, .inl (g 15))) := rfl
theorem wC_16 (a : Nat → Nat) (cI cZ : ClassId) (g : St) : (wC a cI cZ g)[16]? = some (a 16, .inl (cI, 20, .inl (g 16))) := rfl
theorem wC_17 (a : Nat → Nat) (cI cZ : ClassId) (g : St) : (wC a cI cZ g)[17]? = some (a 17, .inl (cI, 20, .inl (g 17))) := rfl
def wM (a : Nat → Nat) (cI cZ : ClassId) (g : St) : va_W := [(a 0, .inr (5, [.int (g 0 0), .int (g 0 1), .ref (a 1), .ref (a 2), .ref (a 3), .int (g 0 5), .ref (a 4), .ref (a 5), .ref (a 6), .ref (a 7), .ref (a 8), .int (g 0 11), .ref (a 9), .ref (a 10), .ref (a 11), .int (g 0 15), .ref (a 12), .int (g 0 17), .ref (a 13), .ref (a 14), .ref (a 15)])), (a 1, .inl (cI, 16, .inl (g 1))), (a 2, .inl (cI, 16, .inl (g 2))), (a 3, .inl (cI, 16, .inl (g 3))), (a 4, .inl (cI, 150, .inl (g 4))), (a 5, .inl (cZ, 256, .inl (g 5))), (a 6, .inl (cI, 256, .inl (g 6))), (a 7, .inl (cI, 256, .inl (g 7))), (a 8, .inl (cZ, 256, .inl (g 8))), (a 9, .inl (cI, 130, .inl (g 9))), (a 10, .inl (cI, 130, .inl (g 10))), (a 11, .inl (cZ, 130, .inl (g 11))), (a 12, .inl (cI, 260, .inl (g 12))), (a 13, .inl (cI, 60, .inl (g 13))), (a 14, .inl (cI, 60, .inl (g 14))), (a 15, .inl (cI, 60, .inl (g 15)))]
theorem wM_0 (a : Nat → Nat) (cI cZ : ClassId) (g : St) : (wM a cI cZ g)[0]? = some (a 0, .inr (5, [.int (g 0 0), .int (g 0 1), .ref (a 1), .ref (a 2), .ref (a 3), .int (g 0 5), .ref (a 4), .ref (a 5), .ref (a 6), .ref (a 7), .ref (a 8), .int (g 0 11), .ref (a 9), .ref (a 10), .ref (a 11), .int (g 0 15), .ref (a 12), .int (g 0 17), .ref (a 13), .ref (a 14), .ref (a 15)])) := rfl
theorem wM_1 (a : Nat → Nat) (cI cZ : ClassId) (g : St) : (wM a cI cZ g)[1]? = some (a 1, .inl (cI, 16, .inl (g 1))) := rfl
theorem wM_2 (a : Nat → Nat) (cI cZ : ClassId) (g : St) : (wM a cI cZ g)[2]? = some (a 2, .inl (cI, 16, .inl (g 2))) := rfl
theorem wM_3 (a : Nat → Nat) (cI cZ : ClassId) (g : St) : (wM a cI cZ g)[3]? = some (a 3, .inl (cI, 16, .inl (g 3))) := rfl
theorem wM_4 (a : Nat → Nat) (cI cZ : ClassId) (g : St) : (wM a cI cZ g)[4]? = some (a 4, .inl (cI, 150, .inl (g 4))) := rfl
theorem wM_5 (a : Nat → Nat) (cI cZ : ClassId) (g : St) : (wM a cI cZ g)[5]? = some (a 5, .inl (cZ, 256, .inl (g 5))) := rfl
theorem wM_6 (a : Nat → Nat) (cI cZ : ClassId) (g : St) : (wM a cI cZ g)[6]? = some (a 6, .inl (cI, 256, .inl (g 6))) := rfl
theorem wM_7 (a : Nat → Nat) (cI cZ : ClassId) (g : St) : (wM a cI cZ g)[7]? = some (a 7, .inl (cI, 256, .inl (g 7))) := rfl
theorem wM_8 (a : Nat → Nat) (cI cZ : ClassId) (g : St) : (wM a cI cZ g)[8]? = some (a 8, .inl (cZ, 256, .inl (g 8))) := rfl
theorem wM_9 (a : Nat → Nat) (cI cZ : ClassId) (g : St) : (wM a cI cZ g)[9]? = some (a 9, .inl (cI, 130, .inl (g 9))) := rfl
theorem wM_10 (a : Nat → Nat) (cI cZ : ClassId) (g : St) : (wM a cI cZ g)[10]? = some (a 10, .inl (cI, 130, .inl (g 10))) := rfl
theorem wM_11 (a : Nat → Nat) (cI cZ : ClassId) (g : St) : (wM a cI cZ g)[11]? = some (a 11, .inl (cZ, 130, .inl (g 11))) := rfl
theorem wM_12 (a : Nat → Nat) (cI cZ : ClassId) (g : St) : (wM a cI cZ g)[12]? = some (a 12, .inl (cI, 260, .inl (g 12))) := rfl
theorem wM_13 (a : Nat → Nat) (cI cZ : ClassId) (g : St) : (wM a cI cZ g)[13]? = some (a 13, .inl (cI, 60, .inl (g 13))) := rfl
theorem wM_14 (a : Nat → Nat) (cI cZ : ClassId) (g : St) : (wM a cI cZ g)[14]? = some (a 14, .inl (cI, 60, .inl (g 14))) := rfl
theorem wM_15 (a : Nat → Nat) (cI cZ : ClassId) (g : St) : (wM a cI cZ g)[15]? = some (a 15, .inl (cI, 60, .inl (g 15))) := rfl

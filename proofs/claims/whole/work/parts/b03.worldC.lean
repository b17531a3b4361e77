abbrev oC0 (ad : Nat → Nat) (w : Mm) : List Value := [.ref (ad 1), .ref (ad 10), .ref (ad 17), .ref (ad 23), .ref (ad 30), .ref (ad 39), .ref (ad 41), .ref (ad 43), .int (w.1 0 8), .int (w.1 0 9), .long (w.2.1 0 10), .long (w.2.1 0 11)]
abbrev oC1 (ad : Nat → Nat) (w : Mm) : List Value := [.ref (ad 2), .ref (ad 3)]
abbrev oC10 (ad : Nat → Nat) (w : Mm) : List Value := [.ref (ad 11), .ref (ad 12)]
abbrev oC17 (ad : Nat → Nat) (w : Mm) : List Value := [.ref (ad 18), .ref (ad 19)]
abbrev oC23 (ad : Nat → Nat) (w : Mm) : List Value := [.int (w.1 23 0), .ref (ad 24), .int (w.1 23 2), .ref (ad 25), .ref (ad 26), .ref (ad 27), .int (w.1 23 6), .int (w.1 23 7), .int (w.1 23 8), .int (w.1 23 9), .ref (ad 28), .int (w.1 23 11), .ref (ad 29)]
abbrev oC30 (ad : Nat → Nat) (w : Mm) : List Value := [.ref (ad 31), .ref (ad w.2.2), .int (w.1 30 2)]
abbrev oC31 (ad : Nat → Nat) (w : Mm) : List Value := [.int (w.1 31 0), .ref (ad 32), .int (w.1 31 2), .ref (ad 33), .ref (ad 34), .ref (ad 35), .int (w.1 31 6), .int (w.1 31 7), .int (w.1 31 8), .int (w.1 31 9), .ref (ad 36), .int (w.1 31 11), .ref (ad 37)]
abbrev oC39 (ad : Nat → Nat) (w : Mm) : List Value := [.ref (ad 40), .long (w.2.1 39 1), .int (w.1 39 2), .int (w.1 39 3)]
abbrev oC41 (ad : Nat → Nat) (w : Mm) : List Value := [.ref (ad 42), .long (w.2.1 41 1)]
def encC (c3 : C3) (ad : Nat → Nat) (w : Mm) : va_W := [(ad 0, .inr (5, oC0 ad w)), (ad 1, .inr (3, oC1 ad w)), (ad 2, .inl (c3.2.2, 6, .inr (.inr (.inr (.inr (fun i => some (ad (4 + i)))))))), (ad 3, .inl (c3.1, 6, .inl (w.1 3))), (ad 4, .inl (c3.1, 40, .inl (w.1 4))), (ad 5, .inl (c3.1, 40, .inl (w.1 5))), (ad 6, .inl (c3.1, 40, .inl (w.1 6))), (ad 7, .inl (c3.1, 40, .inl (w.1 7))), (ad 8, .inl (c3.1, 40, .inl (w.1 8))), (ad 9, .inl (c3.1, 40, .inl (w.1 9))), (ad 10, .inr (3, oC10 ad w)), (ad 11, .inl (c3.2.2, 4, .inr (.inr (.inr (.inr (fun i => some (ad (13 + i)))))))), (ad 12, .inl (c3.1, 4, .inl (w.1 12))), (ad 13, .inl (c3.1, 60, .inl (w.1 13))), (ad 14, .inl (c3.1, 60, .inl (w.1 14))), (ad 15, .inl (c3.1, 60, .inl (w.1 15))), (ad 16, .inl (c3.1, 60, .inl (w.1 16))), (ad 17, .inr (3, oC17 ad w)), (ad 18, .inl (c3.2.2, 3, .inr (.inr (.inr (.inr (fun i => some (ad (20 + i)))))))), (ad 19, .inl (c3.1, 3, .inl (w.1 19))), (ad 20, .inl (c3.1, 40, .inl (w.1 20))), (ad 21, .inl (c3.1, 40, .inl (w.1 21))), (ad 22, .inl (c3.1, 40, .inl (w.1 22))), (ad 23, .inr (1, oC23 ad w)), (ad 24, .inl (c3.1, 4, .inl (w.1 24))), (ad 25, .inl (c3.1, 6, .inl (w.1 25))), (ad 26, .inl (c3.1, 6, .inl (w.1 26))), (ad 27, .inl (c3.1, 6, .inl (w.1 27))), (ad 28, .inl (c3.1, 6, .inl (w.1 28))), (ad 29, .inl (c3.1, 40, .inl (w.1 29))), (ad 30, .inr (2, oC30 ad w)), (ad 31, .inr (1, oC31 ad w)), (ad 32, .inl (c3.1, 4, .inl (w.1 32))), (ad 33, .inl (c3.1, 6, .inl (w.1 33))), (ad 34, .inl (c3.1, 6, .inl (w.1 34))), (ad 35, .inl (c3.1, 6, .inl (w.1 35))), (ad 36, .inl (c3.1, 6, .inl (w.1 36))), (ad 37, .inl (c3.1, 40, .inl (w.1 37))), (ad 38, .inl (c3.1, 0, .inl (w.1 38))), (ad 39, .inr (4, oC39 ad w)), (ad 40, .inl (c3.1, 5, .inl (w.1 40))), (ad 41, .inr (0, oC41 ad w)), (ad 42, .inl (c3.2.1, 13, .inr (.inl (w.2.1 42)))), (ad 43, .inl (c3.1, 6, .inl (w.1 43)))]
theorem encC_ok (c3 : C3) (ad : Nat → Nat) : EncOk (encC c3 ad) := fun _ _ => rfl
theorem gC0 (c3 : C3) (ad : Nat → Nat) (w : Mm) : (encC c3 ad w)[0]? = some (ad 0, .inr (5, oC0 ad w)) := rfl
theorem pC0_8 (c3 : C3) (ad : Nat → Nat) (w : Mm) (x : Int32) : (encC c3 ad w).set 0 (ad 0, .inr (5, (oC0 ad w).set 8 (.int x))) = encC c3 ad (sA w 0 8 x) := rfl
theorem pC0_9 (c3 : C3) (ad : Nat → Nat) (w : Mm) (x : Int32) : (encC c3 ad w).set 0 (ad 0, .inr (5, (oC0 ad w).set 9 (.int x))) = encC c3 ad (sA w 0 9 x) := rfl
theorem pC0_10 (c3 : C3) (ad : Nat → Nat) (w : Mm) (x : Int64) : (encC c3 ad w).set 0 (ad 0, .inr (5, (oC0 ad w).set 10 (.long x))) = encC c3 ad (sL w 0 10 x) := rfl
theorem pC0_11 (c3 : C3) (ad : Nat → Nat) (w : Mm) (x : Int64) : (encC c3 ad w).set 0 (ad 0, .inr (5, (oC0 ad w).set 11 (.long x))) = encC c3 ad (sL w 0 11 x) := rfl
theorem gC1 (c3 : C3) (ad : Nat → Nat) (w : Mm) : (encC c3 ad w)[1]? = some (ad 1, .inr (3, oC1 ad w)) := rfl
theorem gC2 (c3 : C3) (ad : Nat → Nat) (w : Mm) : (encC c3 ad w)[2]? = some (ad 2, .inl (c3.2.2, 6, .inr (.inr (.inr (.inr (fun i => some (ad (4 + i)))))))) := rfl
theorem gC3 (c3 : C3) (ad : Nat → Nat) (w : Mm) : (encC c3 ad w)[3]? = some (ad 3, .inl (c3.1, 6, .inl (w.1 3))) := rfl
theorem sC3 (c3 : C3) (ad : Nat → Nat) (w : Mm) (k : Nat) (x : Int32) : (encC c3 ad w).set 3 (ad 3, .inl (c3.1, 6, .inl (upd (w.1 3) k x))) = encC c3 ad (sA w 3 k x) := rfl
theorem tC3 (c3 : C3) (ad : Nat → Nat) (w : Mm) (f : Nat → Int32) : (encC c3 ad w).set 3 (ad 3, .inl (c3.1, 6, .inl f)) = encC c3 ad (sF w 3 f) := rfl
theorem gC4 (c3 : C3) (ad : Nat → Nat) (w : Mm) : (encC c3 ad w)[4]? = some (ad 4, .inl (c3.1, 40, .inl (w.1 4))) := rfl
theorem sC4 (c3 : C3) (ad : Nat → Nat) (w : Mm) (k : Nat) (x : Int32) : (encC c3 ad w).set 4 (ad 4, .inl (c3.1, 40, .inl (upd (w.1 4) k x))) = encC c3 ad (sA w 4 k x) := rfl
theorem tC4 (c3 : C3) (ad : Nat → Nat) (w : Mm) (f : Nat → Int32) : (encC c3 ad w).set 4 (ad 4, .inl (c3.1, 40, .inl f)) = encC c3 ad (sF w 4 f) := rfl
theorem gC5 (c3 : C3) (ad : Nat → Nat) (w : Mm) : (encC c3 ad w)[5]? = some (ad 5, .inl (c3.1, 40, .inl (w.1 5))) := rfl
theorem sC5 (c3 : C3) (ad : Nat → Nat) (w : Mm) (k : Nat) (x : Int32) : (encC c3 ad w).set 5 (ad 5, .inl (c3.1, 40, .inl (upd (w.1 5) k x))) = encC c3 ad (sA w 5 k x) := rfl
theorem tC5 (c3 : C3) (ad : Nat → Nat) (w : Mm) (f : Nat → Int32) : (encC c3 ad w).set 5 (ad 5, .inl (c3.1, 40, .inl f)) = encC c3 ad (sF w 5 f) := rfl
theorem gC6 (c3 : C3) (ad : Nat → Nat) (w : Mm) : (encC c3 ad w)[6]? = some (ad 6, .inl (c3.1, 40, .inl (w.1 6))) := rfl
theorem sC6 (c3 : C3) (ad : Nat → Nat) (w : Mm) (k : Nat) (x : Int32) : (encC c3 ad w).set 6 (ad 6, .inl (c3.1, 40, .inl (upd (w.1 6) k x))) = encC c3 ad (sA w 6 k x) := rfl
theorem tC6 (c3 : C3) (ad : Nat → Nat) (w : Mm) (f : Nat → Int32) : (encC c3 ad w).set 6 (ad 6, .inl (c3.1, 40, .inl f)) = encC c3 ad (sF w 6 f) := rfl
theorem gC7 (c3 : C3) (ad : Nat → Nat) (w : Mm) : (encC c3 ad w)[7]? = some (ad 7, .inl (c3.1, 40, .inl (w.1 7))) := rfl
theorem sC7 (c3 : C3) (ad : Nat → Nat) (w : Mm) (k : Nat) (x : Int32) : (encC c3 ad w).set 7 (ad 7, .inl (c3.1, 40, .inl (upd (w.1 7) k x))) = encC c3 ad (sA w 7 k x) := rfl
theorem tC7 (c3 : C3) (ad : Nat → Nat) (w : Mm) (f : Nat → Int32) : (encC c3 ad w).set 7 (ad 7, .inl (c3.1, 40, .inl f)) = encC c3 ad (sF w 7 f) := rfl
theorem gC8 (c3 : C3) (ad : Nat → Nat) (w : Mm) : (encC c3 ad w)[8]? = some (ad 8, .inl (c3.1, 40, .inl (w.1 8))) := rfl
theorem sC8 (c3 : C3) (ad : Nat → Nat) (w : Mm) (k : Nat) (x : Int32) : (encC c3 ad w).set 8 (ad 8, .inl (c3.1, 40, .inl (upd (w.1 8) k x))) = encC c3 ad (sA w 8 k x) := rfl
theorem tC8 (c3 : C3) (ad : Nat → Nat) (w : Mm) (f : Nat → Int32) : (encC c3 ad w).set 8 (ad 8, .inl (c3.1, 40, .inl f)) = encC c3 ad (sF w 8 f) := rfl
theorem gC9 (c3 : C3) (ad : Nat → Nat) (w : Mm) : (encC c3 ad w)[9]? = some (ad 9, .inl (c3.1, 40, .inl (w.1 9))) := rfl
theorem sC9 (c3 : C3) (ad : Nat → Nat) (w : Mm) (k : Nat) (x : Int32) : (encC c3 ad w).set 9 (ad 9, .inl (c3.1, 40, .inl (upd (w.1 9) k x))) = encC c3 ad (sA w 9 k x) := rfl
theorem tC9 (c3 : C3) (ad : Nat → Nat) (w : Mm) (f : Nat → Int32) : (encC c3 ad w).set 9 (ad 9, .inl (c3.1, 40, .inl f)) = encC c3 ad (sF w 9 f) := rfl
theorem gC10 (c3 : C3) (ad : Nat → Nat) (w : Mm) : (encC c3 ad w)[10]? = some (ad 10, .inr (3, oC10 ad w)) := rfl
theorem gC11 (c3 : C3) (ad : Nat → Nat) (w : Mm) : (encC c3 ad w)[11]? = some (ad 11, .inl (c3.2.2, 4, .inr (.inr (.inr (.inr (fun i => some (ad (13 + i)))))))) := rfl
theorem gC12 (c3 : C3) (ad : Nat → Nat) (w : Mm) : (encC c3 ad w)[12]? = some (ad 12, .inl (c3.1, 4, .inl (w.1 12))) := rfl
theorem sC12 (c3 : C3) (ad : Nat → Nat) (w : Mm) (k : Nat) (x : Int32) : (encC c3 ad w).set 12 (ad 12, .inl (c3.1, 4, .inl (upd (w.1 12) k x))) = encC c3 ad (sA w 12 k x) := rfl
theorem tC12 (c3 : C3) (ad : Nat → Nat) (w : Mm) (f : Nat → Int32) : (encC c3 ad w).set 12 (ad 12, .inl (c3.1, 4, .inl f)) = encC c3 ad (sF w 12 f) := rfl
theorem gC13 (c3 : C3) (ad : Nat → Nat) (w : Mm) : (encC c3 ad w)[13]? = some (ad 13, .inl (c3.1, 60, .inl (w.1 13))) := rfl
theorem sC13 (c3 : C3) (ad : Nat → Nat) (w : Mm) (k : Nat) (x : Int32) : (encC c3 ad w).set 13 (ad 13, .inl (c3.1, 60, .inl (upd (w.1 13) k x))) = encC c3 ad (sA w 13 k x) := rfl
theorem tC13 (c3 : C3) (ad : Nat → Nat) (w : Mm) (f : Nat → Int32) : (encC c3 ad w).set 13 (ad 13, .inl (c3.1, 60, .inl f)) = encC c3 ad (sF w 13 f) := rfl
theorem gC14 (c3 : C3) (ad : Nat → Nat) (w : Mm) : (encC c3 ad w)[14]? = some (ad 14, .inl (c3.1, 60, .inl (w.1 14))) := rfl
theorem sC14 (c3 : C3) (ad : Nat → Nat) (w : Mm) (k : Nat) (x : Int32) : (encC c3 ad w).set 14 (ad 14, .inl (c3.1, 60, .inl (upd (w.1 14) k x))) = encC c3 ad (sA w 14 k x) := rfl
theorem tC14 (c3 : C3) (ad : Nat → Nat) (w : Mm) (f : Nat → Int32) : (encC c3 ad w).set 14 (ad 14, .inl (c3.1, 60, .inl f)) = encC c3 ad (sF w 14 f) := rfl
theorem gC15 (c3 : C3) (ad : Nat → Nat) (w : Mm) : (encC c3 ad w)[15]? = some (ad 15, .inl (c3.1, 60, .inl (w.1 15))) := rfl
theorem sC15 (c3 : C3) (ad : Nat → Nat) (w : Mm) (k : Nat) (x : Int32) : (encC c3 ad w).set 15 (ad 15, .inl (c3.1, 60, .inl (upd (w.1 15) k x))) = encC c3 ad (sA w 15 k x) := rfl
theorem tC15 (c3 : C3) (ad : Nat → Nat) (w : Mm) (f : Nat → Int32) : (encC c3 ad w).set 15 (ad 15, .inl (c3.1, 60, .inl f)) = encC c3 ad (sF w 15 f) := rfl
theorem gC16 (c3 : C3) (ad : Nat → Nat) (w : Mm) : (encC c3 ad w)[16]? = some (ad 16, .inl (c3.1, 60, .inl (w.1 16))) := rfl
theorem sC16 (c3 : C3) (ad : Nat → Nat) (w : Mm) (k : Nat) (x : Int32) : (encC c3 ad w).set 16 (ad 16, .inl (c3.1, 60, .inl (upd (w.1 16) k x))) = encC c3 ad (sA w 16 k x) := rfl
theorem tC16 (c3 : C3) (ad : Nat → Nat) (w : Mm) (f : Nat → Int32) : (encC c3 ad w).set 16 (ad 16, .inl (c3.1, 60, .inl f)) = encC c3 ad (sF w 16 f) := rfl
theorem gC17 (c3 : C3) (ad : Nat → Nat) (w : Mm) : (encC c3 ad w)[17]? = some (ad 17, .inr (3, oC17 ad w)) := rfl
theorem gC18 (c3 : C3) (ad : Nat → Nat) (w : Mm) : (encC c3 ad w)[18]? = some (ad 18, .inl (c3.2.2, 3, .inr (.inr (.inr (.inr (fun i => some (ad (20 + i)))))))) := rfl
theorem gC19 (c3 : C3) (ad : Nat → Nat) (w : Mm) : (encC c3 ad w)[19]? = some (ad 19, .inl (c3.1, 3, .inl (w.1 19))) := rfl
theorem sC19 (c3 : C3) (ad : Nat → Nat) (w : Mm) (k : Nat) (x : Int32) : (encC c3 ad w).set 19 (ad 19, .inl (c3.1, 3, .inl (upd (w.1 19) k x))) = encC c3 ad (sA w 19 k x) := rfl
theorem tC19 (c3 : C3) (ad : Nat → Nat) (w : Mm) (f : Nat → Int32) : (encC c3 ad w).set 19 (ad 19, .inl (c3.1, 3, .inl f)) = encC c3 ad (sF w 19 f) := rfl
theorem gC20 (c3 : C3) (ad : Nat → Nat) (w : Mm) : (encC c3 ad w)[20]? = some (ad 20, .inl (c3.1, 40, .inl (w.1 20))) := rfl
theorem sC20 (c3 : C3) (ad : Nat → Nat) (w : Mm) (k : Nat) (x : Int32) : (encC c3 ad w).set 20 (ad 20, .inl (c3.1, 40, .inl (upd (w.1 20) k x))) = encC c3 ad (sA w 20 k x) := rfl
theorem tC20 (c3 : C3) (ad : Nat → Nat) (w : Mm) (f : Nat → Int32) : (encC c3 ad w).set 20 (ad 20, .inl (c3.1, 40, .inl f)) = encC c3 ad (sF w 20 f) := rfl
theorem gC21 (c3 : C3) (ad : Nat → Nat) (w : Mm) : (encC c3 ad w)[21]? = some (ad 21, .inl (c3.1, 40, .inl (w.1 21))) := rfl
theorem sC21 (c3 : C3) (ad : Nat → Nat) (w : Mm) (k : Nat) (x : Int32) : (encC c3 ad w).set 21 (ad 21, .inl (c3.1, 40, .inl (upd (w.1 21) k x))) = encC c3 ad (sA w 21 k x) := rfl
theorem tC21 (c3 : C3) (ad : Nat → Nat) (w : Mm) (f : Nat → Int32) : (encC c3 ad w).set 21 (ad 21, .inl (c3.1, 40, .inl f)) = encC c3 ad (sF w 21 f) := rfl
theorem gC22 (c3 : C3) (ad : Nat → Nat) (w : Mm) : (encC c3 ad w)[22]? = some (ad 22, .inl (c3.1, 40, .inl (w.1 22))) := rfl
theorem sC22 (c3 : C3) (ad : Nat → Nat) (w : Mm) (k : Nat) (x : Int32) : (encC c3 ad w).set 22 (ad 22, .inl (c3.1, 40, .inl (upd (w.1 22) k x))) = encC c3 ad (sA w 22 k x) := rfl
theorem tC22 (c3 : C3) (ad : Nat → Nat) (w : Mm) (f : Nat → Int32) : (encC c3 ad w).set 22 (ad 22, .inl (c3.1, 40, .inl f)) = encC c3 ad (sF w 22 f) := rfl
theorem gC23 (c3 : C3) (ad : Nat → Nat) (w : Mm) : (encC c3 ad w)[23]? = some (ad 23, .inr (1, oC23 ad w)) := rfl
theorem pC23_0 (c3 : C3) (ad : Nat → Nat) (w : Mm) (x : Int32) : (encC c3 ad w).set 23 (ad 23, .inr (1, (oC23 ad w).set 0 (.int x))) = encC c3 ad (sA w 23 0 x) := rfl
theorem pC23_2 (c3 : C3) (ad : Nat → Nat) (w : Mm) (x : Int32) : (encC c3 ad w).set 23 (ad 23, .inr (1, (oC23 ad w).set 2 (.int x))) = encC c3 ad (sA w 23 2 x) := rfl
theorem pC23_6 (c3 : C3) (ad : Nat → Nat) (w : Mm) (x : Int32) : (encC c3 ad w).set 23 (ad 23, .inr (1, (oC23 ad w).set 6 (.int x))) = encC c3 ad (sA w 23 6 x) := rfl
theorem pC23_7 (c3 : C3) (ad : Nat → Nat) (w : Mm) (x : Int32) : (encC c3 ad w).set 23 (ad 23, .inr (1, (oC23 ad w).set 7 (.int x))) = encC c3 ad (sA w 23 7 x) := rfl
theorem pC23_8 (c3 : C3) (ad : Nat → Nat) (w : Mm) (x : Int32) : (encC c3 ad w).set 23 (ad 23, .inr (1, (oC23 ad w).set 8 (.int x))) = encC c3 ad (sA w 23 8 x) := rfl
theorem pC23_9 (c3 : C3) (ad : Nat → Nat) (w : Mm) (x : Int32) : (encC c3 ad w).set 23 (ad 23, .inr (1, (oC23 ad w).set 9 (.int x))) = encC c3 ad (sA w 23 9 x) := rfl
theorem pC23_11 (c3 : C3) (ad : Nat → Nat) (w : Mm) (x : Int32) : (encC c3 ad w).set 23 (ad 23, .inr (1, (oC23 ad w).set 11 (.int x))) = encC c3 ad (sA w 23 11 x) := rfl
theorem gC24 (c3 : C3) (ad : Nat → Nat) (w : Mm) : (encC c3 ad w)[24]? = some (ad 24, .inl (c3.1, 4, .inl (w.1 24))) := rfl
theorem sC24 (c3 : C3) (ad : Nat → Nat) (w : Mm) (k : Nat) (x : Int32) : (encC c3 ad w).set 24 (ad 24, .inl (c3.1, 4, .inl (upd (w.1 24) k x))) = encC c3 ad (sA w 24 k x) := rfl
theorem tC24 (c3 : C3) (ad : Nat → Nat) (w : Mm) (f : Nat → Int32) : (encC c3 ad w).set 24 (ad 24, .inl (c3.1, 4, .inl f)) = encC c3 ad (sF w 24 f) := rfl
theorem gC25 (c3 : C3) (ad : Nat → Nat) (w : Mm) : (encC c3 ad w)[25]? = some (ad 25, .inl (c3.1, 6, .inl (w.1 25))) := rfl
theorem sC25 (c3 : C3) (ad : Nat → Nat) (w : Mm) (k : Nat) (x : Int32) : (encC c3 ad w).set 25 (ad 25, .inl (c3.1, 6, .inl (upd (w.1 25) k x))) = encC c3 ad (sA w 25 k x) := rfl
theorem tC25 (c3 : C3) (ad : Nat → Nat) (w : Mm) (f : Nat → Int32) : (encC c3 ad w).set 25 (ad 25, .inl (c3.1, 6, .inl f)) = encC c3 ad (sF w 25 f) := rfl
theorem gC26 (c3 : C3) (ad : Nat → Nat) (w : Mm) : (encC c3 ad w)[26]? = some (ad 26, .inl (c3.1, 6, .inl (w.1 26))) := rfl
theorem sC26 (c3 : C3) (ad : Nat → Nat) (w : Mm) (k : Nat) (x : Int32) : (encC c3 ad w).set 26 (ad 26, .inl (c3.1, 6, .inl (upd (w.1 26) k x))) = encC c3 ad (sA w 26 k x) := rfl
theorem tC26 (c3 : C3) (ad : Nat → Nat) (w : Mm) (f : Nat → Int32) : (encC c3 ad w).set 26 (ad 26, .inl (c3.1, 6, .inl f)) = encC c3 ad (sF w 26 f) := rfl
theorem gC27 (c3 : C3) (ad : Nat → Nat) (w : Mm) : (encC c3 ad w)[27]? = some (ad 27, .inl (c3.1, 6, .inl (w.1 27))) := rfl
theorem sC27 (c3 : C3) (ad : Nat → Nat) (w : Mm) (k : Nat) (x : Int32) : (encC c3 ad w).set 27 (ad 27, .inl (c3.1, 6, .inl (upd (w.1 27) k x))) = encC c3 ad (sA w 27 k x) := rfl
theorem tC27 (c3 : C3) (ad : Nat → Nat) (w : Mm) (f : Nat → Int32) : (encC c3 ad w).set 27 (ad 27, .inl (c3.1, 6, .inl f)) = encC c3 ad (sF w 27 f) := rfl
theorem gC28 (c3 : C3) (ad : Nat → Nat) (w : Mm) : (encC c3 ad w)[28]? = some (ad 28, .inl (c3.1, 6, .inl (w.1 28))) := rfl
theorem sC28 (c3 : C3) (ad : Nat → Nat) (w : Mm) (k : Nat) (x : Int32) : (encC c3 ad w).set 28 (ad 28, .inl (c3.1, 6, .inl (upd (w.1 28) k x))) = encC c3 ad (sA w 28 k x) := rfl
theorem tC28 (c3 : C3) (ad : Nat → Nat) (w : Mm) (f : Nat → Int32) : (encC c3 ad w).set 28 (ad 28, .inl (c3.1, 6, .inl f)) = encC c3 ad (sF w 28 f) := rfl
theorem gC29 (c3 : C3) (ad : Nat → Nat) (w : Mm) : (encC c3 ad w)[29]? = some (ad 29, .inl (c3.1, 40, .inl (w.1 29))) := rfl
theorem sC29 (c3 : C3) (ad : Nat → Nat) (w : Mm) (k : Nat) (x : Int32) : (encC c3 ad w).set 29 (ad 29, .inl (c3.1, 40, .inl (upd (w.1 29) k x))) = encC c3 ad (sA w 29 k x) := rfl
theorem tC29 (c3 : C3) (ad : Nat → Nat) (w : Mm) (f : Nat → Int32) : (encC c3 ad w).set 29 (ad 29, .inl (c3.1, 40, .inl f)) = encC c3 ad (sF w 29 f) := rfl
theorem gC30 (c3 : C3) (ad : Nat → Nat) (w : Mm) : (encC c3 ad w)[30]? = some (ad 30, .inr (2, oC30 ad w)) := rfl
theorem pC30_1 (c3 : C3) (ad : Nat → Nat) (w : Mm) (x : Nat) : (encC c3 ad w).set 30 (ad 30, .inr (2, (oC30 ad w).set 1 (.ref (ad x)))) = encC c3 ad (sR w x) := rfl
theorem pC30_2 (c3 : C3) (ad : Nat → Nat) (w : Mm) (x : Int32) : (encC c3 ad w).set 30 (ad 30, .inr (2, (oC30 ad w).set 2 (.int x))) = encC c3 ad (sA w 30 2 x) := rfl
theorem gC31 (c3 : C3) (ad : Nat → Nat) (w : Mm) : (encC c3 ad w)[31]? = some (ad 31, .inr (1, oC31 ad w)) := rfl
theorem pC31_0 (c3 : C3) (ad : Nat → Nat) (w : Mm) (x : Int32) : (encC c3 ad w).set 31 (ad 31, .inr (1, (oC31 ad w).set 0 (.int x))) = encC c3 ad (sA w 31 0 x) := rfl
theorem pC31_2 (c3 : C3) (ad : Nat → Nat) (w : Mm) (x : Int32) : (encC c3 ad w).set 31 (ad 31, .inr (1, (oC31 ad w).set 2 (.int x))) = encC c3 ad (sA w 31 2 x) := rfl
theorem pC31_6 (c3 : C3) (ad : Nat → Nat) (w : Mm) (x : Int32) : (encC c3 ad w).set 31 (ad 31, .inr (1, (oC31 ad w).set 6 (.int x))) = encC c3 ad (sA w 31 6 x) := rfl
theorem pC31_7 (c3 : C3) (ad : Nat → Nat) (w : Mm) (x : Int32) : (encC c3 ad w).set 31 (ad 31, .inr (1, (oC31 ad w).set 7 (.int x))) = encC c3 ad (sA w 31 7 x) := rfl
theorem pC31_8 (c3 : C3) (ad : Nat → Nat) (w : Mm) (x : Int32) : (encC c3 ad w).set 31 (ad 31, .inr (1, (oC31 ad w).set 8 (.int x))) = encC c3 ad (sA w 31 8 x) := rfl
theorem pC31_9 (c3 : C3) (ad : Nat → Nat) (w : Mm) (x : Int32) : (encC c3 ad w).set 31 (ad 31, .inr (1, (oC31 ad w).set 9 (.int x))) = encC c3 ad (sA w 31 9 x) := rfl
theorem pC31_11 (c3 : C3) (ad : Nat → Nat) (w : Mm) (x : Int32) : (encC c3 ad w).set 31 (ad 31, .inr (1, (oC31 ad w).set 11 (.int x))) = encC c3 ad (sA w 31 11 x) := rfl
theorem gC32 (c3 : C3) (ad : Nat → Nat) (w : Mm) : (encC c3 ad w)[32]? = some (ad 32, .inl (c3.1, 4, .inl (w.1 32))) := rfl
theorem sC32 (c3 : C3) (ad : Nat → Nat) (w : Mm) (k : Nat) (x : Int32) : (encC c3 ad w).set 32 (ad 32, .inl (c3.1, 4, .inl (upd (w.1 32) k x))) = encC c3 ad (sA w 32 k x) := rfl
theorem tC32 (c3 : C3) (ad : Nat → Nat) (w : Mm) (f : Nat → Int32) : (encC c3 ad w).set 32 (ad 32, .inl (c3.1, 4, .inl f)) = encC c3 ad (sF w 32 f) := rfl
theorem gC33 (c3 : C3) (ad : Nat → Nat) (w : Mm) : (encC c3 ad w)[33]? = some (ad 33, .inl (c3.1, 6, .inl (w.1 33))) := rfl
theorem sC33 (c3 : C3) (ad : Nat → Nat) (w : Mm) (k : Nat) (x : Int32) : (encC c3 ad w).set 33 (ad 33, .inl (c3.1, 6, .inl (upd (w.1 33) k x))) = encC c3 ad (sA w 33 k x) := rfl
theorem tC33 (c3 : C3) (ad : Nat → Nat) (w : Mm) (f : Nat → Int32) : (encC c3 ad w).set 33 (ad 33, .inl (c3.1, 6, .inl f)) = encC c3 ad (sF w 33 f) := rfl
theorem gC34 (c3 : C3) (ad : Nat → Nat) (w : Mm) : (encC c3 ad w)[34]? = some (ad 34, .inl (c3.1, 6, .inl (w.1 34))) := rfl
theorem sC34 (c3 : C3) (ad : Nat → Nat) (w : Mm) (k : Nat) (x : Int32) : (encC c3 ad w).set 34 (ad 34, .inl (c3.1, 6, .inl (upd (w.1 34) k x))) = encC c3 ad (sA w 34 k x) := rfl
theorem tC34 (c3 : C3) (ad : Nat → Nat) (w : Mm) (f : Nat → Int32) : (encC c3 ad w).set 34 (ad 34, .inl (c3.1, 6, .inl f)) = encC c3 ad (sF w 34 f) := rfl
theorem gC35 (c3 : C3) (ad : Nat → Nat) (w : Mm) : (encC c3 ad w)[35]? = some (ad 35, .inl (c3.1, 6, .inl (w.1 35))) := rfl
theorem sC35 (c3 : C3) (ad : Nat → Nat) (w : Mm) (k : Nat) (x : Int32) : (encC c3 ad w).set 35 (ad 35, .inl (c3.1, 6, .inl (upd (w.1 35) k x))) = encC c3 ad (sA w 35 k x) := rfl
theorem tC35 (c3 : C3) (ad : Nat → Nat) (w : Mm) (f : Nat → Int32) : (encC c3 ad w).set 35 (ad 35, .inl (c3.1, 6, .inl f)) = encC c3 ad (sF w 35 f) := rfl
theorem gC36 (c3 : C3) (ad : Nat → Nat) (w : Mm) : (encC c3 ad w)[36]? = some (ad 36, .inl (c3.1, 6, .inl (w.1 36))) := rfl
theorem sC36 (c3 : C3) (ad : Nat → Nat) (w : Mm) (k : Nat) (x : Int32) : (encC c3 ad w).set 36 (ad 36, .inl (c3.1, 6, .inl (upd (w.1 36) k x))) = encC c3 ad (sA w 36 k x) := rfl
theorem tC36 (c3 : C3) (ad : Nat → Nat) (w : Mm) (f : Nat → Int32) : (encC c3 ad w).set 36 (ad 36, .inl (c3.1, 6, .inl f)) = encC c3 ad (sF w 36 f) := rfl
theorem gC37 (c3 : C3) (ad : Nat → Nat) (w : Mm) : (encC c3 ad w)[37]? = some (ad 37, .inl (c3.1, 40, .inl (w.1 37))) := rfl
theorem sC37 (c3 : C3) (ad : Nat → Nat) (w : Mm) (k : Nat) (x : Int32) : (encC c3 ad w).set 37 (ad 37, .inl (c3.1, 40, .inl (upd (w.1 37) k x))) = encC c3 ad (sA w 37 k x) := rfl
theorem tC37 (c3 : C3) (ad : Nat → Nat) (w : Mm) (f : Nat → Int32) : (encC c3 ad w).set 37 (ad 37, .inl (c3.1, 40, .inl f)) = encC c3 ad (sF w 37 f) := rfl
theorem gC38 (c3 : C3) (ad : Nat → Nat) (w : Mm) : (encC c3 ad w)[38]? = some (ad 38, .inl (c3.1, 0, .inl (w.1 38))) := rfl
theorem sC38 (c3 : C3) (ad : Nat → Nat) (w : Mm) (k : Nat) (x : Int32) : (encC c3 ad w).set 38 (ad 38, .inl (c3.1, 0, .inl (upd (w.1 38) k x))) = encC c3 ad (sA w 38 k x) := rfl
theorem tC38 (c3 : C3) (ad : Nat → Nat) (w : Mm) (f : Nat → Int32) : (encC c3 ad w).set 38 (ad 38, .inl (c3.1, 0, .inl f)) = encC c3 ad (sF w 38 f) := rfl
theorem gC39 (c3 : C3) (ad : Nat → Nat) (w : Mm) : (encC c3 ad w)[39]? = some (ad 39, .inr (4, oC39 ad w)) := rfl
theorem pC39_1 (c3 : C3) (ad : Nat → Nat) (w : Mm) (x : Int64) : (encC c3 ad w).set 39 (ad 39, .inr (4, (oC39 ad w).set 1 (.long x))) = encC c3 ad (sL w 39 1 x) := rfl
theorem pC39_2 (c3 : C3) (ad : Nat → Nat) (w : Mm) (x : Int32) : (encC c3 ad w).set 39 (ad 39, .inr (4, (oC39 ad w).set 2 (.int x))) = encC c3 ad (sA w 39 2 x) := rfl
theorem pC39_3 (c3 : C3) (ad : Nat → Nat) (w : Mm) (x : Int32) : (encC c3 ad w).set 39 (ad 39, .inr (4, (oC39 ad w).set 3 (.int x))) = encC c3 ad (sA w 39 3 x) := rfl
theorem gC40 (c3 : C3) (ad : Nat → Nat) (w : Mm) : (encC c3 ad w)[40]? = some (ad 40, .inl (c3.1, 5, .inl (w.1 40))) := rfl
theorem sC40 (c3 : C3) (ad : Nat → Nat) (w : Mm) (k : Nat) (x : Int32) : (encC c3 ad w).set 40 (ad 40, .inl (c3.1, 5, .inl (upd (w.1 40) k x))) = encC c3 ad (sA w 40 k x) := rfl
theorem tC40 (c3 : C3) (ad : Nat → Nat) (w : Mm) (f : Nat → Int32) : (encC c3 ad w).set 40 (ad 40, .inl (c3.1, 5, .inl f)) = encC c3 ad (sF w 40 f) := rfl
theorem gC41 (c3 : C3) (ad : Nat → Nat) (w : Mm) : (encC c3 ad w)[41]? = some (ad 41, .inr (0, oC41 ad w)) := rfl
theorem pC41_1 (c3 : C3) (ad : Nat → Nat) (w : Mm) (x : Int64) : (encC c3 ad w).set 41 (ad 41, .inr (0, (oC41 ad w).set 1 (.long x))) = encC c3 ad (sL w 41 1 x) := rfl
theorem gC42 (c3 : C3) (ad : Nat → Nat) (w : Mm) : (encC c3 ad w)[42]? = some (ad 42, .inl (c3.2.1, 13, .inr (.inl (w.2.1 42)))) := rfl
theorem sC42 (c3 : C3) (ad : Nat → Nat) (w : Mm) (k : Nat) (x : Int64) : (encC c3 ad w).set 42 (ad 42, .inl (c3.2.1, 13, .inr (.inl (vp_updL (w.2.1 42) k x)))) = encC c3 ad (sL w 42 k x) := rfl
theorem gC43 (c3 : C3) (ad : Nat → Nat) (w : Mm) : (encC c3 ad w)[43]? = some (ad 43, .inl (c3.1, 6, .inl (w.1 43))) := rfl
theorem sC43 (c3 : C3) (ad : Nat → Nat) (w : Mm) (k : Nat) (x : Int32) : (encC c3 ad w).set 43 (ad 43, .inl (c3.1, 6, .inl (upd (w.1 43) k x))) = encC c3 ad (sA w 43 k x) := rfl
theorem tC43 (c3 : C3) (ad : Nat → Nat) (w : Mm) (f : Nat → Int32) : (encC c3 ad w).set 43 (ad 43, .inl (c3.1, 6, .inl f)) = encC c3 ad (sF w 43 f) := rfl
theorem gCrI (c3 : C3) (ad : Nat → Nat) (w : Mm) {q : Nat} (h : 4 ≤ q ∧ q < 10) : (encC c3 ad w)[q]? = some (ad q, .inl (c3.1, 40, .inl (w.1 q))) := by
  have e : q = 4 ∨ q = 5 ∨ q = 6 ∨ q = 7 ∨ q = 8 ∨ q = 9 := by omega
  rcases e with rfl | rfl | rfl | rfl | rfl | rfl <;> rfl
theorem sCrI (c3 : C3) (ad : Nat → Nat) (w : Mm) {q : Nat} (h : 4 ≤ q ∧ q < 10) (k : Nat) (x : Int32) : (encC c3 ad w).set q (ad q, .inl (c3.1, 40, .inl (upd (w.1 q) k x))) = encC c3 ad (sA w q k x) := by
  have e : q = 4 ∨ q = 5 ∨ q = 6 ∨ q = 7 ∨ q = 8 ∨ q = 9 := by omega
  rcases e with rfl | rfl | rfl | rfl | rfl | rfl <;> rfl
theorem tCrI (c3 : C3) (ad : Nat → Nat) (w : Mm) {q : Nat} (h : 4 ≤ q ∧ q < 10) (f : Nat → Int32) : (encC c3 ad w).set q (ad q, .inl (c3.1, 40, .inl f)) = encC c3 ad (sF w q f) := by
  have e : q = 4 ∨ q = 5 ∨ q = 6 ∨ q = 7 ∨ q = 8 ∨ q = 9 := by omega
  rcases e with rfl | rfl | rfl | rfl | rfl | rfl <;> rfl
theorem gCrT (c3 : C3) (ad : Nat → Nat) (w : Mm) {q : Nat} (h : 13 ≤ q ∧ q < 17) : (encC c3 ad w)[q]? = some (ad q, .inl (c3.1, 60, .inl (w.1 q))) := by
  have e : q = 13 ∨ q = 14 ∨ q = 15 ∨ q = 16 := by omega
  rcases e with rfl | rfl | rfl | rfl <;> rfl
theorem sCrT (c3 : C3) (ad : Nat → Nat) (w : Mm) {q : Nat} (h : 13 ≤ q ∧ q < 17) (k : Nat) (x : Int32) : (encC c3 ad w).set q (ad q, .inl (c3.1, 60, .inl (upd (w.1 q) k x))) = encC c3 ad (sA w q k x) := by
  have e : q = 13 ∨ q = 14 ∨ q = 15 ∨ q = 16 := by omega
  rcases e with rfl | rfl | rfl | rfl <;> rfl
theorem tCrT (c3 : C3) (ad : Nat → Nat) (w : Mm) {q : Nat} (h : 13 ≤ q ∧ q < 17) (f : Nat → Int32) : (encC c3 ad w).set q (ad q, .inl (c3.1, 60, .inl f)) = encC c3 ad (sF w q f) := by
  have e : q = 13 ∨ q = 14 ∨ q = 15 ∨ q = 16 := by omega
  rcases e with rfl | rfl | rfl | rfl <;> rfl
theorem gCrK (c3 : C3) (ad : Nat → Nat) (w : Mm) {q : Nat} (h : 20 ≤ q ∧ q < 23) : (encC c3 ad w)[q]? = some (ad q, .inl (c3.1, 40, .inl (w.1 q))) := by
  have e : q = 20 ∨ q = 21 ∨ q = 22 := by omega
  rcases e with rfl | rfl | rfl <;> rfl
theorem sCrK (c3 : C3) (ad : Nat → Nat) (w : Mm) {q : Nat} (h : 20 ≤ q ∧ q < 23) (k : Nat) (x : Int32) : (encC c3 ad w).set q (ad q, .inl (c3.1, 40, .inl (upd (w.1 q) k x))) = encC c3 ad (sA w q k x) := by
  have e : q = 20 ∨ q = 21 ∨ q = 22 := by omega
  rcases e with rfl | rfl | rfl <;> rfl
theorem tCrK (c3 : C3) (ad : Nat → Nat) (w : Mm) {q : Nat} (h : 20 ≤ q ∧ q < 23) (f : Nat → Int32) : (encC c3 ad w).set q (ad q, .inl (c3.1, 40, .inl f)) = encC c3 ad (sF w q f) := by
  have e : q = 20 ∨ q = 21 ∨ q = 22 := by omega
  rcases e with rfl | rfl | rfl <;> rfl

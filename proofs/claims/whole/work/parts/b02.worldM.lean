abbrev oM0 (ad : Nat → Nat) (w : Mm) : List Value := [.ref (ad 1), .int (w.1 0 1), .ref (ad 2), .int (w.1 0 3), .ref (ad 3), .ref (ad 4), .ref (ad 5), .int (w.1 0 7), .ref (ad 6), .ref (ad 7), .ref (ad 8), .ref (ad 9), .int (w.1 0 12), .long (w.2.1 0 13), .long (w.2.1 0 14), .int (w.1 0 15), .ref (ad 10), .int (w.1 0 17), .int (w.1 0 18), .int (w.1 0 19), .ref (ad 11), .int (w.1 0 21), .ref (ad 12), .int (w.1 0 23), .int (w.1 0 24), .ref (ad 13), .ref (ad 14), .ref (ad 15), .ref (ad 16), .ref (ad 17), .ref (ad 18), .int (w.1 0 31), .ref (ad 19)]
def encM (c3 : C3) (ad : Nat → Nat) (w : Mm) : va_W := [(ad 0, .inr (6, oM0 ad w)), (ad 1, .inl (c3.1, 1655, .inl (w.1 1))), (ad 2, .inl (c3.1, 4, .inl (w.1 2))), (ad 3, .inl (c3.1, 6, .inl (w.1 3))), (ad 4, .inl (c3.1, 6, .inl (w.1 4))), (ad 5, .inl (c3.1, 6, .inl (w.1 5))), (ad 6, .inl (c3.1, 6, .inl (w.1 6))), (ad 7, .inl (c3.1, 240, .inl (w.1 7))), (ad 8, .inl (c3.1, 4, .inl (w.1 8))), (ad 9, .inl (c3.1, 240, .inl (w.1 9))), (ad 10, .inl (c3.1, 6, .inl (w.1 10))), (ad 11, .inl (c3.1, 4, .inl (w.1 11))), (ad 12, .inl (c3.1, 18, .inl (w.1 12))), (ad 13, .inl (c3.1, 12, .inl (w.1 13))), (ad 14, .inl (c3.1, 7, .inl (w.1 14))), (ad 15, .inl (c3.1, 7, .inl (w.1 15))), (ad 16, .inl (c3.1, 7, .inl (w.1 16))), (ad 17, .inl (c3.1, 7, .inl (w.1 17))), (ad 18, .inl (c3.1, 7, .inl (w.1 18))), (ad 19, .inl (c3.2.1, 13, .inr (.inl (w.2.1 19))))]
theorem encM_ok (c3 : C3) (ad : Nat → Nat) : EncOk (encM c3 ad) := fun _ _ => rfl
theorem gM0 (c3 : C3) (ad : Nat → Nat) (w : Mm) : (encM c3 ad w)[0]? = some (ad 0, .inr (6, oM0 ad w)) := rfl
theorem pM0_1 (c3 : C3) (ad : Nat → Nat) (w : Mm) (x : Int32) : (encM c3 ad w).set 0 (ad 0, .inr (6, (oM0 ad w).set 1 (.int x))) = encM c3 ad (sA w 0 1 x) := rfl
theorem pM0_3 (c3 : C3) (ad : Nat → Nat) (w : Mm) (x : Int32) : (encM c3 ad w).set 0 (ad 0, .inr (6, (oM0 ad w).set 3 (.int x))) = encM c3 ad (sA w 0 3 x) := rfl
theorem pM0_7 (c3 : C3) (ad : Nat → Nat) (w : Mm) (x : Int32) : (encM c3 ad w).set 0 (ad 0, .inr (6, (oM0 ad w).set 7 (.int x))) = encM c3 ad (sA w 0 7 x) := rfl
theorem pM0_12 (c3 : C3) (ad : Nat → Nat) (w : Mm) (x : Int32) : (encM c3 ad w).set 0 (ad 0, .inr (6, (oM0 ad w).set 12 (.int x))) = encM c3 ad (sA w 0 12 x) := rfl
theorem pM0_13 (c3 : C3) (ad : Nat → Nat) (w : Mm) (x : Int64) : (encM c3 ad w).set 0 (ad 0, .inr (6, (oM0 ad w).set 13 (.long x))) = encM c3 ad (sL w 0 13 x) := rfl
theorem pM0_14 (c3 : C3) (ad : Nat → Nat) (w : Mm) (x : Int64) : (encM c3 ad w).set 0 (ad 0, .inr (6, (oM0 ad w).set 14 (.long x))) = encM c3 ad (sL w 0 14 x) := rfl
theorem pM0_15 (c3 : C3) (ad : Nat → Nat) (w : Mm) (x : Int32) : (encM c3 ad w).set 0 (ad 0, .inr (6, (oM0 ad w).set 15 (.int x))) = encM c3 ad (sA w 0 15 x) := rfl
theorem pM0_17 (c3 : C3) (ad : Nat → Nat) (w : Mm) (x : Int32) : (encM c3 ad w).set 0 (ad 0, .inr (6, (oM0 ad w).set 17 (.int x))) = encM c3 ad (sA w 0 17 x) := rfl
theorem pM0_18 (c3 : C3) (ad : Nat → Nat) (w : Mm) (x : Int32) : (encM c3 ad w).set 0 (ad 0, .inr (6, (oM0 ad w).set 18 (.int x))) = encM c3 ad (sA w 0 18 x) := rfl
theorem pM0_19 (c3 : C3) (ad : Nat → Nat) (w : Mm) (x : Int32) : (encM c3 ad w).set 0 (ad 0, .inr (6, (oM0 ad w).set 19 (.int x))) = encM c3 ad (sA w 0 19 x) := rfl
theorem pM0_21 (c3 : C3) (ad : Nat → Nat) (w : Mm) (x : Int32) : (encM c3 ad w).set 0 (ad 0, .inr (6, (oM0 ad w).set 21 (.int x))) = encM c3 ad (sA w 0 21 x) := rfl
theorem pM0_23 (c3 : C3) (ad : Nat → Nat) (w : Mm) (x : Int32) : (encM c3 ad w).set 0 (ad 0, .inr (6, (oM0 ad w).set 23 (.int x))) = encM c3 ad (sA w 0 23 x) := rfl
theorem pM0_24 (c3 : C3) (ad : Nat → Nat) (w : Mm) (x : Int32) : (encM c3 ad w).set 0 (ad 0, .inr (6, (oM0 ad w).set 24 (.int x))) = encM c3 ad (sA w 0 24 x) := rfl
theorem pM0_31 (c3 : C3) (ad : Nat → Nat) (w : Mm) (x : Int32) : (encM c3 ad w).set 0 (ad 0, .inr (6, (oM0 ad w).set 31 (.int x))) = encM c3 ad (sA w 0 31 x) := rfl
theorem gM1 (c3 : C3) (ad : Nat → Nat) (w : Mm) : (encM c3 ad w)[1]? = some (ad 1, .inl (c3.1, 1655, .inl (w.1 1))) := rfl
theorem sM1 (c3 : C3) (ad : Nat → Nat) (w : Mm) (k : Nat) (x : Int32) : (encM c3 ad w).set 1 (ad 1, .inl (c3.1, 1655, .inl (upd (w.1 1) k x))) = encM c3 ad (sA w 1 k x) := rfl
theorem tM1 (c3 : C3) (ad : Nat → Nat) (w : Mm) (f : Nat → Int32) : (encM c3 ad w).set 1 (ad 1, .inl (c3.1, 1655, .inl f)) = encM c3 ad (sF w 1 f) := rfl
theorem gM2 (c3 : C3) (ad : Nat → Nat) (w : Mm) : (encM c3 ad w)[2]? = some (ad 2, .inl (c3.1, 4, .inl (w.1 2))) := rfl
theorem sM2 (c3 : C3) (ad : Nat → Nat) (w : Mm) (k : Nat) (x : Int32) : (encM c3 ad w).set 2 (ad 2, .inl (c3.1, 4, .inl (upd (w.1 2) k x))) = encM c3 ad (sA w 2 k x) := rfl
theorem tM2 (c3 : C3) (ad : Nat → Nat) (w : Mm) (f : Nat → Int32) : (encM c3 ad w).set 2 (ad 2, .inl (c3.1, 4, .inl f)) = encM c3 ad (sF w 2 f) := rfl
theorem gM3 (c3 : C3) (ad : Nat → Nat) (w : Mm) : (encM c3 ad w)[3]? = some (ad 3, .inl (c3.1, 6, .inl (w.1 3))) := rfl
theorem sM3 (c3 : C3) (ad : Nat → Nat) (w : Mm) (k : Nat) (x : Int32) : (encM c3 ad w).set 3 (ad 3, .inl (c3.1, 6, .inl (upd (w.1 3) k x))) = encM c3 ad (sA w 3 k x) := rfl
theorem tM3 (c3 : C3) (ad : Nat → Nat) (w : Mm) (f : Nat → Int32) : (encM c3 ad w).set 3 (ad 3, .inl (c3.1, 6, .inl f)) = encM c3 ad (sF w 3 f) := rfl
theorem gM4 (c3 : C3) (ad : Nat → Nat) (w : Mm) : (encM c3 ad w)[4]? = some (ad 4, .inl (c3.1, 6, .inl (w.1 4))) := rfl
theorem sM4 (c3 : C3) (ad : Nat → Nat) (w : Mm) (k : Nat) (x : Int32) : (encM c3 ad w).set 4 (ad 4, .inl (c3.1, 6, .inl (upd (w.1 4) k x))) = encM c3 ad (sA w 4 k x) := rfl
theorem tM4 (c3 : C3) (ad : Nat → Nat) (w : Mm) (f : Nat → Int32) : (encM c3 ad w).set 4 (ad 4, .inl (c3.1, 6, .inl f)) = encM c3 ad (sF w 4 f) := rfl
theorem gM5 (c3 : C3) (ad : Nat → Nat) (w : Mm) : (encM c3 ad w)[5]? = some (ad 5, .inl (c3.1, 6, .inl (w.1 5))) := rfl
theorem sM5 (c3 : C3) (ad : Nat → Nat) (w : Mm) (k : Nat) (x : Int32) : (encM c3 ad w).set 5 (ad 5, .inl (c3.1, 6, .inl (upd (w.1 5) k x))) = encM c3 ad (sA w 5 k x) := rfl
theorem tM5 (c3 : C3) (ad : Nat → Nat) (w : Mm) (f : Nat → Int32) : (encM c3 ad w).set 5 (ad 5, .inl (c3.1, 6, .inl f)) = encM c3 ad (sF w 5 f) := rfl
theorem gM6 (c3 : C3) (ad : Nat → Nat) (w : Mm) : (encM c3 ad w)[6]? = some (ad 6, .inl (c3.1, 6, .inl (w.1 6))) := rfl
theorem sM6 (c3 : C3) (ad : Nat → Nat) (w : Mm) (k : Nat) (x : Int32) : (encM c3 ad w).set 6 (ad 6, .inl (c3.1, 6, .inl (upd (w.1 6) k x))) = encM c3 ad (sA w 6 k x) := rfl
theorem tM6 (c3 : C3) (ad : Nat → Nat) (w : Mm) (f : Nat → Int32) : (encM c3 ad w).set 6 (ad 6, .inl (c3.1, 6, .inl f)) = encM c3 ad (sF w 6 f) := rfl
theorem gM7 (c3 : C3) (ad : Nat → Nat) (w : Mm) : (encM c3 ad w)[7]? = some (ad 7, .inl (c3.1, 240, .inl (w.1 7))) := rfl
theorem sM7 (c3 : C3) (ad : Nat → Nat) (w : Mm) (k : Nat) (x : Int32) : (encM c3 ad w).set 7 (ad 7, .inl (c3.1, 240, .inl (upd (w.1 7) k x))) = encM c3 ad (sA w 7 k x) := rfl
theorem tM7 (c3 : C3) (ad : Nat → Nat) (w : Mm) (f : Nat → Int32) : (encM c3 ad w).set 7 (ad 7, .inl (c3.1, 240, .inl f)) = encM c3 ad (sF w 7 f) := rfl
theorem gM8 (c3 : C3) (ad : Nat → Nat) (w : Mm) : (encM c3 ad w)[8]? = some (ad 8, .inl (c3.1, 4, .inl (w.1 8))) := rfl
theorem sM8 (c3 : C3) (ad : Nat → Nat) (w : Mm) (k : Nat) (x : Int32) : (encM c3 ad w).set 8 (ad 8, .inl (c3.1, 4, .inl (upd (w.1 8) k x))) = encM c3 ad (sA w 8 k x) := rfl
theorem tM8 (c3 : C3) (ad : Nat → Nat) (w : Mm) (f : Nat → Int32) : (encM c3 ad w).set 8 (ad 8, .inl (c3.1, 4, .inl f)) = encM c3 ad (sF w 8 f) := rfl
theorem gM9 (c3 : C3) (ad : Nat → Nat) (w : Mm) : (encM c3 ad w)[9]? = some (ad 9, .inl (c3.1, 240, .inl (w.1 9))) := rfl
theorem sM9 (c3 : C3) (ad : Nat → Nat) (w : Mm) (k : Nat) (x : Int32) : (encM c3 ad w).set 9 (ad 9, .inl (c3.1, 240, .inl (upd (w.1 9) k x))) = encM c3 ad (sA w 9 k x) := rfl
theorem tM9 (c3 : C3) (ad : Nat → Nat) (w : Mm) (f : Nat → Int32) : (encM c3 ad w).set 9 (ad 9, .inl (c3.1, 240, .inl f)) = encM c3 ad (sF w 9 f) := rfl
theorem gM10 (c3 : C3) (ad : Nat → Nat) (w : Mm) : (encM c3 ad w)[10]? = some (ad 10, .inl (c3.1, 6, .inl (w.1 10))) := rfl
theorem sM10 (c3 : C3) (ad : Nat → Nat) (w : Mm) (k : Nat) (x : Int32) : (encM c3 ad w).set 10 (ad 10, .inl (c3.1, 6, .inl (upd (w.1 10) k x))) = encM c3 ad (sA w 10 k x) := rfl
theorem tM10 (c3 : C3) (ad : Nat → Nat) (w : Mm) (f : Nat → Int32) : (encM c3 ad w).set 10 (ad 10, .inl (c3.1, 6, .inl f)) = encM c3 ad (sF w 10 f) := rfl
theorem gM11 (c3 : C3) (ad : Nat → Nat) (w : Mm) : (encM c3 ad w)[11]? = some (ad 11, .inl (c3.1, 4, .inl (w.1 11))) := rfl
theorem sM11 (c3 : C3) (ad : Nat → Nat) (w : Mm) (k : Nat) (x : Int32) : (encM c3 ad w).set 11 (ad 11, .inl (c3.1, 4, .inl (upd (w.1 11) k x))) = encM c3 ad (sA w 11 k x) := rfl
theorem tM11 (c3 : C3) (ad : Nat → Nat) (w : Mm) (f : Nat → Int32) : (encM c3 ad w).set 11 (ad 11, .inl (c3.1, 4, .inl f)) = encM c3 ad (sF w 11 f) := rfl
theorem gM12 (c3 : C3) (ad : Nat → Nat) (w : Mm) : (encM c3 ad w)[12]? = some (ad 12, .inl (c3.1, 18, .inl (w.1 12))) := rfl
theorem sM12 (c3 : C3) (ad : Nat → Nat) (w : Mm) (k : Nat) (x : Int32) : (encM c3 ad w).set 12 (ad 12, .inl (c3.1, 18, .inl (upd (w.1 12) k x))) = encM c3 ad (sA w 12 k x) := rfl
theorem tM12 (c3 : C3) (ad : Nat → Nat) (w : Mm) (f : Nat → Int32) : (encM c3 ad w).set 12 (ad 12, .inl (c3.1, 18, .inl f)) = encM c3 ad (sF w 12 f) := rfl
theorem gM13 (c3 : C3) (ad : Nat → Nat) (w : Mm) : (encM c3 ad w)[13]? = some (ad 13, .inl (c3.1, 12, .inl (w.1 13))) := rfl
theorem sM13 (c3 : C3) (ad : Nat → Nat) (w : Mm) (k : Nat) (x : Int32) : (encM c3 ad w).set 13 (ad 13, .inl (c3.1, 12, .inl (upd (w.1 13) k x))) = encM c3 ad (sA w 13 k x) := rfl
theorem tM13 (c3 : C3) (ad : Nat → Nat) (w : Mm) (f : Nat → Int32) : (encM c3 ad w).set 13 (ad 13, .inl (c3.1, 12, .inl f)) = encM c3 ad (sF w 13 f) := rfl
theorem gM14 (c3 : C3) (ad : Nat → Nat) (w : Mm) : (encM c3 ad w)[14]? = some (ad 14, .inl (c3.1, 7, .inl (w.1 14))) := rfl
theorem sM14 (c3 : C3) (ad : Nat → Nat) (w : Mm) (k : Nat) (x : Int32) : (encM c3 ad w).set 14 (ad 14, .inl (c3.1, 7, .inl (upd (w.1 14) k x))) = encM c3 ad (sA w 14 k x) := rfl
theorem tM14 (c3 : C3) (ad : Nat → Nat) (w : Mm) (f : Nat → Int32) : (encM c3 ad w).set 14 (ad 14, .inl (c3.1, 7, .inl f)) = encM c3 ad (sF w 14 f) := rfl
theorem gM15 (c3 : C3) (ad : Nat → Nat) (w : Mm) : (encM c3 ad w)[15]? = some (ad 15, .inl (c3.1, 7, .inl (w.1 15))) := rfl
theorem sM15 (c3 : C3) (ad : Nat → Nat) (w : Mm) (k : Nat) (x : Int32) : (encM c3 ad w).set 15 (ad 15, .inl (c3.1, 7, .inl (upd (w.1 15) k x))) = encM c3 ad (sA w 15 k x) := rfl
theorem tM15 (c3 : C3) (ad : Nat → Nat) (w : Mm) (f : Nat → Int32) : (encM c3 ad w).set 15 (ad 15, .inl (c3.1, 7, .inl f)) = encM c3 ad (sF w 15 f) := rfl
theorem gM16 (c3 : C3) (ad : Nat → Nat) (w : Mm) : (encM c3 ad w)[16]? = some (ad 16, .inl (c3.1, 7, .inl (w.1 16))) := rfl
theorem sM16 (c3 : C3) (ad : Nat → Nat) (w : Mm) (k : Nat) (x : Int32) : (encM c3 ad w).set 16 (ad 16, .inl (c3.1, 7, .inl (upd (w.1 16) k x))) = encM c3 ad (sA w 16 k x) := rfl
theorem tM16 (c3 : C3) (ad : Nat → Nat) (w : Mm) (f : Nat → Int32) : (encM c3 ad w).set 16 (ad 16, .inl (c3.1, 7, .inl f)) = encM c3 ad (sF w 16 f) := rfl
theorem gM17 (c3 : C3) (ad : Nat → Nat) (w : Mm) : (encM c3 ad w)[17]? = some (ad 17, .inl (c3.1, 7, .inl (w.1 17))) := rfl
theorem sM17 (c3 : C3) (ad : Nat → Nat) (w : Mm) (k : Nat) (x : Int32) : (encM c3 ad w).set 17 (ad 17, .inl (c3.1, 7, .inl (upd (w.1 17) k x))) = encM c3 ad (sA w 17 k x) := rfl
theorem tM17 (c3 : C3) (ad : Nat → Nat) (w : Mm) (f : Nat → Int32) : (encM c3 ad w).set 17 (ad 17, .inl (c3.1, 7, .inl f)) = encM c3 ad (sF w 17 f) := rfl
theorem gM18 (c3 : C3) (ad : Nat → Nat) (w : Mm) : (encM c3 ad w)[18]? = some (ad 18, .inl (c3.1, 7, .inl (w.1 18))) := rfl
theorem sM18 (c3 : C3) (ad : Nat → Nat) (w : Mm) (k : Nat) (x : Int32) : (encM c3 ad w).set 18 (ad 18, .inl (c3.1, 7, .inl (upd (w.1 18) k x))) = encM c3 ad (sA w 18 k x) := rfl
theorem tM18 (c3 : C3) (ad : Nat → Nat) (w : Mm) (f : Nat → Int32) : (encM c3 ad w).set 18 (ad 18, .inl (c3.1, 7, .inl f)) = encM c3 ad (sF w 18 f) := rfl
theorem gM19 (c3 : C3) (ad : Nat → Nat) (w : Mm) : (encM c3 ad w)[19]? = some (ad 19, .inl (c3.2.1, 13, .inr (.inl (w.2.1 19)))) := rfl
theorem sM19 (c3 : C3) (ad : Nat → Nat) (w : Mm) (k : Nat) (x : Int64) : (encM c3 ad w).set 19 (ad 19, .inl (c3.2.1, 13, .inr (.inl (vp_updL (w.2.1 19) k x)))) = encM c3 ad (sL w 19 k x) := rfl

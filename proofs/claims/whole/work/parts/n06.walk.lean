theorem iwX7_waits_X2 : ∀ w ∈ wsX20, w ∈ wsX7_waits := fun _ h => List.mem_cons_of_mem _ (List.mem_append_right _ h)
theorem iwX7_waits_X7 : ∀ w ∈ wsX70, w ∈ wsX7_waits := fun _ h => List.mem_cons_of_mem _ (List.mem_append_left _ (List.mem_append_right _ h))
theorem lkX7_waits_27 : Cond.fieldLink RX7 27 "StuckDoor" "family" "LStuckDoor$Family;" ∈ wsX7_waits := by decide +kernel
theorem lkX7_waits_161 : Cond.fieldLink RX7 161 "StuckDoor$Family" "bearing" "[I" ∈ wsX7_waits := by decide +kernel
theorem lkX7_waits_178 : Cond.fieldLink RX7 178 "StuckDoor$Family" "strain" "I" ∈ wsX7_waits := by decide +kernel
def rmX7_waits : Room := { frames := 3, cells := 0, slots := 0, locals := 65 }
def fX7_waits_E (x1 : Int32) (x2 : Int32) (w : Mm) : Option (Int32) := bo (fX2_hasPerson_23 x1 w) (fun r_2 => (if r_2 = 0 then some (-1) else bo (fX2_hasSaying_23 x2 w) (fun r_6 => (if r_6 = 0 then some (-1) else bo (fX2_isAnyOver_23 w) (fun r_10 => (if r_10 = 0 then gd (inb x1 4 = true) (bo (fX2_nearNow_23 x2 w) (fun r_15 => nm ((w.1 24 x1.toNatClampNeg) - r_15) (fun x3_17 => (if 0 ≤ x3_17 then some (if 0 < ((w.1 23 7) - x3_17) then ((w.1 23 7) - x3_17) else 0) else some (-9))))) else some (-4)))))))
set_option maxRecDepth 20000 in
theorem bX7_waits_E {p : Program} {l : Launch} {e : Env} {s : State} {m : MethodId} {args : Array Value} {below : List Frame} {meth : Method} {c : Code} {Q : State → Prop} {D : va_G} {c3 : C3} {ad : Nat → Nat} {A : Nat → Prop} {r : Int32} {w : Mm} (X : Cx p s m args c cX7_waits 4 RX7 wsX7_waits D c3 (encC c3 ad) gC A) (hret : Ri p l e (rmX7_waits) s m args below meth c Q cX7_waits D (encC c3 ad) A r w) : ∀ (x1 : Int32) (x2 : Int32) (H : Heap) (locs : List Loc) (ls : Array Slot), va_P D vwCl ((encC c3 ad) w) H → va_S A s.heap H locs → lv_has ls 4 [(0, .ref (ad 0)), (1, .int x1), (2, .int x2)] → fX7_waits_E x1 x2 w = some r → W p l e (rmX7_waits) s m args below meth c H locs 0 0 Q (F0 m 0 ls []) := by
  have hx := X.1
  have hb := X.2.1
  have hml := X.2.2.1
  have hown := X.2.2.2.1
  have hts := X.2.2.2.2.1
  intro x1 x2 H locs ls hP hS hl h
  unfold fX7_waits_E at h
  refine lv_aload_n hx hb dX7_waits_0 rfl (lv_at hl 0 rfl) ?_
  refine x_get (rest := []) X hP (gC0 c3 ad w) rfl iwX7_waits_X7 3 (by decide) lkX7_waits_27 rfl dX7_waits_1 ?_
  refine lv_iload_n hx hb dX7_waits_4 rfl (lv_at hl 1 rfl) ?_
  obtain ⟨r_2, e_1, h⟩ := bo_s h
  refine x_goi X hS (x_runV (As := [.int x1]) (rest := []) X gC_ok hP hS (ctX2_hasPerson_23 l D c3 ad w _ x1 _ e_1) (cwV 1 hts gX7_waits_X2_hasPerson rfl rfl rfl (by decide +kernel) ⟨by decide, by decide⟩) (gC23 c3 ad w) rfl rfl rfl hl.1 rfl (Nat.le_of_ble_eq_true rfl) dX7_waits_5) (fun H locs hP hS => ?_)
  refine lv_if_eq (tgt := 22) hx hb dX7_waits_8 (by decide) (fun c_4 => ?_) (fun c_4 => ?_)
  · replace h := it_p c_4 h
    refine lv_iconst (v := (-1)) hx hb dX7_waits_22 (by decide) ?_
    obtain rfl := Option.some.inj h
    exact hret _ _ _ _ hP hS dX7_waits_23
  · replace h := it_n c_4 h
    refine lv_aload_n hx hb dX7_waits_11 rfl (lv_at hl 0 rfl) ?_
    refine x_get (rest := []) X hP (gC0 c3 ad w) rfl iwX7_waits_X7 3 (by decide) lkX7_waits_27 rfl dX7_waits_12 ?_
    refine lv_iload_n hx hb dX7_waits_15 rfl (lv_at hl 2 rfl) ?_
    obtain ⟨r_6, e_5, h⟩ := bo_s h
    refine x_goi X hS (x_runV (As := [.int x2]) (rest := []) X gC_ok hP hS (ctX2_hasSaying_23 l D c3 ad w _ x2 _ e_5) (cwV 1 hts gX7_waits_X2_hasSaying rfl rfl rfl (by decide +kernel) ⟨by decide, by decide⟩) (gC23 c3 ad w) rfl rfl rfl hl.1 rfl (Nat.le_of_ble_eq_true rfl) dX7_waits_16) (fun H locs hP hS => ?_)
    refine lv_if_ne (tgt := 24) hx hb dX7_waits_19 (by decide) (fun c_8 => ?_) (fun c_8 => ?_)
    · replace h := it_n c_8 h
      refine lv_aload_n hx hb dX7_waits_24 rfl (lv_at hl 0 rfl) ?_
      refine x_get (rest := []) X hP (gC0 c3 ad w) rfl iwX7_waits_X7 3 (by decide) lkX7_waits_27 rfl dX7_waits_25 ?_
      obtain ⟨r_10, e_9, h⟩ := bo_s h
      refine x_goi X hS (x_runV (As := []) (rest := []) X gC_ok hP hS (ctX2_isAnyOver_23 l D c3 ad w _ _ e_9) (cwV 0 hts gX7_waits_X2_isAnyOver rfl rfl rfl (by decide +kernel) ⟨by decide, by decide⟩) (gC23 c3 ad w) rfl rfl rfl hl.1 rfl (Nat.le_of_ble_eq_true rfl) dX7_waits_28) (fun H locs hP hS => ?_)
      refine lv_if_eq (tgt := 37) hx hb dX7_waits_31 (by decide) (fun c_12 => ?_) (fun c_12 => ?_)
      · replace h := it_p c_12 h
        refine lv_aload_n hx hb dX7_waits_37 rfl (lv_at hl 0 rfl) ?_
        refine x_get (rest := []) X hP (gC0 c3 ad w) rfl iwX7_waits_X7 3 (by decide) lkX7_waits_27 rfl dX7_waits_38 ?_
        refine x_get (rest := []) X hP (gC23 c3 ad w) rfl iwX7_waits_X2 1 (by decide) lkX7_waits_161 rfl dX7_waits_41 ?_
        refine lv_iload_n hx hb dX7_waits_44 rfl (lv_at hl 1 rfl) ?_
        obtain ⟨g_13, h⟩ := gd_s h
        refine x_iald X hP (gC24 c3 ad w) g_13 dX7_waits_45 ?_
        refine lv_aload_n hx hb dX7_waits_46 rfl (lv_at hl 0 rfl) ?_
        refine x_get (rest := [.int (w.1 24 x1.toNatClampNeg)]) X hP (gC0 c3 ad w) rfl iwX7_waits_X7 3 (by decide) lkX7_waits_27 rfl dX7_waits_47 ?_
        refine lv_iload_n hx hb dX7_waits_50 rfl (lv_at hl 2 rfl) ?_
        obtain ⟨r_15, e_14, h⟩ := bo_s h
        refine x_goi X hS (x_runV (As := [.int x2]) (rest := [.int (w.1 24 x1.toNatClampNeg)]) X gC_ok hP hS (ctX2_nearNow_23 l D c3 ad w _ x2 _ e_14) (cwV 1 hts gX7_waits_X2_nearNow rfl rfl rfl (by decide +kernel) ⟨by decide, by decide⟩) (gC23 c3 ad w) rfl rfl rfl hl.1 rfl (Nat.le_of_ble_eq_true rfl) dX7_waits_51) (fun H locs hP hS => ?_)
        refine lv_isub hx hb dX7_waits_54 ?_
        refine x_nmi h (fun x3_17 h => ?_)
        refine lv_istore_n (lv' := [(3, .int x3_17), (0, .ref (ad 0)), (1, .int x1), (2, .int x2)]) hx hb dX7_waits_55 rfl hl (by decide) rfl (fun ls hl => ?_)
        refine lv_iload_n hx hb dX7_waits_56 rfl (lv_at hl 0 rfl) ?_
        refine lv_if_ge (tgt := 65) hx hb dX7_waits_57 (by decide) (fun c_18 => ?_) (fun c_18 => ?_)
        · replace h := it_p c_18 h
          refine lv_iconst (v := 0) hx hb dX7_waits_65 (by decide) ?_
          refine lv_aload_n hx hb dX7_waits_66 rfl (lv_at hl 1 rfl) ?_
          refine x_get (rest := [.int 0]) X hP (gC0 c3 ad w) rfl iwX7_waits_X7 3 (by decide) lkX7_waits_27 rfl dX7_waits_67 ?_
          refine x_get (rest := [.int 0]) X hP (gC23 c3 ad w) rfl iwX7_waits_X2 7 (by decide) lkX7_waits_178 rfl dX7_waits_70 ?_
          refine lv_iload_n hx hb dX7_waits_73 rfl (lv_at hl 0 rfl) ?_
          refine lv_isub hx hb dX7_waits_74 ?_
          refine va_mmax hx hb (by rw [hml]; exact hl.1.symm) hown (hts (.methodLink RX7 141 Lib.Math.max.name) (by decide +kernel)) (hts (.static Lib.Math.max.name) (by decide +kernel)) (hts (.initialized "java/lang/Math") (by decide +kernel)) (hts (.code Lib.Math.max.name Lib.Math.max.code 2 (some .int)) (by decide +kernel)) (Nat.le_of_ble_eq_true rfl) (Nat.le_of_ble_eq_true rfl) (Nat.zero_le _) (Nat.zero_le _) dX7_waits_75 ?_
          obtain rfl := Option.some.inj h
          exact hret _ _ _ _ hP hS dX7_waits_78
        · replace h := it_n c_18 h
          refine lv_bipush (v := (-9)) hx hb dX7_waits_60 (by decide) ?_
          refine lv_goto (tgt := 78) hx hb dX7_waits_62 (by decide) ?_
          obtain rfl := Option.some.inj h
          exact hret _ _ _ _ hP hS dX7_waits_78
      · replace h := it_n c_12 h
        refine lv_bipush (v := (-4)) hx hb dX7_waits_34 (by decide) ?_
        obtain rfl := Option.some.inj h
        exact hret _ _ _ _ hP hS dX7_waits_36
    · replace h := it_p c_8 h
      refine lv_iconst (v := (-1)) hx hb dX7_waits_22 (by decide) ?_
      obtain rfl := Option.some.inj h
      exact hret _ _ _ _ hP hS dX7_waits_23
def fX7_waits (x1 : Int32) (x2 : Int32) (w : Mm) : Option (Int32) := fX7_waits_E x1 x2 w
theorem ctX7_waits (l : Launch) (D : va_G) (c3 : C3) (ad : Nat → Nat) (w : Mm) (sz : Nat) (x1 : Int32) (x2 : Int32) (r : Int32) (h : fX7_waits x1 x2 w = some r) : Ci l yX7_waits wsX7_waits rmX7_waits D c3 (encC c3 ad) gC [.ref (ad 0), .int x1, .int x2] w sz r w := by
  refine Ci.of (cc := cX7_waits) (maxL := 4) (encC_ok c3 ad) (by decide) rfl (Nat.le_of_ble_eq_true rfl) ?_
  intro p e s m below meth c A Q ls X hret hP hS hl
  exact bX7_waits_E X hret x1 x2 _ _ ls hP hS hl h
def rmX2_attempt_23 : Room := { frames := 4, cells := 0, slots := 0, locals := 87 }
def fX2_attempt_23_E (x1 : Int32) (x2 : Int32) (w : Mm) : Option (Mm) := (if x2 = (-1) then bo (fX2_ease_23 w) (fun w_7 => some w_7) else bo (fX2_utter_23 x1 x2 w) (fun w_4 => some w_4))
set_option maxRecDepth 20000 in
theorem bX2_attempt_23_E {p : Program} {l : Launch} {e : Env} {s : State} {m : MethodId} {args : Array Value} {below : List Frame} {meth : Method} {c : Code} {Q : State → Prop} {D : va_G} {c3 : C3} {ad : Nat → Nat} {A : Nat → Prop} {w' : Mm} (X : Cx p s m args c cX2_attempt 3 RX2 wsX2_attempt D c3 (encC c3 ad) gC A) (hret : Rv p l e (rmX2_attempt_23) s m args below meth c Q cX2_attempt D (encC c3 ad) A w') : ∀ (x1 : Int32) (x2 : Int32) (w : Mm) (H : Heap) (locs : List Loc) (ls : Array Slot), va_P D vwCl ((encC c3 ad) w) H → va_S A s.heap H locs → lv_has ls 3 [(0, .ref (ad 23)), (1, .int x1), (2, .int x2)] → fX2_attempt_23_E x1 x2 w = some w' → W p l e (rmX2_attempt_23) s m args below meth c H locs 0 0 Q (F0 m 0 ls []) := by
  have hx := X.1
  have hb := X.2.1
  have hml := X.2.2.1
  have hown := X.2.2.2.1
  have hts := X.2.2.2.2.1
  intro x1 x2 w H locs ls hP hS hl h
  unfold fX2_attempt_23_E at h
  refine lv_iload_n hx hb dX2_attempt_0 rfl (lv_at hl 2 rfl) ?_
  refine lv_iconst (v := (-1)) hx hb dX2_attempt_1 (by decide) ?_
  refine lv_icmp_ne (tgt := 12) hx hb dX2_attempt_2 (by decide) (fun c_1 => ?_) (fun c_1 => ?_)
  · replace h := it_n c_1 h
    refine lv_aload_n hx hb dX2_attempt_12 rfl (lv_at hl 0 rfl) ?_
    refine lv_iload_n hx hb dX2_attempt_13 rfl (lv_at hl 1 rfl) ?_
    refine lv_iload_n hx hb dX2_attempt_14 rfl (lv_at hl 2 rfl) ?_
    obtain ⟨w_4, e_2, h⟩ := bo_s h
    refine x_gov X hS (x_runV (As := [.int x1, .int x2]) (rest := []) X gC_ok hP hS (ctX2_utter_23 l D c3 ad w _ x1 x2 _ e_2) (cwV 2 hts gX2_attempt_X2_utter rfl rfl rfl (by decide +kernel) ⟨by decide, by decide⟩) (gC23 c3 ad w) rfl rfl rfl hl.1 rfl (Nat.le_of_ble_eq_true rfl) dX2_attempt_15) (fun H locs hP hS => ?_)
    obtain rfl := Option.some.inj h
    exact hret _ _ _ _ hP hS dX2_attempt_18
  · replace h := it_p c_1 h
    refine lv_aload_n hx hb dX2_attempt_5 rfl (lv_at hl 0 rfl) ?_
    obtain ⟨w_7, e_5, h⟩ := bo_s h
    refine x_gov X hS (x_runV (As := []) (rest := []) X gC_ok hP hS (ctX2_ease_23 l D c3 ad w _ _ e_5) (cwV 0 hts gX2_attempt_X2_ease rfl rfl rfl (by decide +kernel) ⟨by decide, by decide⟩) (gC23 c3 ad w) rfl rfl rfl hl.1 rfl (Nat.le_of_ble_eq_true rfl) dX2_attempt_6) (fun H locs hP hS => ?_)
    refine lv_goto (tgt := 18) hx hb dX2_attempt_9 (by decide) ?_
    obtain rfl := Option.some.inj h
    exact hret _ _ _ _ hP hS dX2_attempt_18
def fX2_attempt_23 (x1 : Int32) (x2 : Int32) (w : Mm) : Option (Mm) := fX2_attempt_23_E x1 x2 w
theorem ctX2_attempt_23 (l : Launch) (D : va_G) (c3 : C3) (ad : Nat → Nat) (w : Mm) (sz : Nat) (x1 : Int32) (x2 : Int32) (w' : Mm) (h : fX2_attempt_23 x1 x2 w = some w') : Cv l yX2_attempt wsX2_attempt rmX2_attempt_23 D c3 (encC c3 ad) gC [.ref (ad 23), .int x1, .int x2] w sz w' := by
  refine Cv.of (cc := cX2_attempt) (maxL := 3) (encC_ok c3 ad) (by decide) rfl (Nat.le_of_ble_eq_true rfl) ?_
  intro p e s m below meth c A Q ls X hret hP hS hl
  exact bX2_attempt_23_E X hret x1 x2 w _ _ ls hP hS hl h
theorem iwX2_takeBack_X2 : ∀ w ∈ wsX20, w ∈ wsX2_takeBack := fun _ h => List.mem_cons_of_mem _ (List.mem_append_right _ h)
theorem lkX2_takeBack_34 : Cond.fieldLink RX2 34 "StuckDoor$Family" "strain" "I" ∈ wsX2_takeBack := by decide +kernel
theorem lkX2_takeBack_37 : Cond.fieldLink RX2 37 "StuckDoor$Family" "settled" "I" ∈ wsX2_takeBack := by decide +kernel
theorem lkX2_takeBack_43 : Cond.fieldLink RX2 43 "StuckDoor$Family" "said" "[I" ∈ wsX2_takeBack := by decide +kernel
def rmX2_takeBack_23 : Room := { frames := 0, cells := 0, slots := 0, locals := 0 }
def fX2_takeBack_23_15 (x2 : Int32) (x3 : Int32) (w : Mm) : Option (Mm) := nm (sA w 23 7 x2) (fun w_1 => nm (sA w_1 23 8 x3) (fun w_2 => some w_2))
set_option maxRecDepth 20000 in
theorem bX2_takeBack_23_15 {p : Program} {l : Launch} {e : Env} {s : State} {m : MethodId} {args : Array Value} {below : List Frame} {meth : Method} {c : Code} {Q : State → Prop} {D : va_G} {c3 : C3} {ad : Nat → Nat} {A : Nat → Prop} {w' : Mm} (X : Cx p s m args c cX2_takeBack 4 RX2 wsX2_takeBack D c3 (encC c3 ad) gC A) (hret : Rv p l e (rmX2_takeBack_23) s m args below meth c Q cX2_takeBack D (encC c3 ad) A w') : ∀ (x2 : Int32) (x3 : Int32) (w : Mm) (H : Heap) (locs : List Loc) (ls : Array Slot), va_P D vwCl ((encC c3 ad) w) H → va_S A s.heap H locs → lv_has ls 4 [(0, .ref (ad 23)), (2, .int x2), (3, .int x3)] → fX2_takeBack_23_15 x2 x3 w = some w' → W p l e (rmX2_takeBack_23) s m args below meth c H locs 0 0 Q (F0 m 15 ls []) := by
  have hx := X.1
  have hb := X.2.1
  have hml := X.2.2.1
  have hown := X.2.2.2.1
  have hts := X.2.2.2.2.1
  intro x2 x3 w H locs ls hP hS hl h
  unfold fX2_takeBack_23_15 at h
  refine lv_aload_n hx hb dX2_takeBack_15 rfl (lv_at hl 0 rfl) ?_
  refine lv_iload_n hx hb dX2_takeBack_16 rfl (lv_at hl 1 rfl) ?_
  refine x_put (v := .int x2) X hP hS (gC23 c3 ad w) rfl iwX2_takeBack_X2 tyX2 tyX2_ok nmX2 7 (by decide) lkX2_takeBack_34 rfl rfl rfl (Nat.le_of_ble_eq_true rfl) (pC23_7 c3 ad w x2) dX2_takeBack_17 (fun H locs hP hS => ?_)
  refine x_nmw h hP (fun w_1 h hP => ?_)
  refine lv_aload_n hx hb dX2_takeBack_20 rfl (lv_at hl 0 rfl) ?_
  refine lv_iload_n hx hb dX2_takeBack_21 rfl (lv_at hl 2 rfl) ?_
  refine x_put (v := .int x3) X hP hS (gC23 c3 ad w_1) rfl iwX2_takeBack_X2 tyX2 tyX2_ok nmX2 8 (by decide) lkX2_takeBack_37 rfl rfl rfl (Nat.le_of_ble_eq_true rfl) (pC23_8 c3 ad w_1 x3) dX2_takeBack_22 (fun H locs hP hS => ?_)
  refine x_nmw h hP (fun w_2 h hP => ?_)
  obtain rfl := Option.some.inj h
  exact hret _ _ _ _ hP hS dX2_takeBack_25
def fX2_takeBack_23_E (x1 : Int32) (x2 : Int32) (x3 : Int32) (w : Mm) : Option (Mm) := (if x1 = (-1) then fX2_takeBack_23_15 x2 x3 w else gd (inb x1 6 = true) (nm (sA w 28 x1.toNatClampNeg ((w.1 28 x1.toNatClampNeg) - 1)) (fun w_5 => fX2_takeBack_23_15 x2 x3 w_5)))
set_option maxRecDepth 20000 in
theorem bX2_takeBack_23_E {p : Program} {l : Launch} {e : Env} {s : State} {m : MethodId} {args : Array Value} {below : List Frame} {meth : Method} {c : Code} {Q : State → Prop} {D : va_G} {c3 : C3} {ad : Nat → Nat} {A : Nat → Prop} {w' : Mm} (X : Cx p s m args c cX2_takeBack 4 RX2 wsX2_takeBack D c3 (encC c3 ad) gC A) (hret : Rv p l e (rmX2_takeBack_23) s m args below meth c Q cX2_takeBack D (encC c3 ad) A w') : ∀ (x1 : Int32) (x2 : Int32) (x3 : Int32) (w : Mm) (H : Heap) (locs : List Loc) (ls : Array Slot), va_P D vwCl ((encC c3 ad) w) H → va_S A s.heap H locs → lv_has ls 4 [(0, .ref (ad 23)), (1, .int x1), (2, .int x2), (3, .int x3)] → fX2_takeBack_23_E x1 x2 x3 w = some w' → W p l e (rmX2_takeBack_23) s m args below meth c H locs 0 0 Q (F0 m 0 ls []) := by
  have hx := X.1
  have hb := X.2.1
  have hml := X.2.2.1
  have hown := X.2.2.2.1
  have hts := X.2.2.2.2.1
  intro x1 x2 x3 w H locs ls hP hS hl h
  unfold fX2_takeBack_23_E at h
  refine lv_iload_n hx hb dX2_takeBack_0 rfl (lv_at hl 1 rfl) ?_
  refine lv_iconst (v := (-1)) hx hb dX2_takeBack_1 (by decide) ?_
  refine lv_icmp_eq (tgt := 15) hx hb dX2_takeBack_2 (by decide) (fun c_3 => ?_) (fun c_3 => ?_)
  · replace h := it_p c_3 h
    exact bX2_takeBack_23_15 X hret x2 x3 w _ _ _ hP hS (lv_sub hl [0, 2, 3] rfl) h
  · replace h := it_n c_3 h
    refine lv_aload_n hx hb dX2_takeBack_5 rfl (lv_at hl 0 rfl) ?_
    refine x_get (rest := []) X hP (gC23 c3 ad w) rfl iwX2_takeBack_X2 10 (by decide) lkX2_takeBack_43 rfl dX2_takeBack_6 ?_
    refine lv_iload_n hx hb dX2_takeBack_9 rfl (lv_at hl 1 rfl) ?_
    refine lv_dup2_11 hx hb dX2_takeBack_10 rfl rfl ?_
    obtain ⟨g_4, h⟩ := gd_s h
    refine x_iald X hP (gC28 c3 ad w) g_4 dX2_takeBack_11 ?_
    refine lv_iconst (v := 1) hx hb dX2_takeBack_12 (by decide) ?_
    refine lv_isub hx hb dX2_takeBack_13 ?_
    refine x_iast X hP hS (gC28 c3 ad w) (sC28 c3 ad w _ _) g_4 dX2_takeBack_14 (fun H locs hP hS => ?_)
    refine x_nmw h hP (fun w_5 h hP => ?_)
    exact bX2_takeBack_23_15 X hret x2 x3 w_5 _ _ _ hP hS (lv_sub hl [0, 2, 3] rfl) h
def fX2_takeBack_23 (x1 : Int32) (x2 : Int32) (x3 : Int32) (w : Mm) : Option (Mm) := fX2_takeBack_23_E x1 x2 x3 w
theorem ctX2_takeBack_23 (l : Launch) (D : va_G) (c3 : C3) (ad : Nat → Nat) (w : Mm) (sz : Nat) (x1 : Int32) (x2 : Int32) (x3 : Int32) (w' : Mm) (h : fX2_takeBack_23 x1 x2 x3 w = some w') : Cv l yX2_takeBack wsX2_takeBack rmX2_takeBack_23 D c3 (encC c3 ad) gC [.ref (ad 23), .int x1, .int x2, .int x3] w sz w' := by
  refine Cv.of (cc := cX2_takeBack) (maxL := 4) (encC_ok c3 ad) (by decide) rfl (Nat.le_of_ble_eq_true rfl) ?_
  intro p e s m below meth c A Q ls X hret hP hS hl
  exact bX2_takeBack_23_E X hret x1 x2 x3 w _ _ ls hP hS hl h
theorem iwX6_noteEnd_X2 : ∀ w ∈ wsX20, w ∈ wsX6_noteEnd := fun _ h => List.mem_cons_of_mem _ (List.mem_append_right _ h)
theorem iwX6_noteEnd_X6 : ∀ w ∈ wsX60, w ∈ wsX6_noteEnd := fun _ h => List.mem_cons_of_mem _ (List.mem_append_left _ (List.mem_append_right _ h))
theorem lkX6_noteEnd_15 : Cond.fieldLink RX6 15 "StuckDoor$Turns" "number" "J" ∈ wsX6_noteEnd := by decide +kernel
theorem lkX6_noteEnd_19 : Cond.fieldLink RX6 19 "StuckDoor$Turns" "settleable" "I" ∈ wsX6_noteEnd := by decide +kernel
theorem lkX6_noteEnd_23 : Cond.fieldLink RX6 23 "StuckDoor$Turns" "leastStrain" "I" ∈ wsX6_noteEnd := by decide +kernel
theorem lkX6_noteEnd_30 : Cond.fieldLink RX6 30 "StuckDoor$Family" "settled" "I" ∈ wsX6_noteEnd := by decide +kernel
theorem lkX6_noteEnd_49 : Cond.fieldLink RX6 49 "StuckDoor$Family" "strain" "I" ∈ wsX6_noteEnd := by decide +kernel
def rmX6_noteEnd : Room := { frames := 0, cells := 0, slots := 0, locals := 0 }
def fX6_noteEnd_52 (w : Mm) : Option (Int32 × Mm) := nm (sA w 39 3 (w.1 23 7)) (fun w_1 => some (0, w_1))
set_option maxRecDepth 20000 in
theorem bX6_noteEnd_52 {p : Program} {l : Launch} {e : Env} {s : State} {m : MethodId} {args : Array Value} {below : List Frame} {meth : Method} {c : Code} {Q : State → Prop} {D : va_G} {c3 : C3} {ad : Nat → Nat} {A : Nat → Prop} {r : Int32} {w' : Mm} (X : Cx p s m args c cX6_noteEnd 2 RX6 wsX6_noteEnd D c3 (encC c3 ad) gC A) (hret : Rz p l e (rmX6_noteEnd) s m args below meth c Q cX6_noteEnd D (encC c3 ad) A r w') : ∀ (w : Mm) (H : Heap) (locs : List Loc) (ls : Array Slot), va_P D vwCl ((encC c3 ad) w) H → va_S A s.heap H locs → lv_has ls 2 [(0, .ref (ad 39)), (1, .ref (ad 23))] → fX6_noteEnd_52 w = some (r, w') → W p l e (rmX6_noteEnd) s m args below meth c H locs 0 0 Q (F0 m 52 ls []) := by
  have hx := X.1
  have hb := X.2.1
  have hml := X.2.2.1
  have hown := X.2.2.2.1
  have hts := X.2.2.2.2.1
  intro w H locs ls hP hS hl h
  unfold fX6_noteEnd_52 at h
  refine lv_aload_n hx hb dX6_noteEnd_52 rfl (lv_at hl 0 rfl) ?_
  refine lv_aload_n hx hb dX6_noteEnd_53 rfl (lv_at hl 1 rfl) ?_
  refine x_get (rest := [.ref (ad 39)]) X hP (gC23 c3 ad w) rfl iwX6_noteEnd_X2 7 (by decide) lkX6_noteEnd_49 rfl dX6_noteEnd_54 ?_
  refine x_put (v := .int (w.1 23 7)) X hP hS (gC39 c3 ad w) rfl iwX6_noteEnd_X6 tyX6 tyX6_ok nmX6 3 (by decide) lkX6_noteEnd_23 rfl rfl rfl (Nat.le_of_ble_eq_true rfl) (pC39_3 c3 ad w (w.1 23 7)) dX6_noteEnd_57 (fun H locs hP hS => ?_)
  refine x_nmw h hP (fun w_1 h hP => ?_)
  refine lv_iconst (v := 0) hx hb dX6_noteEnd_60 (by decide) ?_
  obtain ⟨rfl, rfl⟩ := Prod.mk.inj (Option.some.inj h)
  exact hret (Or.inl rfl) _ _ _ _ hP hS dX6_noteEnd_61
def fX6_noteEnd_E (w : Mm) : Option (Int32 × Mm) := nm (sL w 39 1 ((w.2.1 39 1) + 1)) (fun w_2 => nm (sA w_2 39 2 ((w_2.1 39 2) ||| (w_2.1 23 8))) (fun w_3 => (if (w_3.1 23 8) = 7 then (if (w_3.1 39 3) = (-9) then fX6_noteEnd_52 w_3 else (if (w_3.1 39 3) ≤ (w_3.1 23 7) then some (0, w_3) else fX6_noteEnd_52 w_3)) else some (0, w_3))))
set_option maxRecDepth 20000 in
theorem bX6_noteEnd_E {p : Program} {l : Launch} {e : Env} {s : State} {m : MethodId} {args : Array Value} {below : List Frame} {meth : Method} {c : Code} {Q : State → Prop} {D : va_G} {c3 : C3} {ad : Nat → Nat} {A : Nat → Prop} {r : Int32} {w' : Mm} (X : Cx p s m args c cX6_noteEnd 2 RX6 wsX6_noteEnd D c3 (encC c3 ad) gC A) (hret : Rz p l e (rmX6_noteEnd) s m args below meth c Q cX6_noteEnd D (encC c3 ad) A r w') : ∀ (w : Mm) (H : Heap) (locs : List Loc) (ls : Array Slot), va_P D vwCl ((encC c3 ad) w) H → va_S A s.heap H locs → lv_has ls 2 [(0, .ref (ad 39)), (1, .ref (ad 23))] → fX6_noteEnd_E w = some (r, w') → W p l e (rmX6_noteEnd) s m args below meth c H locs 0 0 Q (F0 m 0 ls []) := by
  have hx := X.1
  have hb := X.2.1
  have hml := X.2.2.1
  have hown := X.2.2.2.1
  have hts := X.2.2.2.2.1
  intro w H locs ls hP hS hl h
  unfold fX6_noteEnd_E at h
  refine lv_aload_n hx hb dX6_noteEnd_0 rfl (lv_at hl 0 rfl) ?_
  refine lv_dup hx hb dX6_noteEnd_1 rfl ?_
  refine x_get (rest := [.ref (ad 39)]) X hP (gC39 c3 ad w) rfl iwX6_noteEnd_X6 1 (by decide) lkX6_noteEnd_15 rfl dX6_noteEnd_2 ?_
  refine lv_lconst (v := 1) hx hb dX6_noteEnd_5 (by decide) ?_
  refine lv_ladd hx hb dX6_noteEnd_6 ?_
  refine x_put (v := .long ((w.2.1 39 1) + 1)) X hP hS (gC39 c3 ad w) rfl iwX6_noteEnd_X6 tyX6 tyX6_ok nmX6 1 (by decide) lkX6_noteEnd_15 rfl rfl rfl (Nat.le_of_ble_eq_true rfl) (pC39_1 c3 ad w ((w.2.1 39 1) + 1)) dX6_noteEnd_7 (fun H locs hP hS => ?_)
  refine x_nmw h hP (fun w_2 h hP => ?_)
  refine lv_aload_n hx hb dX6_noteEnd_10 rfl (lv_at hl 0 rfl) ?_
  refine lv_dup hx hb dX6_noteEnd_11 rfl ?_
  refine x_get (rest := [.ref (ad 39)]) X hP (gC39 c3 ad w_2) rfl iwX6_noteEnd_X6 2 (by decide) lkX6_noteEnd_19 rfl dX6_noteEnd_12 ?_
  refine lv_aload_n hx hb dX6_noteEnd_15 rfl (lv_at hl 1 rfl) ?_
  refine x_get (rest := [.int (w_2.1 39 2), .ref (ad 39)]) X hP (gC23 c3 ad w_2) rfl iwX6_noteEnd_X2 8 (by decide) lkX6_noteEnd_30 rfl dX6_noteEnd_16 ?_
  refine lv_ior hx hb dX6_noteEnd_19 ?_
  refine x_put (v := .int ((w_2.1 39 2) ||| (w_2.1 23 8))) X hP hS (gC39 c3 ad w_2) rfl iwX6_noteEnd_X6 tyX6 tyX6_ok nmX6 2 (by decide) lkX6_noteEnd_19 rfl rfl rfl (Nat.le_of_ble_eq_true rfl) (pC39_2 c3 ad w_2 ((w_2.1 39 2) ||| (w_2.1 23 8))) dX6_noteEnd_20 (fun H locs hP hS => ?_)
  refine x_nmw h hP (fun w_3 h hP => ?_)
  refine lv_aload_n hx hb dX6_noteEnd_23 rfl (lv_at hl 1 rfl) ?_
  refine x_get (rest := []) X hP (gC23 c3 ad w_3) rfl iwX6_noteEnd_X2 8 (by decide) lkX6_noteEnd_30 rfl dX6_noteEnd_24 ?_
  refine lv_bipush (v := 7) hx hb dX6_noteEnd_27 (by decide) ?_
  refine lv_icmp_ne (tgt := 60) hx hb dX6_noteEnd_29 (by decide) (fun c_4 => ?_) (fun c_4 => ?_)
  · replace h := it_n c_4 h
    refine lv_iconst (v := 0) hx hb dX6_noteEnd_60 (by decide) ?_
    obtain ⟨rfl, rfl⟩ := Prod.mk.inj (Option.some.inj h)
    exact hret (Or.inl rfl) _ _ _ _ hP hS dX6_noteEnd_61
  · replace h := it_p c_4 h
    refine lv_aload_n hx hb dX6_noteEnd_32 rfl (lv_at hl 0 rfl) ?_
    refine x_get (rest := []) X hP (gC39 c3 ad w_3) rfl iwX6_noteEnd_X6 3 (by decide) lkX6_noteEnd_23 rfl dX6_noteEnd_33 ?_
    refine lv_bipush (v := (-9)) hx hb dX6_noteEnd_36 (by decide) ?_
    refine lv_icmp_eq (tgt := 52) hx hb dX6_noteEnd_38 (by decide) (fun c_5 => ?_) (fun c_5 => ?_)
    · replace h := it_p c_5 h
      exact bX6_noteEnd_52 X hret w_3 _ _ _ hP hS (lv_sub hl [0, 1] rfl) h
    · replace h := it_n c_5 h
      refine lv_aload_n hx hb dX6_noteEnd_41 rfl (lv_at hl 1 rfl) ?_
      refine x_get (rest := []) X hP (gC23 c3 ad w_3) rfl iwX6_noteEnd_X2 7 (by decide) lkX6_noteEnd_49 rfl dX6_noteEnd_42 ?_
      refine lv_aload_n hx hb dX6_noteEnd_45 rfl (lv_at hl 0 rfl) ?_
      refine x_get (rest := [.int (w_3.1 23 7)]) X hP (gC39 c3 ad w_3) rfl iwX6_noteEnd_X6 3 (by decide) lkX6_noteEnd_23 rfl dX6_noteEnd_46 ?_
      refine lv_icmp_ge (tgt := 60) hx hb dX6_noteEnd_49 (by decide) (fun c_6 => ?_) (fun c_6 => ?_)
      · replace h := it_p c_6 h
        refine lv_iconst (v := 0) hx hb dX6_noteEnd_60 (by decide) ?_
        obtain ⟨rfl, rfl⟩ := Prod.mk.inj (Option.some.inj h)
        exact hret (Or.inl rfl) _ _ _ _ hP hS dX6_noteEnd_61
      · replace h := it_n c_6 h
        exact bX6_noteEnd_52 X hret w_3 _ _ _ hP hS (lv_sub hl [0, 1] rfl) h
def fX6_noteEnd (w : Mm) : Option (Int32 × Mm) := fX6_noteEnd_E w
theorem ctX6_noteEnd (l : Launch) (D : va_G) (c3 : C3) (ad : Nat → Nat) (w : Mm) (sz : Nat) (r : Int32) (w' : Mm) (h : fX6_noteEnd w = some (r, w')) : Ci l yX6_noteEnd wsX6_noteEnd rmX6_noteEnd D c3 (encC c3 ad) gC [.ref (ad 39), .ref (ad 23)] w sz r w' := by
  refine Ci.ofz (cc := cX6_noteEnd) (maxL := 2) (encC_ok c3 ad) (by decide) rfl (Nat.le_of_ble_eq_true rfl) ?_
  intro p e s m below meth c A Q ls X hret hP hS hl
  exact bX6_noteEnd_E X hret w _ _ ls hP hS hl h
theorem iwX6_attemptFrom_X2 : ∀ w ∈ wsX20, w ∈ wsX6_attemptFrom := fun _ h => List.mem_cons_of_mem _ (List.mem_append_left _ (List.mem_append_right _ h))
theorem iwX6_attemptFrom_X6 : ∀ w ∈ wsX60, w ∈ wsX6_attemptFrom := fun _ h => List.mem_cons_of_mem _ (List.mem_append_right _ h)
theorem lkX6_attemptFrom_9 : Cond.fieldLink RX6 9 "StuckDoor$Turns" "trial" "[I" ∈ wsX6_attemptFrom := by decide +kernel
theorem lkX6_attemptFrom_30 : Cond.fieldLink RX6 30 "StuckDoor$Family" "settled" "I" ∈ wsX6_attemptFrom := by decide +kernel
theorem lkX6_attemptFrom_39 : Cond.fieldLink RX6 39 "StuckDoor$Family" "people" "I" ∈ wsX6_attemptFrom := by decide +kernel
theorem lkX6_attemptFrom_42 : Cond.fieldLink RX6 42 "StuckDoor$Family" "sayings" "I" ∈ wsX6_attemptFrom := by decide +kernel
theorem lkX6_attemptFrom_49 : Cond.fieldLink RX6 49 "StuckDoor$Family" "strain" "I" ∈ wsX6_attemptFrom := by decide +kernel
def rmX6_attemptFrom (fR lR : Nat) : Room := { frames := fR + 5, cells := 0, slots := 0, locals := lR + 109 }
def fX6_attemptFrom_149 (rc : Int32 → Int32 → Int32 → Int32 → Mm → Option (Int32 × Mm)) (k61 : Int32 → Mm → Option (Int32 × Mm)) (x2 : Int32) (x3 : Int32) (x4 : Int32) (x5 : Int32) (x6 : Int32) (x7 : Int32) (w : Mm) : Option (Int32 × Mm) := k61 (x7 + 1) w
set_option maxRecDepth 20000 in
theorem bX6_attemptFrom_149 {p : Program} {l : Launch} {e : Env} {s : State} {m : MethodId} {args : Array Value} {below : List Frame} {meth : Method} {c : Code} {Q : State → Prop} {D : va_G} {c3 : C3} {ad : Nat → Nat} {A : Nat → Prop} {r : Int32} {w' : Mm} {fR lR : Nat} {rc : Int32 → Int32 → Int32 → Int32 → Mm → Option (Int32 × Mm)} (X : Cx p s m args c cX6_attemptFrom 11 RX6 wsX6_attemptFrom D c3 (encC c3 ad) gC A) (hret : Rz p l e (rmX6_attemptFrom fR lR) s m args below meth c Q cX6_attemptFrom D (encC c3 ad) A r w') (hrc : ∀ (a0 a1 a2 a3 : Int32) (v : Mm) (sz : Nat) (r2 : Int32) (v2 : Mm), rc a0 a1 a2 a3 v = some (r2, v2) → Ci l yX6_attemptFrom wsX6_attemptFrom (mkR fR lR) D c3 (encC c3 ad) gC [.ref (ad 39), .ref (ad 23), .int a0, .int a1, .int a2, .int a3] v sz r2 v2) {x2 : Int32} {x3 : Int32} {x4 : Int32} {x5 : Int32} {x6 : Int32} {k61 : Int32 → Mm → Option (Int32 × Mm)} (hk61 : ∀ (x7 : Int32) (w : Mm) (H : Heap) (locs : List Loc) (ls : Array Slot), va_P D vwCl ((encC c3 ad) w) H → va_S A s.heap H locs → lv_has ls 11 [(0, .ref (ad 39)), (1, .ref (ad 23)), (2, .int x2), (3, .int x3), (4, .int x4), (5, .int x5), (6, .int x6), (7, .int x7)] → k61 x7 w = some (r, w') → W p l e (rmX6_attemptFrom fR lR) s m args below meth c H locs 0 0 Q (F0 m 61 ls [])) : ∀ (x7 : Int32) (w : Mm) (H : Heap) (locs : List Loc) (ls : Array Slot), va_P D vwCl ((encC c3 ad) w) H → va_S A s.heap H locs → lv_has ls 11 [(0, .ref (ad 39)), (1, .ref (ad 23)), (2, .int x2), (3, .int x3), (4, .int x4), (5, .int x5), (6, .int x6), (7, .int x7)] → fX6_attemptFrom_149 rc k61 x2 x3 x4 x5 x6 x7 w = some (r, w') → W p l e (rmX6_attemptFrom fR lR) s m args below meth c H locs 0 0 Q (F0 m 149 ls []) := by
  have hx := X.1
  have hb := X.2.1
  have hml := X.2.2.1
  have hown := X.2.2.2.1
  have hts := X.2.2.2.2.1
  intro x7 w H locs ls hP hS hl h
  unfold fX6_attemptFrom_149 at h
  refine lv_iinc (v := (x7 + 1)) (lv' := [(7, .int (x7 + 1)), (0, .ref (ad 39)), (1, .ref (ad 23)), (2, .int x2), (3, .int x3), (4, .int x4), (5, .int x5), (6, .int x6)]) hx hb dX6_attemptFrom_149 hl (k := 7) rfl rfl (by decide) rfl (fun ls hl => ?_)
  refine lv_goto (tgt := 61) hx hb dX6_attemptFrom_152 (by decide) ?_
  exact hk61 (x7 + 1) w _ _ _ hP hS (lv_sub hl [1, 2, 3, 4, 5, 6, 7, 0] rfl) h
def fX6_attemptFrom_89 (rc : Int32 → Int32 → Int32 → Int32 → Mm → Option (Int32 × Mm)) (k61 : Int32 → Mm → Option (Int32 × Mm)) (x2 : Int32) (x3 : Int32) (x4 : Int32) (x5 : Int32) (x6 : Int32) (x7 : Int32) (w : Mm) : Option (Int32 × Mm) := nm (w.1 23 7) (fun x8_1 => nm (w.1 23 8) (fun x9_2 => gd (inb x3 5 = true) (nm (sA w 40 x3.toNatClampNeg x7) (fun w_4 => bo (fX2_attempt_23 x2 x7 w_4) (fun w_7 => bd (rc x6 (x3 + 1) x4 x5 w_7) (fun r_9 w_10 => bo (fX2_takeBack_23 x7 x8_1 x9_2 w_10) (fun w_13 => (if r_9 = 0 then fX6_attemptFrom_149 rc k61 x2 x3 x4 x5 x6 x7 w_13 else some (1, w_13)))))))))
set_option maxRecDepth 20000 in
theorem bX6_attemptFrom_89 {p : Program} {l : Launch} {e : Env} {s : State} {m : MethodId} {args : Array Value} {below : List Frame} {meth : Method} {c : Code} {Q : State → Prop} {D : va_G} {c3 : C3} {ad : Nat → Nat} {A : Nat → Prop} {r : Int32} {w' : Mm} {fR lR : Nat} {rc : Int32 → Int32 → Int32 → Int32 → Mm → Option (Int32 × Mm)} (X : Cx p s m args c cX6_attemptFrom 11 RX6 wsX6_attemptFrom D c3 (encC c3 ad) gC A) (hret : Rz p l e (rmX6_attemptFrom fR lR) s m args below meth c Q cX6_attemptFrom D (encC c3 ad) A r w') (hrc : ∀ (a0 a1 a2 a3 : Int32) (v : Mm) (sz : Nat) (r2 : Int32) (v2 : Mm), rc a0 a1 a2 a3 v = some (r2, v2) → Ci l yX6_attemptFrom wsX6_attemptFrom (mkR fR lR) D c3 (encC c3 ad) gC [.ref (ad 39), .ref (ad 23), .int a0, .int a1, .int a2, .int a3] v sz r2 v2) {x2 : Int32} {x3 : Int32} {x4 : Int32} {x5 : Int32} {x6 : Int32} {k61 : Int32 → Mm → Option (Int32 × Mm)} (hk61 : ∀ (x7 : Int32) (w : Mm) (H : Heap) (locs : List Loc) (ls : Array Slot), va_P D vwCl ((encC c3 ad) w) H → va_S A s.heap H locs → lv_has ls 11 [(0, .ref (ad 39)), (1, .ref (ad 23)), (2, .int x2), (3, .int x3), (4, .int x4), (5, .int x5), (6, .int x6), (7, .int x7)] → k61 x7 w = some (r, w') → W p l e (rmX6_attemptFrom fR lR) s m args below meth c H locs 0 0 Q (F0 m 61 ls [])) : ∀ (x7 : Int32) (w : Mm) (H : Heap) (locs : List Loc) (ls : Array Slot), va_P D vwCl ((encC c3 ad) w) H → va_S A s.heap H locs → lv_has ls 11 [(0, .ref (ad 39)), (1, .ref (ad 23)), (2, .int x2), (3, .int x3), (4, .int x4), (5, .int x5), (6, .int x6), (7, .int x7)] → fX6_attemptFrom_89 rc k61 x2 x3 x4 x5 x6 x7 w = some (r, w') → W p l e (rmX6_attemptFrom fR lR) s m args below meth c H locs 0 0 Q (F0 m 89 ls []) := by
  have hx := X.1
  have hb := X.2.1
  have hml := X.2.2.1
  have hown := X.2.2.2.1
  have hts := X.2.2.2.2.1
  intro x7 w H locs ls hP hS hl h
  unfold fX6_attemptFrom_89 at h
  refine lv_aload_n hx hb dX6_attemptFrom_89 rfl (lv_at hl 1 rfl) ?_
  refine x_get (rest := []) X hP (gC23 c3 ad w) rfl iwX6_attemptFrom_X2 7 (by decide) lkX6_attemptFrom_49 rfl dX6_attemptFrom_90 ?_
  refine x_nmi h (fun x8_1 h => ?_)
  refine lv_istore (lv' := [(8, .int x8_1), (0, .ref (ad 39)), (1, .ref (ad 23)), (2, .int x2), (3, .int x3), (4, .int x4), (5, .int x5), (6, .int x6), (7, .int x7)]) hx hb dX6_attemptFrom_93 hl (by decide) rfl (fun ls hl => ?_)
  refine lv_aload_n hx hb dX6_attemptFrom_95 rfl (lv_at hl 2 rfl) ?_
  refine x_get (rest := []) X hP (gC23 c3 ad w) rfl iwX6_attemptFrom_X2 8 (by decide) lkX6_attemptFrom_30 rfl dX6_attemptFrom_96 ?_
  refine x_nmi h (fun x9_2 h => ?_)
  refine lv_istore (lv' := [(9, .int x9_2), (8, .int x8_1), (0, .ref (ad 39)), (1, .ref (ad 23)), (2, .int x2), (3, .int x3), (4, .int x4), (5, .int x5), (6, .int x6), (7, .int x7)]) hx hb dX6_attemptFrom_99 hl (by decide) rfl (fun ls hl => ?_)
  refine lv_aload_n hx hb dX6_attemptFrom_101 rfl (lv_at hl 2 rfl) ?_
  refine x_get (rest := []) X hP (gC39 c3 ad w) rfl iwX6_attemptFrom_X6 0 (by decide) lkX6_attemptFrom_9 rfl dX6_attemptFrom_102 ?_
  refine lv_iload_n hx hb dX6_attemptFrom_105 rfl (lv_at hl 5 rfl) ?_
  refine lv_iload hx hb dX6_attemptFrom_106 (lv_at hl 9 rfl) ?_
  obtain ⟨g_3, h⟩ := gd_s h
  refine x_iast X hP hS (gC40 c3 ad w) (sC40 c3 ad w _ _) g_3 dX6_attemptFrom_108 (fun H locs hP hS => ?_)
  refine x_nmw h hP (fun w_4 h hP => ?_)
  refine lv_aload_n hx hb dX6_attemptFrom_109 rfl (lv_at hl 3 rfl) ?_
  refine lv_iload_n hx hb dX6_attemptFrom_110 rfl (lv_at hl 4 rfl) ?_
  refine lv_iload hx hb dX6_attemptFrom_111 (lv_at hl 9 rfl) ?_
  obtain ⟨w_7, e_5, h⟩ := bo_s h
  refine x_gov X hS (x_runV (As := [.int x2, .int x7]) (rest := []) X gC_ok hP hS (ctX2_attempt_23 l D c3 ad w_4 _ x2 x7 _ e_5) (cwV 2 hts gX6_attemptFrom_X2_attempt rfl rfl rfl (by decide +kernel) (by dsimp only [rmX6_attemptFrom, rmX2_attempt_23]; constructor <;> omega)) (gC23 c3 ad w_4) rfl rfl rfl hl.1 rfl (Nat.le_of_ble_eq_true rfl) dX6_attemptFrom_113) (fun H locs hP hS => ?_)
  refine lv_aload_n hx hb dX6_attemptFrom_116 rfl (lv_at hl 2 rfl) ?_
  refine lv_aload_n hx hb dX6_attemptFrom_117 rfl (lv_at hl 3 rfl) ?_
  refine lv_iload hx hb dX6_attemptFrom_118 (lv_at hl 8 rfl) ?_
  refine lv_iload_n hx hb dX6_attemptFrom_120 rfl (lv_at hl 5 rfl) ?_
  refine lv_iconst (v := 1) hx hb dX6_attemptFrom_121 (by decide) ?_
  refine lv_iadd hx hb dX6_attemptFrom_122 ?_
  refine lv_iload hx hb dX6_attemptFrom_123 (lv_at hl 6 rfl) ?_
  refine lv_iload hx hb dX6_attemptFrom_125 (lv_at hl 7 rfl) ?_
  obtain ⟨r_9, w_10, e_8, h⟩ := bd_s h
  refine x_goi X hS (x_runV (As := [.ref (ad 23), .int x6, .int (x3 + 1), .int x4, .int x5]) (rest := []) X gC_ok hP hS (hrc x6 (x3 + 1) x4 x5 w_7 _ _ _ e_8) (cwV 5 hts gX6_attemptFrom_X6_attemptFrom rfl rfl rfl (by decide +kernel) (by dsimp only [rmX6_attemptFrom, mkR]; constructor <;> omega)) (gC39 c3 ad w_7) rfl rfl rfl hl.1 rfl (Nat.le_of_ble_eq_true rfl) dX6_attemptFrom_127) (fun H locs hP hS => ?_)
  refine lv_istore (lv' := [(10, .int r_9), (9, .int x9_2), (8, .int x8_1), (0, .ref (ad 39)), (1, .ref (ad 23)), (2, .int x2), (3, .int x3), (4, .int x4), (5, .int x5), (6, .int x6), (7, .int x7)]) hx hb dX6_attemptFrom_130 hl (by decide) rfl (fun ls hl => ?_)
  refine lv_aload_n hx hb dX6_attemptFrom_132 rfl (lv_at hl 4 rfl) ?_
  refine lv_iload hx hb dX6_attemptFrom_133 (lv_at hl 10 rfl) ?_
  refine lv_iload hx hb dX6_attemptFrom_135 (lv_at hl 2 rfl) ?_
  refine lv_iload hx hb dX6_attemptFrom_137 (lv_at hl 1 rfl) ?_
  obtain ⟨w_13, e_11, h⟩ := bo_s h
  refine x_gov X hS (x_runV (As := [.int x7, .int x8_1, .int x9_2]) (rest := []) X gC_ok hP hS (ctX2_takeBack_23 l D c3 ad w_10 _ x7 x8_1 x9_2 _ e_11) (cwV 3 hts gX6_attemptFrom_X2_takeBack rfl rfl rfl (by decide +kernel) (by dsimp only [rmX6_attemptFrom, rmX2_takeBack_23]; constructor <;> omega)) (gC23 c3 ad w_10) rfl rfl rfl hl.1 rfl (Nat.le_of_ble_eq_true rfl) dX6_attemptFrom_139) (fun H locs hP hS => ?_)
  refine lv_iload hx hb dX6_attemptFrom_142 (lv_at hl 0 rfl) ?_
  refine lv_if_eq (tgt := 149) hx hb dX6_attemptFrom_144 (by decide) (fun c_14 => ?_) (fun c_14 => ?_)
  · replace h := it_p c_14 h
    exact bX6_attemptFrom_149 (x2 := x2) (x3 := x3) (x4 := x4) (x5 := x5) (x6 := x6) (k61 := k61) X hret hrc hk61 x7 w_13 _ _ _ hP hS (lv_sub hl [3, 4, 5, 6, 7, 8, 9, 10] rfl) h
  · replace h := it_n c_14 h
    refine lv_iconst (v := 1) hx hb dX6_attemptFrom_147 (by decide) ?_
    obtain ⟨rfl, rfl⟩ := Prod.mk.inj (Option.some.inj h)
    exact hret (Or.inr rfl) _ _ _ _ hP hS dX6_attemptFrom_148
def fX6_attemptFrom_61 (rc : Int32 → Int32 → Int32 → Int32 → Mm → Option (Int32 × Mm)) (x2 : Int32) (x3 : Int32) (x4 : Int32) (x5 : Int32) (x6 : Int32) : Nat → Int32 → Mm → Option (Int32 × Mm)
  | 0, _, _ => none
  | n + 1, x7, w => (if (w.1 23 2) ≤ x7 then some (0, w) else (if x7 = (-1) then fX6_attemptFrom_89 rc (fX6_attemptFrom_61 rc x2 x3 x4 x5 x6 n) x2 x3 x4 x5 x6 x7 w else bo (fX2_bearsSaying_23 x2 x7 w) (fun r_18 => (if r_18 = 0 then fX6_attemptFrom_149 rc (fX6_attemptFrom_61 rc x2 x3 x4 x5 x6 n) x2 x3 x4 x5 x6 x7 w else fX6_attemptFrom_89 rc (fX6_attemptFrom_61 rc x2 x3 x4 x5 x6 n) x2 x3 x4 x5 x6 x7 w))))
set_option maxRecDepth 20000 in
theorem bX6_attemptFrom_61 {p : Program} {l : Launch} {e : Env} {s : State} {m : MethodId} {args : Array Value} {below : List Frame} {meth : Method} {c : Code} {Q : State → Prop} {D : va_G} {c3 : C3} {ad : Nat → Nat} {A : Nat → Prop} {r : Int32} {w' : Mm} {fR lR : Nat} {rc : Int32 → Int32 → Int32 → Int32 → Mm → Option (Int32 × Mm)} (X : Cx p s m args c cX6_attemptFrom 11 RX6 wsX6_attemptFrom D c3 (encC c3 ad) gC A) (hret : Rz p l e (rmX6_attemptFrom fR lR) s m args below meth c Q cX6_attemptFrom D (encC c3 ad) A r w') (hrc : ∀ (a0 a1 a2 a3 : Int32) (v : Mm) (sz : Nat) (r2 : Int32) (v2 : Mm), rc a0 a1 a2 a3 v = some (r2, v2) → Ci l yX6_attemptFrom wsX6_attemptFrom (mkR fR lR) D c3 (encC c3 ad) gC [.ref (ad 39), .ref (ad 23), .int a0, .int a1, .int a2, .int a3] v sz r2 v2) : ∀ (x2 : Int32) (x3 : Int32) (x4 : Int32) (x5 : Int32) (x6 : Int32) (n : Nat) (x7 : Int32) (w : Mm) (H : Heap) (locs : List Loc) (ls : Array Slot), va_P D vwCl ((encC c3 ad) w) H → va_S A s.heap H locs → lv_has ls 11 [(0, .ref (ad 39)), (1, .ref (ad 23)), (2, .int x2), (3, .int x3), (4, .int x4), (5, .int x5), (6, .int x6), (7, .int x7)] → fX6_attemptFrom_61 rc x2 x3 x4 x5 x6 n x7 w = some (r, w') → W p l e (rmX6_attemptFrom fR lR) s m args below meth c H locs 0 0 Q (F0 m 61 ls []) := by
  have hx := X.1
  have hb := X.2.1
  have hml := X.2.2.1
  have hown := X.2.2.2.1
  have hts := X.2.2.2.2.1
  intro x2 x3 x4 x5 x6 n
  induction n with
  | zero =>
    intro x7 w H locs ls hP hS hl h
    exact absurd h (by simp [fX6_attemptFrom_61])
  | succ n ih =>
    intro x7 w H locs ls hP hS hl h
    rw [fX6_attemptFrom_61] at h
    refine lv_iload hx hb dX6_attemptFrom_61 (lv_at hl 7 rfl) ?_
    refine lv_aload_n hx hb dX6_attemptFrom_63 rfl (lv_at hl 1 rfl) ?_
    refine x_get (rest := [.int x7]) X hP (gC23 c3 ad w) rfl iwX6_attemptFrom_X2 2 (by decide) lkX6_attemptFrom_42 rfl dX6_attemptFrom_64 ?_
    refine lv_icmp_ge (tgt := 155) hx hb dX6_attemptFrom_67 (by decide) (fun c_15 => ?_) (fun c_15 => ?_)
    · replace h := it_p c_15 h
      refine lv_iconst (v := 0) hx hb dX6_attemptFrom_155 (by decide) ?_
      obtain ⟨rfl, rfl⟩ := Prod.mk.inj (Option.some.inj h)
      exact hret (Or.inl rfl) _ _ _ _ hP hS dX6_attemptFrom_156
    · replace h := it_n c_15 h
      refine lv_iload hx hb dX6_attemptFrom_70 (lv_at hl 7 rfl) ?_
      refine lv_iconst (v := (-1)) hx hb dX6_attemptFrom_72 (by decide) ?_
      refine lv_icmp_eq (tgt := 89) hx hb dX6_attemptFrom_73 (by decide) (fun c_16 => ?_) (fun c_16 => ?_)
      · replace h := it_p c_16 h
        exact bX6_attemptFrom_89 (x2 := x2) (x3 := x3) (x4 := x4) (x5 := x5) (x6 := x6) (k61 := (fX6_attemptFrom_61 rc x2 x3 x4 x5 x6 n)) X hret hrc ih x7 w _ _ _ hP hS (lv_sub hl [0, 1, 2, 3, 4, 5, 6, 7] rfl) h
      · replace h := it_n c_16 h
        refine lv_aload_n hx hb dX6_attemptFrom_76 rfl (lv_at hl 1 rfl) ?_
        refine lv_iload_n hx hb dX6_attemptFrom_77 rfl (lv_at hl 2 rfl) ?_
        refine lv_iload hx hb dX6_attemptFrom_78 (lv_at hl 7 rfl) ?_
        obtain ⟨r_18, e_17, h⟩ := bo_s h
        refine x_goi X hS (x_runV (As := [.int x2, .int x7]) (rest := []) X gC_ok hP hS (ctX2_bearsSaying_23 l D c3 ad w _ x2 x7 _ e_17) (cwV 2 hts gX6_attemptFrom_X2_bearsSaying rfl rfl rfl (by decide +kernel) (by dsimp only [rmX6_attemptFrom, rmX2_bearsSaying_23]; constructor <;> omega)) (gC23 c3 ad w) rfl rfl rfl hl.1 rfl (Nat.le_of_ble_eq_true rfl) dX6_attemptFrom_80) (fun H locs hP hS => ?_)
        refine lv_if_ne (tgt := 89) hx hb dX6_attemptFrom_83 (by decide) (fun c_20 => ?_) (fun c_20 => ?_)
        · replace h := it_n c_20 h
          exact bX6_attemptFrom_89 (x2 := x2) (x3 := x3) (x4 := x4) (x5 := x5) (x6 := x6) (k61 := (fX6_attemptFrom_61 rc x2 x3 x4 x5 x6 n)) X hret hrc ih x7 w _ _ _ hP hS (lv_sub hl [0, 1, 2, 3, 4, 5, 6, 7] rfl) h
        · replace h := it_p c_20 h
          refine lv_goto (tgt := 149) hx hb dX6_attemptFrom_86 (by decide) ?_
          exact bX6_attemptFrom_149 (x2 := x2) (x3 := x3) (x4 := x4) (x5 := x5) (x6 := x6) (k61 := (fX6_attemptFrom_61 rc x2 x3 x4 x5 x6 n)) X hret hrc ih x7 w _ _ _ hP hS (lv_sub hl [0, 1, 2, 3, 4, 5, 6, 7] rfl) h
def fX6_attemptFrom_56 (rc : Int32 → Int32 → Int32 → Int32 → Mm → Option (Int32 × Mm)) (x2 : Int32) (x3 : Int32) (x4 : Int32) (x5 : Int32) (z0 : Int32) (w : Mm) : Option (Int32 × Mm) := fX6_attemptFrom_61 rc x2 x3 x4 x5 z0 FU (-1) w
set_option maxRecDepth 20000 in
theorem bX6_attemptFrom_56 {p : Program} {l : Launch} {e : Env} {s : State} {m : MethodId} {args : Array Value} {below : List Frame} {meth : Method} {c : Code} {Q : State → Prop} {D : va_G} {c3 : C3} {ad : Nat → Nat} {A : Nat → Prop} {r : Int32} {w' : Mm} {fR lR : Nat} {rc : Int32 → Int32 → Int32 → Int32 → Mm → Option (Int32 × Mm)} (X : Cx p s m args c cX6_attemptFrom 11 RX6 wsX6_attemptFrom D c3 (encC c3 ad) gC A) (hret : Rz p l e (rmX6_attemptFrom fR lR) s m args below meth c Q cX6_attemptFrom D (encC c3 ad) A r w') (hrc : ∀ (a0 a1 a2 a3 : Int32) (v : Mm) (sz : Nat) (r2 : Int32) (v2 : Mm), rc a0 a1 a2 a3 v = some (r2, v2) → Ci l yX6_attemptFrom wsX6_attemptFrom (mkR fR lR) D c3 (encC c3 ad) gC [.ref (ad 39), .ref (ad 23), .int a0, .int a1, .int a2, .int a3] v sz r2 v2) : ∀ (x2 : Int32) (x3 : Int32) (x4 : Int32) (x5 : Int32) (z0 : Int32) (w : Mm) (H : Heap) (locs : List Loc) (ls : Array Slot), va_P D vwCl ((encC c3 ad) w) H → va_S A s.heap H locs → lv_has ls 11 [(0, .ref (ad 39)), (1, .ref (ad 23)), (2, .int x2), (3, .int x3), (4, .int x4), (5, .int x5)] → fX6_attemptFrom_56 rc x2 x3 x4 x5 z0 w = some (r, w') → W p l e (rmX6_attemptFrom fR lR) s m args below meth c H locs 0 0 Q (F0 m 56 ls [.int z0]) := by
  have hx := X.1
  have hb := X.2.1
  have hml := X.2.2.1
  have hown := X.2.2.2.1
  have hts := X.2.2.2.2.1
  intro x2 x3 x4 x5 z0 w H locs ls hP hS hl h
  unfold fX6_attemptFrom_56 at h
  refine lv_istore (lv' := [(6, .int z0), (0, .ref (ad 39)), (1, .ref (ad 23)), (2, .int x2), (3, .int x3), (4, .int x4), (5, .int x5)]) hx hb dX6_attemptFrom_56 hl (by decide) rfl (fun ls hl => ?_)
  refine lv_iconst (v := (-1)) hx hb dX6_attemptFrom_58 (by decide) ?_
  refine lv_istore (lv' := [(7, .int (-1)), (6, .int z0), (0, .ref (ad 39)), (1, .ref (ad 23)), (2, .int x2), (3, .int x3), (4, .int x4), (5, .int x5)]) hx hb dX6_attemptFrom_59 hl (by decide) rfl (fun ls hl => ?_)
  exact bX6_attemptFrom_61 X hret hrc x2 x3 x4 x5 z0 FU (-1) w _ _ _ hP hS (lv_sub hl [2, 3, 4, 5, 6, 7, 1, 0] rfl) h
def fX6_attemptFrom_11 (rc : Int32 → Int32 → Int32 → Int32 → Mm → Option (Int32 × Mm)) (x5 : Int32) (w : Mm) : Option (Int32 × Mm) := (if x5 = 0 then bd (fX6_noteEnd w) (fun r_23 w_24 => gd (r_23 = 0 ∨ r_23 = 1) (some (r_23, w_24))) else (if (w.1 23 8) = 7 then some (1, w) else some (0, w)))
set_option maxRecDepth 20000 in
theorem bX6_attemptFrom_11 {p : Program} {l : Launch} {e : Env} {s : State} {m : MethodId} {args : Array Value} {below : List Frame} {meth : Method} {c : Code} {Q : State → Prop} {D : va_G} {c3 : C3} {ad : Nat → Nat} {A : Nat → Prop} {r : Int32} {w' : Mm} {fR lR : Nat} {rc : Int32 → Int32 → Int32 → Int32 → Mm → Option (Int32 × Mm)} (X : Cx p s m args c cX6_attemptFrom 11 RX6 wsX6_attemptFrom D c3 (encC c3 ad) gC A) (hret : Rz p l e (rmX6_attemptFrom fR lR) s m args below meth c Q cX6_attemptFrom D (encC c3 ad) A r w') (hrc : ∀ (a0 a1 a2 a3 : Int32) (v : Mm) (sz : Nat) (r2 : Int32) (v2 : Mm), rc a0 a1 a2 a3 v = some (r2, v2) → Ci l yX6_attemptFrom wsX6_attemptFrom (mkR fR lR) D c3 (encC c3 ad) gC [.ref (ad 39), .ref (ad 23), .int a0, .int a1, .int a2, .int a3] v sz r2 v2) : ∀ (x5 : Int32) (w : Mm) (H : Heap) (locs : List Loc) (ls : Array Slot), va_P D vwCl ((encC c3 ad) w) H → va_S A s.heap H locs → lv_has ls 11 [(0, .ref (ad 39)), (1, .ref (ad 23)), (5, .int x5)] → fX6_attemptFrom_11 rc x5 w = some (r, w') → W p l e (rmX6_attemptFrom fR lR) s m args below meth c H locs 0 0 Q (F0 m 11 ls []) := by
  have hx := X.1
  have hb := X.2.1
  have hml := X.2.2.1
  have hown := X.2.2.2.1
  have hts := X.2.2.2.2.1
  intro x5 w H locs ls hP hS hl h
  unfold fX6_attemptFrom_11 at h
  refine lv_iload hx hb dX6_attemptFrom_11 (lv_at hl 2 rfl) ?_
  refine lv_if_eq (tgt := 33) hx hb dX6_attemptFrom_13 (by decide) (fun c_21 => ?_) (fun c_21 => ?_)
  · replace h := it_p c_21 h
    refine lv_aload_n hx hb dX6_attemptFrom_33 rfl (lv_at hl 0 rfl) ?_
    refine lv_aload_n hx hb dX6_attemptFrom_34 rfl (lv_at hl 1 rfl) ?_
    obtain ⟨r_23, w_24, e_22, h⟩ := bd_s h
    refine x_goi X hS (x_runV (As := [.ref (ad 23)]) (rest := []) X gC_ok hP hS (ctX6_noteEnd l D c3 ad w _ _ _ e_22) (cwV 1 hts gX6_attemptFrom_X6_noteEnd rfl rfl rfl (by decide +kernel) (by dsimp only [rmX6_attemptFrom, rmX6_noteEnd]; constructor <;> omega)) (gC39 c3 ad w) rfl rfl rfl hl.1 rfl (Nat.le_of_ble_eq_true rfl) dX6_attemptFrom_35) (fun H locs hP hS => ?_)
    obtain ⟨g_25, h⟩ := gd_s h
    obtain ⟨rfl, rfl⟩ := Prod.mk.inj (Option.some.inj h)
    exact hret g_25 _ _ _ _ hP hS dX6_attemptFrom_38
  · replace h := it_n c_21 h
    refine lv_aload_n hx hb dX6_attemptFrom_16 rfl (lv_at hl 1 rfl) ?_
    refine x_get (rest := []) X hP (gC23 c3 ad w) rfl iwX6_attemptFrom_X2 8 (by decide) lkX6_attemptFrom_30 rfl dX6_attemptFrom_17 ?_
    refine lv_bipush (v := 7) hx hb dX6_attemptFrom_20 (by decide) ?_
    refine lv_icmp_ne (tgt := 29) hx hb dX6_attemptFrom_22 (by decide) (fun c_26 => ?_) (fun c_26 => ?_)
    · replace h := it_n c_26 h
      refine lv_iconst (v := 0) hx hb dX6_attemptFrom_29 (by decide) ?_
      refine lv_goto (tgt := 38) hx hb dX6_attemptFrom_30 (by decide) ?_
      obtain ⟨rfl, rfl⟩ := Prod.mk.inj (Option.some.inj h)
      exact hret (Or.inl rfl) _ _ _ _ hP hS dX6_attemptFrom_38
    · replace h := it_p c_26 h
      refine lv_iconst (v := 1) hx hb dX6_attemptFrom_25 (by decide) ?_
      refine lv_goto (tgt := 38) hx hb dX6_attemptFrom_26 (by decide) ?_
      obtain ⟨rfl, rfl⟩ := Prod.mk.inj (Option.some.inj h)
      exact hret (Or.inr rfl) _ _ _ _ hP hS dX6_attemptFrom_38
def fX6_attemptFrom_E (rc : Int32 → Int32 → Int32 → Int32 → Mm → Option (Int32 × Mm)) (x2 : Int32) (x3 : Int32) (x4 : Int32) (x5 : Int32) (w : Mm) : Option (Int32 × Mm) := (if x4 ≤ x3 then fX6_attemptFrom_11 rc x5 w else (if x3 < 5 then (if (w.1 23 0) ≤ (x2 + 1) then fX6_attemptFrom_56 rc x2 x3 x4 x5 0 w else fX6_attemptFrom_56 rc x2 x3 x4 x5 (x2 + 1) w) else fX6_attemptFrom_11 rc x5 w))
set_option maxRecDepth 20000 in
theorem bX6_attemptFrom_E {p : Program} {l : Launch} {e : Env} {s : State} {m : MethodId} {args : Array Value} {below : List Frame} {meth : Method} {c : Code} {Q : State → Prop} {D : va_G} {c3 : C3} {ad : Nat → Nat} {A : Nat → Prop} {r : Int32} {w' : Mm} {fR lR : Nat} {rc : Int32 → Int32 → Int32 → Int32 → Mm → Option (Int32 × Mm)} (X : Cx p s m args c cX6_attemptFrom 11 RX6 wsX6_attemptFrom D c3 (encC c3 ad) gC A) (hret : Rz p l e (rmX6_attemptFrom fR lR) s m args below meth c Q cX6_attemptFrom D (encC c3 ad) A r w') (hrc : ∀ (a0 a1 a2 a3 : Int32) (v : Mm) (sz : Nat) (r2 : Int32) (v2 : Mm), rc a0 a1 a2 a3 v = some (r2, v2) → Ci l yX6_attemptFrom wsX6_attemptFrom (mkR fR lR) D c3 (encC c3 ad) gC [.ref (ad 39), .ref (ad 23), .int a0, .int a1, .int a2, .int a3] v sz r2 v2) : ∀ (x2 : Int32) (x3 : Int32) (x4 : Int32) (x5 : Int32) (w : Mm) (H : Heap) (locs : List Loc) (ls : Array Slot), va_P D vwCl ((encC c3 ad) w) H → va_S A s.heap H locs → lv_has ls 11 [(0, .ref (ad 39)), (1, .ref (ad 23)), (2, .int x2), (3, .int x3), (4, .int x4), (5, .int x5)] → fX6_attemptFrom_E rc x2 x3 x4 x5 w = some (r, w') → W p l e (rmX6_attemptFrom fR lR) s m args below meth c H locs 0 0 Q (F0 m 0 ls []) := by
  have hx := X.1
  have hb := X.2.1
  have hml := X.2.2.1
  have hown := X.2.2.2.1
  have hts := X.2.2.2.2.1
  intro x2 x3 x4 x5 w H locs ls hP hS hl h
  unfold fX6_attemptFrom_E at h
  refine lv_iload_n hx hb dX6_attemptFrom_0 rfl (lv_at hl 3 rfl) ?_
  refine lv_iload hx hb dX6_attemptFrom_1 (lv_at hl 4 rfl) ?_
  refine lv_icmp_ge (tgt := 11) hx hb dX6_attemptFrom_3 (by decide) (fun c_27 => ?_) (fun c_27 => ?_)
  · replace h := it_p c_27 h
    exact bX6_attemptFrom_11 X hret hrc x5 w _ _ _ hP hS (lv_sub hl [0, 1, 5] rfl) h
  · replace h := it_n c_27 h
    refine lv_iload_n hx hb dX6_attemptFrom_6 rfl (lv_at hl 3 rfl) ?_
    refine lv_iconst (v := 5) hx hb dX6_attemptFrom_7 (by decide) ?_
    refine lv_icmp_lt (tgt := 39) hx hb dX6_attemptFrom_8 (by decide) (fun c_28 => ?_) (fun c_28 => ?_)
    · replace h := it_p c_28 h
      refine lv_iload_n hx hb dX6_attemptFrom_39 rfl (lv_at hl 2 rfl) ?_
      refine lv_iconst (v := 1) hx hb dX6_attemptFrom_40 (by decide) ?_
      refine lv_iadd hx hb dX6_attemptFrom_41 ?_
      refine lv_aload_n hx hb dX6_attemptFrom_42 rfl (lv_at hl 1 rfl) ?_
      refine x_get (rest := [.int (x2 + 1)]) X hP (gC23 c3 ad w) rfl iwX6_attemptFrom_X2 0 (by decide) lkX6_attemptFrom_39 rfl dX6_attemptFrom_43 ?_
      refine lv_icmp_ge (tgt := 55) hx hb dX6_attemptFrom_46 (by decide) (fun c_29 => ?_) (fun c_29 => ?_)
      · replace h := it_p c_29 h
        refine lv_iconst (v := 0) hx hb dX6_attemptFrom_55 (by decide) ?_
        exact bX6_attemptFrom_56 X hret hrc x2 x3 x4 x5 0 w _ _ _ hP hS (lv_sub hl [0, 1, 2, 3, 4, 5] rfl) h
      · replace h := it_n c_29 h
        refine lv_iload_n hx hb dX6_attemptFrom_49 rfl (lv_at hl 2 rfl) ?_
        refine lv_iconst (v := 1) hx hb dX6_attemptFrom_50 (by decide) ?_
        refine lv_iadd hx hb dX6_attemptFrom_51 ?_
        refine lv_goto (tgt := 56) hx hb dX6_attemptFrom_52 (by decide) ?_
        exact bX6_attemptFrom_56 X hret hrc x2 x3 x4 x5 (x2 + 1) w _ _ _ hP hS (lv_sub hl [0, 1, 2, 3, 4, 5] rfl) h
    · replace h := it_n c_28 h
      exact bX6_attemptFrom_11 X hret hrc x5 w _ _ _ hP hS (lv_sub hl [0, 1, 5] rfl) h
theorem ctX6_attemptFrom_S (l : Launch) (D : va_G) (c3 : C3) (ad : Nat → Nat) (w : Mm) (sz : Nat) {fR lR : Nat} {rc : Int32 → Int32 → Int32 → Int32 → Mm → Option (Int32 × Mm)} (hrc : ∀ (a0 a1 a2 a3 : Int32) (v : Mm) (sz : Nat) (r2 : Int32) (v2 : Mm), rc a0 a1 a2 a3 v = some (r2, v2) → Ci l yX6_attemptFrom wsX6_attemptFrom (mkR fR lR) D c3 (encC c3 ad) gC [.ref (ad 39), .ref (ad 23), .int a0, .int a1, .int a2, .int a3] v sz r2 v2) (x2 : Int32) (x3 : Int32) (x4 : Int32) (x5 : Int32) (r : Int32) (w' : Mm) (h : fX6_attemptFrom_E rc x2 x3 x4 x5 w = some (r, w')) : Ci l yX6_attemptFrom wsX6_attemptFrom (rmX6_attemptFrom fR lR) D c3 (encC c3 ad) gC [.ref (ad 39), .ref (ad 23), .int x2, .int x3, .int x4, .int x5] w sz r w' := by
  refine Ci.ofz (cc := cX6_attemptFrom) (maxL := 11) (encC_ok c3 ad) (by decide) rfl (Nat.le_of_ble_eq_true rfl) ?_
  intro p e s m below meth c A Q ls X hret hP hS hl
  exact bX6_attemptFrom_E X hret hrc x2 x3 x4 x5 w _ _ ls hP hS hl h
def fX6_attemptFrom : Nat → Int32 → Int32 → Int32 → Int32 → Mm → Option (Int32 × Mm)
  | 0, _, _, _, _, _ => none
  | d + 1, x2, x3, x4, x5, w => fX6_attemptFrom_E (fX6_attemptFrom d) x2 x3 x4 x5 w
theorem ctX6_attemptFrom (l : Launch) (D : va_G) (c3 : C3) (ad : Nat → Nat) (w : Mm) (sz : Nat) (d : Nat) (x2 : Int32) (x3 : Int32) (x4 : Int32) (x5 : Int32) (r : Int32) (w' : Mm) (h : fX6_attemptFrom d x2 x3 x4 x5 w = some (r, w')) : Ci l yX6_attemptFrom wsX6_attemptFrom (mkR (5 * d) (109 * d)) D c3 (encC c3 ad) gC [.ref (ad 39), .ref (ad 23), .int x2, .int x3, .int x4, .int x5] w sz r w' := by
  induction d generalizing w sz x2 x3 x4 x5 r w' with
  | zero => exact absurd h (by simp [fX6_attemptFrom])
  | succ d ih =>
    rw [fX6_attemptFrom] at h
    exact ctX6_attemptFrom_S (fR := 5 * d) (lR := 109 * d) (rc := fX6_attemptFrom d) l D c3 ad w sz (fun a0 a1 a2 a3 v sz r2 v2 h2 => ih v sz a0 a1 a2 a3 r2 v2 h2) x2 x3 x4 x5 r w' h
def rmX6_findFirst : Room := { frames := 51, cells := 0, slots := 0, locals := 1120 }
def fX6_findFirst_E (x2 : Int32) (x3 : Int32) (w : Mm) : Option (Int32 × Mm) := bd (fX6_attemptFrom DEP x2 0 x3 1 w) (fun r_2 w_3 => gd (r_2 = 0 ∨ r_2 = 1) (some (r_2, w_3)))
set_option maxRecDepth 20000 in
theorem bX6_findFirst_E {p : Program} {l : Launch} {e : Env} {s : State} {m : MethodId} {args : Array Value} {below : List Frame} {meth : Method} {c : Code} {Q : State → Prop} {D : va_G} {c3 : C3} {ad : Nat → Nat} {A : Nat → Prop} {r : Int32} {w' : Mm} (X : Cx p s m args c cX6_findFirst 4 RX6 wsX6_findFirst D c3 (encC c3 ad) gC A) (hret : Rz p l e (rmX6_findFirst) s m args below meth c Q cX6_findFirst D (encC c3 ad) A r w') : ∀ (x2 : Int32) (x3 : Int32) (w : Mm) (H : Heap) (locs : List Loc) (ls : Array Slot), va_P D vwCl ((encC c3 ad) w) H → va_S A s.heap H locs → lv_has ls 4 [(0, .ref (ad 39)), (1, .ref (ad 23)), (2, .int x2), (3, .int x3)] → fX6_findFirst_E x2 x3 w = some (r, w') → W p l e (rmX6_findFirst) s m args below meth c H locs 0 0 Q (F0 m 0 ls []) := by
  have hx := X.1
  have hb := X.2.1
  have hml := X.2.2.1
  have hown := X.2.2.2.1
  have hts := X.2.2.2.2.1
  intro x2 x3 w H locs ls hP hS hl h
  unfold fX6_findFirst_E at h
  refine lv_aload_n hx hb dX6_findFirst_0 rfl (lv_at hl 0 rfl) ?_
  refine lv_aload_n hx hb dX6_findFirst_1 rfl (lv_at hl 1 rfl) ?_
  refine lv_iload_n hx hb dX6_findFirst_2 rfl (lv_at hl 2 rfl) ?_
  refine lv_iconst (v := 0) hx hb dX6_findFirst_3 (by decide) ?_
  refine lv_iload_n hx hb dX6_findFirst_4 rfl (lv_at hl 3 rfl) ?_
  refine lv_iconst (v := 1) hx hb dX6_findFirst_5 (by decide) ?_
  obtain ⟨r_2, w_3, e_1, h⟩ := bd_s h
  refine x_goi X hS (x_runV (As := [.ref (ad 23), .int x2, .int 0, .int x3, .int 1]) (rest := []) X gC_ok hP hS (ctX6_attemptFrom l D c3 ad w _ DEP x2 0 x3 1 _ _ e_1) (cwV 5 hts gX6_findFirst_X6_attemptFrom rfl rfl rfl (by decide +kernel) (by decide)) (gC39 c3 ad w) rfl rfl rfl hl.1 rfl (Nat.le_of_ble_eq_true rfl) dX6_findFirst_6) (fun H locs hP hS => ?_)
  obtain ⟨g_4, h⟩ := gd_s h
  obtain ⟨rfl, rfl⟩ := Prod.mk.inj (Option.some.inj h)
  exact hret g_4 _ _ _ _ hP hS dX6_findFirst_9
def fX6_findFirst (x2 : Int32) (x3 : Int32) (w : Mm) : Option (Int32 × Mm) := fX6_findFirst_E x2 x3 w
theorem ctX6_findFirst (l : Launch) (D : va_G) (c3 : C3) (ad : Nat → Nat) (w : Mm) (sz : Nat) (x2 : Int32) (x3 : Int32) (r : Int32) (w' : Mm) (h : fX6_findFirst x2 x3 w = some (r, w')) : Ci l yX6_findFirst wsX6_findFirst rmX6_findFirst D c3 (encC c3 ad) gC [.ref (ad 39), .ref (ad 23), .int x2, .int x3] w sz r w' := by
  refine Ci.ofz (cc := cX6_findFirst) (maxL := 4) (encC_ok c3 ad) (by decide) rfl (Nat.le_of_ble_eq_true rfl) ?_
  intro p e s m below meth c A Q ls X hret hP hS hl
  exact bX6_findFirst_E X hret x2 x3 w _ _ ls hP hS hl h
theorem iwX7_settle_X5 : ∀ w ∈ wsX50, w ∈ wsX7_settle := fun _ h => List.mem_cons_of_mem _ (List.mem_append_left _ (List.mem_append_left _ (List.mem_append_right _ h)))
theorem iwX7_settle_X6 : ∀ w ∈ wsX60, w ∈ wsX7_settle := fun _ h => List.mem_cons_of_mem _ (List.mem_append_left _ (List.mem_append_right _ h))
theorem iwX7_settle_X7 : ∀ w ∈ wsX70, w ∈ wsX7_settle := fun _ h => List.mem_cons_of_mem _ (List.mem_append_left _ (List.mem_append_left _ (List.mem_append_left _ (List.mem_append_right _ h))))
theorem lkX7_settle_14 : Cond.fieldLink RX7 14 "StuckDoor" "ints" "LStuckDoor$Rows;" ∈ wsX7_settle := by decide +kernel
theorem lkX7_settle_27 : Cond.fieldLink RX7 27 "StuckDoor" "family" "LStuckDoor$Family;" ∈ wsX7_settle := by decide +kernel
theorem lkX7_settle_41 : Cond.fieldLink RX7 41 "StuckDoor" "turns" "LStuckDoor$Turns;" ∈ wsX7_settle := by decide +kernel
theorem lkX7_settle_86 : Cond.fieldLink RX7 86 "StuckDoor$Rows" "places" "[[I" ∈ wsX7_settle := by decide +kernel
theorem lkX7_settle_203 : Cond.fieldLink RX7 203 "StuckDoor$Turns" "trial" "[I" ∈ wsX7_settle := by decide +kernel
def rmX7_settle : Room := { frames := 52, cells := 0, slots := 0, locals := 1143 }
def fX7_settle_129 (k83 : Int32 → Mm → Option (Int32 × Mm)) (x2 : Int32) (x3 : Int32) (x4 : Int32) (z0 : Int32) (z1 : Int32) (p2 : Nat) (w : Mm) : Option (Int32 × Mm) := gd (4 ≤ p2 ∧ p2 < 10) (gd (inb z1 40 = true) (nm (sA w p2 z1.toNatClampNeg z0) (fun w_3 => k83 (x4 + 1) w_3)))
set_option maxRecDepth 20000 in
theorem bX7_settle_129 {p : Program} {l : Launch} {e : Env} {s : State} {m : MethodId} {args : Array Value} {below : List Frame} {meth : Method} {c : Code} {Q : State → Prop} {D : va_G} {c3 : C3} {ad : Nat → Nat} {A : Nat → Prop} {r : Int32} {w' : Mm} (X : Cx p s m args c cX7_settle 5 RX7 wsX7_settle D c3 (encC c3 ad) gC A) (hret : Ri p l e (rmX7_settle) s m args below meth c Q cX7_settle D (encC c3 ad) A r w') {x2 : Int32} {x3 : Int32} {k83 : Int32 → Mm → Option (Int32 × Mm)} (hk83 : ∀ (x4 : Int32) (w : Mm) (H : Heap) (locs : List Loc) (ls : Array Slot), va_P D vwCl ((encC c3 ad) w) H → va_S A s.heap H locs → lv_has ls 5 [(0, .ref (ad 0)), (2, .int x2), (3, .int x3), (4, .int x4)] → k83 x4 w = some (r, w') → W p l e (rmX7_settle) s m args below meth c H locs 0 0 Q (F0 m 83 ls [])) : ∀ (x4 : Int32) (z0 : Int32) (z1 : Int32) (p2 : Nat) (w : Mm) (H : Heap) (locs : List Loc) (ls : Array Slot), va_P D vwCl ((encC c3 ad) w) H → va_S A s.heap H locs → lv_has ls 5 [(0, .ref (ad 0)), (2, .int x2), (3, .int x3), (4, .int x4)] → fX7_settle_129 k83 x2 x3 x4 z0 z1 p2 w = some (r, w') → W p l e (rmX7_settle) s m args below meth c H locs 0 0 Q (F0 m 129 ls [.int z0, .int z1, .ref (ad p2)]) := by
  have hx := X.1
  have hb := X.2.1
  have hml := X.2.2.1
  have hown := X.2.2.2.1
  have hts := X.2.2.2.2.1
  intro x4 z0 z1 p2 w H locs ls hP hS hl h
  unfold fX7_settle_129 at h
  obtain ⟨g_1, h⟩ := gd_s h
  obtain ⟨g_2, h⟩ := gd_s h
  refine x_iast X hP hS (gCrI c3 ad w g_1) (sCrI c3 ad w g_1 _ _) g_2 dX7_settle_129 (fun H locs hP hS => ?_)
  refine x_nmw h hP (fun w_3 h hP => ?_)
  refine lv_iinc (v := (x4 + 1)) (lv' := [(4, .int (x4 + 1)), (0, .ref (ad 0)), (2, .int x2), (3, .int x3)]) hx hb dX7_settle_130 hl (k := 3) rfl rfl (by decide) rfl (fun ls hl => ?_)
  refine lv_goto (tgt := 83) hx hb dX7_settle_133 (by decide) ?_
  exact hk83 (x4 + 1) w_3 _ _ _ hP hS (lv_sub hl [1, 2, 3, 0] rfl) h
def fX7_settle_83 (x2 : Int32) (x3 : Int32) : Nat → Int32 → Mm → Option (Int32 × Mm)
  | 0, _, _ => none
  | n + 1, x4, w => (if x3 ≤ x4 then some (x3, w) else gd (inb x2 6 = true) (gd (inb x4 5 = true) ((if (w.1 40 x4.toNatClampNeg) = (-1) then fX7_settle_129 (fX7_settle_83 x2 x3 n) x2 x3 x4 (-9) x4 (4 + x2.toNatClampNeg) w else fX7_settle_129 (fX7_settle_83 x2 x3 n) x2 x3 x4 (w.1 40 x4.toNatClampNeg) x4 (4 + x2.toNatClampNeg) w))))
set_option maxRecDepth 20000 in
theorem bX7_settle_83 {p : Program} {l : Launch} {e : Env} {s : State} {m : MethodId} {args : Array Value} {below : List Frame} {meth : Method} {c : Code} {Q : State → Prop} {D : va_G} {c3 : C3} {ad : Nat → Nat} {A : Nat → Prop} {r : Int32} {w' : Mm} (X : Cx p s m args c cX7_settle 5 RX7 wsX7_settle D c3 (encC c3 ad) gC A) (hret : Ri p l e (rmX7_settle) s m args below meth c Q cX7_settle D (encC c3 ad) A r w') : ∀ (x2 : Int32) (x3 : Int32) (n : Nat) (x4 : Int32) (w : Mm) (H : Heap) (locs : List Loc) (ls : Array Slot), va_P D vwCl ((encC c3 ad) w) H → va_S A s.heap H locs → lv_has ls 5 [(0, .ref (ad 0)), (2, .int x2), (3, .int x3), (4, .int x4)] → fX7_settle_83 x2 x3 n x4 w = some (r, w') → W p l e (rmX7_settle) s m args below meth c H locs 0 0 Q (F0 m 83 ls []) := by
  have hx := X.1
  have hb := X.2.1
  have hml := X.2.2.1
  have hown := X.2.2.2.1
  have hts := X.2.2.2.2.1
  intro x2 x3 n
  induction n with
  | zero =>
    intro x4 w H locs ls hP hS hl h
    exact absurd h (by simp [fX7_settle_83])
  | succ n ih =>
    intro x4 w H locs ls hP hS hl h
    rw [fX7_settle_83] at h
    refine lv_iload hx hb dX7_settle_83 (lv_at hl 3 rfl) ?_
    refine lv_iload_n hx hb dX7_settle_85 rfl (lv_at hl 2 rfl) ?_
    refine lv_icmp_ge (tgt := 136) hx hb dX7_settle_86 (by decide) (fun c_4 => ?_) (fun c_4 => ?_)
    · replace h := it_p c_4 h
      refine lv_iload_n hx hb dX7_settle_136 rfl (lv_at hl 2 rfl) ?_
      obtain ⟨rfl, rfl⟩ := Prod.mk.inj (Option.some.inj h)
      exact hret _ _ _ _ hP hS dX7_settle_137
    · replace h := it_n c_4 h
      refine lv_aload_n hx hb dX7_settle_89 rfl (lv_at hl 0 rfl) ?_
      refine x_get (rest := []) X hP (gC0 c3 ad w) rfl iwX7_settle_X7 0 (by decide) lkX7_settle_14 rfl dX7_settle_90 ?_
      refine x_get (rest := []) X hP (gC1 c3 ad w) rfl iwX7_settle_X5 0 (by decide) lkX7_settle_86 rfl dX7_settle_93 ?_
      refine lv_iload_n hx hb dX7_settle_96 rfl (lv_at hl 1 rfl) ?_
      obtain ⟨g_5, h⟩ := gd_s h
      have q_6 := rgn 4 g_5
      refine x_aald (z := ad (4 + x2.toNatClampNeg)) X hP (gC2 c3 ad w) g_5 rfl dX7_settle_97 ?_
      refine lv_iload hx hb dX7_settle_98 (lv_at hl 3 rfl) ?_
      refine lv_aload_n hx hb dX7_settle_100 rfl (lv_at hl 0 rfl) ?_
      refine x_get (rest := [.int x4, .ref (ad (4 + x2.toNatClampNeg))]) X hP (gC0 c3 ad w) rfl iwX7_settle_X7 5 (by decide) lkX7_settle_41 rfl dX7_settle_101 ?_
      refine x_get (rest := [.int x4, .ref (ad (4 + x2.toNatClampNeg))]) X hP (gC39 c3 ad w) rfl iwX7_settle_X6 0 (by decide) lkX7_settle_203 rfl dX7_settle_104 ?_
      refine lv_iload hx hb dX7_settle_107 (lv_at hl 3 rfl) ?_
      obtain ⟨g_7, h⟩ := gd_s h
      refine x_iald X hP (gC40 c3 ad w) g_7 dX7_settle_109 ?_
      refine lv_iconst (v := (-1)) hx hb dX7_settle_110 (by decide) ?_
      refine lv_icmp_ne (tgt := 119) hx hb dX7_settle_111 (by decide) (fun c_8 => ?_) (fun c_8 => ?_)
      · replace h := it_n c_8 h
        refine lv_aload_n hx hb dX7_settle_119 rfl (lv_at hl 0 rfl) ?_
        refine x_get (rest := [.int x4, .ref (ad (4 + x2.toNatClampNeg))]) X hP (gC0 c3 ad w) rfl iwX7_settle_X7 5 (by decide) lkX7_settle_41 rfl dX7_settle_120 ?_
        refine x_get (rest := [.int x4, .ref (ad (4 + x2.toNatClampNeg))]) X hP (gC39 c3 ad w) rfl iwX7_settle_X6 0 (by decide) lkX7_settle_203 rfl dX7_settle_123 ?_
        refine lv_iload hx hb dX7_settle_126 (lv_at hl 3 rfl) ?_
        refine x_iald X hP (gC40 c3 ad w) g_7 dX7_settle_128 ?_
        exact bX7_settle_129 (x2 := x2) (x3 := x3) (k83 := (fX7_settle_83 x2 x3 n)) X hret ih x4 (w.1 40 x4.toNatClampNeg) x4 (4 + x2.toNatClampNeg) w _ _ _ hP hS (lv_sub hl [0, 1, 2, 3] rfl) h
      · replace h := it_p c_8 h
        refine lv_bipush (v := (-9)) hx hb dX7_settle_114 (by decide) ?_
        refine lv_goto (tgt := 129) hx hb dX7_settle_116 (by decide) ?_
        exact bX7_settle_129 (x2 := x2) (x3 := x3) (k83 := (fX7_settle_83 x2 x3 n)) X hret ih x4 (-9) x4 (4 + x2.toNatClampNeg) w _ _ _ hP hS (lv_sub hl [0, 1, 2, 3] rfl) h
def fX7_settle_49 (x1 : Int32) (x2 : Int32) : Nat → Int32 → Mm → Option (Int32 × Mm)
  | 0, _, _ => none
  | n + 1, x3, w => (if 5 < x3 then some ((-9), w) else bd (fX6_findFirst x1 x3 w) (fun r_11 w_12 => (if r_11 = 0 then fX7_settle_49 x1 x2 n (x3 + 1) w_12 else bo (fX5_make_1 x2 x3 0 w_12) (fun w_16 => fX7_settle_83 x2 x3 FU 0 w_16))))
set_option maxRecDepth 20000 in
theorem bX7_settle_49 {p : Program} {l : Launch} {e : Env} {s : State} {m : MethodId} {args : Array Value} {below : List Frame} {meth : Method} {c : Code} {Q : State → Prop} {D : va_G} {c3 : C3} {ad : Nat → Nat} {A : Nat → Prop} {r : Int32} {w' : Mm} (X : Cx p s m args c cX7_settle 5 RX7 wsX7_settle D c3 (encC c3 ad) gC A) (hret : Ri p l e (rmX7_settle) s m args below meth c Q cX7_settle D (encC c3 ad) A r w') : ∀ (x1 : Int32) (x2 : Int32) (n : Nat) (x3 : Int32) (w : Mm) (H : Heap) (locs : List Loc) (ls : Array Slot), va_P D vwCl ((encC c3 ad) w) H → va_S A s.heap H locs → lv_has ls 5 [(0, .ref (ad 0)), (1, .int x1), (2, .int x2), (3, .int x3)] → fX7_settle_49 x1 x2 n x3 w = some (r, w') → W p l e (rmX7_settle) s m args below meth c H locs 0 0 Q (F0 m 49 ls []) := by
  have hx := X.1
  have hb := X.2.1
  have hml := X.2.2.1
  have hown := X.2.2.2.1
  have hts := X.2.2.2.2.1
  intro x1 x2 n
  induction n with
  | zero =>
    intro x3 w H locs ls hP hS hl h
    exact absurd h (by simp [fX7_settle_49])
  | succ n ih =>
    intro x3 w H locs ls hP hS hl h
    rw [fX7_settle_49] at h
    refine lv_iload_n hx hb dX7_settle_49 rfl (lv_at hl 3 rfl) ?_
    refine lv_iconst (v := 5) hx hb dX7_settle_50 (by decide) ?_
    refine lv_icmp_gt (tgt := 144) hx hb dX7_settle_51 (by decide) (fun c_9 => ?_) (fun c_9 => ?_)
    · replace h := it_p c_9 h
      refine lv_bipush (v := (-9)) hx hb dX7_settle_144 (by decide) ?_
      obtain ⟨rfl, rfl⟩ := Prod.mk.inj (Option.some.inj h)
      exact hret _ _ _ _ hP hS dX7_settle_146
    · replace h := it_n c_9 h
      refine lv_aload_n hx hb dX7_settle_54 rfl (lv_at hl 0 rfl) ?_
      refine x_get (rest := []) X hP (gC0 c3 ad w) rfl iwX7_settle_X7 5 (by decide) lkX7_settle_41 rfl dX7_settle_55 ?_
      refine lv_aload_n hx hb dX7_settle_58 rfl (lv_at hl 0 rfl) ?_
      refine x_get (rest := [.ref (ad 39)]) X hP (gC0 c3 ad w) rfl iwX7_settle_X7 3 (by decide) lkX7_settle_27 rfl dX7_settle_59 ?_
      refine lv_iload_n hx hb dX7_settle_62 rfl (lv_at hl 1 rfl) ?_
      refine lv_iload_n hx hb dX7_settle_63 rfl (lv_at hl 3 rfl) ?_
      obtain ⟨r_11, w_12, e_10, h⟩ := bd_s h
      refine x_goi X hS (x_runV (As := [.ref (ad 23), .int x1, .int x3]) (rest := []) X gC_ok hP hS (ctX6_findFirst l D c3 ad w _ x1 x3 _ _ e_10) (cwV 3 hts gX7_settle_X6_findFirst rfl rfl rfl (by decide +kernel) ⟨by decide, by decide⟩) (gC39 c3 ad w) rfl rfl rfl hl.1 rfl (Nat.le_of_ble_eq_true rfl) dX7_settle_64) (fun H locs hP hS => ?_)
      refine lv_if_eq (tgt := 138) hx hb dX7_settle_67 (by decide) (fun c_13 => ?_) (fun c_13 => ?_)
      · replace h := it_p c_13 h
        refine lv_iinc (v := (x3 + 1)) (lv' := [(3, .int (x3 + 1)), (0, .ref (ad 0)), (1, .int x1), (2, .int x2)]) hx hb dX7_settle_138 hl (k := 3) rfl rfl (by decide) rfl (fun ls hl => ?_)
        refine lv_goto (tgt := 49) hx hb dX7_settle_141 (by decide) ?_
        exact ih (x3 + 1) w_12 _ _ _ hP hS (lv_sub hl [1, 2, 3, 0] rfl) h
      · replace h := it_n c_13 h
        refine lv_aload_n hx hb dX7_settle_70 rfl (lv_at hl 0 rfl) ?_
        refine x_get (rest := []) X hP (gC0 c3 ad w_12) rfl iwX7_settle_X7 0 (by decide) lkX7_settle_14 rfl dX7_settle_71 ?_
        refine lv_iload_n hx hb dX7_settle_74 rfl (lv_at hl 2 rfl) ?_
        refine lv_iload_n hx hb dX7_settle_75 rfl (lv_at hl 3 rfl) ?_
        refine lv_iconst (v := 0) hx hb dX7_settle_76 (by decide) ?_
        obtain ⟨w_16, e_14, h⟩ := bo_s h
        refine x_gov X hS (x_runV (As := [.int x2, .int x3, .int 0]) (rest := []) X gC_ok hP hS (ctX5_make_1 l D c3 ad w_12 _ x2 x3 0 _ e_14) (cwV 3 hts gX7_settle_X5_make rfl rfl rfl (by decide +kernel) ⟨by decide, by decide⟩) (gC1 c3 ad w_12) rfl rfl rfl hl.1 rfl (Nat.le_of_ble_eq_true rfl) dX7_settle_77) (fun H locs hP hS => ?_)
        refine lv_iconst (v := 0) hx hb dX7_settle_80 (by decide) ?_
        refine lv_istore (lv' := [(4, .int 0), (0, .ref (ad 0)), (1, .int x1), (2, .int x2), (3, .int x3)]) hx hb dX7_settle_81 hl (by decide) rfl (fun ls hl => ?_)
        exact bX7_settle_83 X hret x2 x3 FU 0 w_16 _ _ _ hP hS (lv_sub hl [1, 3, 4, 0] rfl) h
def fX7_settle_E (x1 : Int32) (x2 : Int32) (w : Mm) : Option (Int32 × Mm) := bo (fX2_hasPerson_23 x1 w) (fun r_18 => (if r_18 = 0 then some ((-1), w) else bo (fX5_isNumber_1 x2 w) (fun r_22 => (if r_22 = 0 then some ((-1), w) else bo (fX2_isAnyOver_23 w) (fun r_26 => (if r_26 = 0 then bo (fX2_isEmpty_23 w) (fun r_30 => (if r_30 = 0 then fX7_settle_49 x1 x2 FU 0 w else some ((-4), w))) else some ((-4), w)))))))
set_option maxRecDepth 20000 in
theorem bX7_settle_E {p : Program} {l : Launch} {e : Env} {s : State} {m : MethodId} {args : Array Value} {below : List Frame} {meth : Method} {c : Code} {Q : State → Prop} {D : va_G} {c3 : C3} {ad : Nat → Nat} {A : Nat → Prop} {r : Int32} {w' : Mm} (X : Cx p s m args c cX7_settle 5 RX7 wsX7_settle D c3 (encC c3 ad) gC A) (hret : Ri p l e (rmX7_settle) s m args below meth c Q cX7_settle D (encC c3 ad) A r w') : ∀ (x1 : Int32) (x2 : Int32) (w : Mm) (H : Heap) (locs : List Loc) (ls : Array Slot), va_P D vwCl ((encC c3 ad) w) H → va_S A s.heap H locs → lv_has ls 5 [(0, .ref (ad 0)), (1, .int x1), (2, .int x2)] → fX7_settle_E x1 x2 w = some (r, w') → W p l e (rmX7_settle) s m args below meth c H locs 0 0 Q (F0 m 0 ls []) := by
  have hx := X.1
  have hb := X.2.1
  have hml := X.2.2.1
  have hown := X.2.2.2.1
  have hts := X.2.2.2.2.1
  intro x1 x2 w H locs ls hP hS hl h
  unfold fX7_settle_E at h
  refine lv_aload_n hx hb dX7_settle_0 rfl (lv_at hl 0 rfl) ?_
  refine x_get (rest := []) X hP (gC0 c3 ad w) rfl iwX7_settle_X7 3 (by decide) lkX7_settle_27 rfl dX7_settle_1 ?_
  refine lv_iload_n hx hb dX7_settle_4 rfl (lv_at hl 1 rfl) ?_
  obtain ⟨r_18, e_17, h⟩ := bo_s h
  refine x_goi X hS (x_runV (As := [.int x1]) (rest := []) X gC_ok hP hS (ctX2_hasPerson_23 l D c3 ad w _ x1 _ e_17) (cwV 1 hts gX7_settle_X2_hasPerson rfl rfl rfl (by decide +kernel) ⟨by decide, by decide⟩) (gC23 c3 ad w) rfl rfl rfl hl.1 rfl (Nat.le_of_ble_eq_true rfl) dX7_settle_5) (fun H locs hP hS => ?_)
  refine lv_if_eq (tgt := 22) hx hb dX7_settle_8 (by decide) (fun c_20 => ?_) (fun c_20 => ?_)
  · replace h := it_p c_20 h
    refine lv_iconst (v := (-1)) hx hb dX7_settle_22 (by decide) ?_
    obtain ⟨rfl, rfl⟩ := Prod.mk.inj (Option.some.inj h)
    exact hret _ _ _ _ hP hS dX7_settle_23
  · replace h := it_n c_20 h
    refine lv_aload_n hx hb dX7_settle_11 rfl (lv_at hl 0 rfl) ?_
    refine x_get (rest := []) X hP (gC0 c3 ad w) rfl iwX7_settle_X7 0 (by decide) lkX7_settle_14 rfl dX7_settle_12 ?_
    refine lv_iload_n hx hb dX7_settle_15 rfl (lv_at hl 2 rfl) ?_
    obtain ⟨r_22, e_21, h⟩ := bo_s h
    refine x_goi X hS (x_runV (As := [.int x2]) (rest := []) X gC_ok hP hS (ctX5_isNumber_1 l D c3 ad w _ x2 _ e_21) (cwV 1 hts gX7_settle_X5_isNumber rfl rfl rfl (by decide +kernel) ⟨by decide, by decide⟩) (gC1 c3 ad w) rfl rfl rfl hl.1 rfl (Nat.le_of_ble_eq_true rfl) dX7_settle_16) (fun H locs hP hS => ?_)
    refine lv_if_ne (tgt := 24) hx hb dX7_settle_19 (by decide) (fun c_24 => ?_) (fun c_24 => ?_)
    · replace h := it_n c_24 h
      refine lv_aload_n hx hb dX7_settle_24 rfl (lv_at hl 0 rfl) ?_
      refine x_get (rest := []) X hP (gC0 c3 ad w) rfl iwX7_settle_X7 3 (by decide) lkX7_settle_27 rfl dX7_settle_25 ?_
      obtain ⟨r_26, e_25, h⟩ := bo_s h
      refine x_goi X hS (x_runV (As := []) (rest := []) X gC_ok hP hS (ctX2_isAnyOver_23 l D c3 ad w _ _ e_25) (cwV 0 hts gX7_settle_X2_isAnyOver rfl rfl rfl (by decide +kernel) ⟨by decide, by decide⟩) (gC23 c3 ad w) rfl rfl rfl hl.1 rfl (Nat.le_of_ble_eq_true rfl) dX7_settle_28) (fun H locs hP hS => ?_)
      refine lv_if_ne (tgt := 44) hx hb dX7_settle_31 (by decide) (fun c_28 => ?_) (fun c_28 => ?_)
      · replace h := it_n c_28 h
        refine lv_bipush (v := (-4)) hx hb dX7_settle_44 (by decide) ?_
        obtain ⟨rfl, rfl⟩ := Prod.mk.inj (Option.some.inj h)
        exact hret _ _ _ _ hP hS dX7_settle_46
      · replace h := it_p c_28 h
        refine lv_aload_n hx hb dX7_settle_34 rfl (lv_at hl 0 rfl) ?_
        refine x_get (rest := []) X hP (gC0 c3 ad w) rfl iwX7_settle_X7 3 (by decide) lkX7_settle_27 rfl dX7_settle_35 ?_
        obtain ⟨r_30, e_29, h⟩ := bo_s h
        refine x_goi X hS (x_runV (As := []) (rest := []) X gC_ok hP hS (ctX2_isEmpty_23 l D c3 ad w _ _ e_29) (cwV 0 hts gX7_settle_X2_isEmpty rfl rfl rfl (by decide +kernel) ⟨by decide, by decide⟩) (gC23 c3 ad w) rfl rfl rfl hl.1 rfl (Nat.le_of_ble_eq_true rfl) dX7_settle_38) (fun H locs hP hS => ?_)
        refine lv_if_eq (tgt := 47) hx hb dX7_settle_41 (by decide) (fun c_32 => ?_) (fun c_32 => ?_)
        · replace h := it_p c_32 h
          refine lv_iconst (v := 0) hx hb dX7_settle_47 (by decide) ?_
          refine lv_istore_n (lv' := [(3, .int 0), (0, .ref (ad 0)), (1, .int x1), (2, .int x2)]) hx hb dX7_settle_48 rfl hl (by decide) rfl (fun ls hl => ?_)
          exact bX7_settle_49 X hret x1 x2 FU 0 w _ _ _ hP hS (lv_sub hl [1, 2, 3, 0] rfl) h
        · replace h := it_n c_32 h
          refine lv_bipush (v := (-4)) hx hb dX7_settle_44 (by decide) ?_
          obtain ⟨rfl, rfl⟩ := Prod.mk.inj (Option.some.inj h)
          exact hret _ _ _ _ hP hS dX7_settle_46
    · replace h := it_p c_24 h
      refine lv_iconst (v := (-1)) hx hb dX7_settle_22 (by decide) ?_
      obtain ⟨rfl, rfl⟩ := Prod.mk.inj (Option.some.inj h)
      exact hret _ _ _ _ hP hS dX7_settle_23
def fX7_settle (x1 : Int32) (x2 : Int32) (w : Mm) : Option (Int32 × Mm) := fX7_settle_E x1 x2 w
theorem ctX7_settle (l : Launch) (D : va_G) (c3 : C3) (ad : Nat → Nat) (w : Mm) (sz : Nat) (x1 : Int32) (x2 : Int32) (r : Int32) (w' : Mm) (h : fX7_settle x1 x2 w = some (r, w')) : Ci l yX7_settle wsX7_settle rmX7_settle D c3 (encC c3 ad) gC [.ref (ad 0), .int x1, .int x2] w sz r w' := by
  refine Ci.of (cc := cX7_settle) (maxL := 5) (encC_ok c3 ad) (by decide) rfl (Nat.le_of_ble_eq_true rfl) ?_
  intro p e s m below meth c A Q ls X hret hP hS hl
  exact bX7_settle_E X hret x1 x2 w _ _ ls hP hS hl h
theorem iwX7_refusalOfTurns_X7 : ∀ w ∈ wsX70, w ∈ wsX7_refusalOfTurns := fun _ h => List.mem_cons_of_mem _ (List.mem_append_left _ (List.mem_append_right _ h))
theorem lkX7_refusalOfTurns_27 : Cond.fieldLink RX7 27 "StuckDoor" "family" "LStuckDoor$Family;" ∈ wsX7_refusalOfTurns := by decide +kernel
def rmX7_refusalOfTurns : Room := { frames := 1, cells := 0, slots := 0, locals := 21 }
def fX7_refusalOfTurns_42 (w : Mm) : Option (Int32) := some (-4)
set_option maxRecDepth 20000 in
theorem bX7_refusalOfTurns_42 {p : Program} {l : Launch} {e : Env} {s : State} {m : MethodId} {args : Array Value} {below : List Frame} {meth : Method} {c : Code} {Q : State → Prop} {D : va_G} {c3 : C3} {ad : Nat → Nat} {A : Nat → Prop} {r : Int32} {w : Mm} (X : Cx p s m args c cX7_refusalOfTurns 3 RX7 wsX7_refusalOfTurns D c3 (encC c3 ad) gC A) (hret : Ri p l e (rmX7_refusalOfTurns) s m args below meth c Q cX7_refusalOfTurns D (encC c3 ad) A r w) : ∀ (H : Heap) (locs : List Loc) (ls : Array Slot), va_P D vwCl ((encC c3 ad) w) H → va_S A s.heap H locs → lv_has ls 3 [] → fX7_refusalOfTurns_42 w = some r → W p l e (rmX7_refusalOfTurns) s m args below meth c H locs 0 0 Q (F0 m 42 ls []) := by
  have hx := X.1
  have hb := X.2.1
  have hml := X.2.2.1
  have hown := X.2.2.2.1
  have hts := X.2.2.2.2.1
  intro H locs ls hP hS hl h
  unfold fX7_refusalOfTurns_42 at h
  refine lv_bipush (v := (-4)) hx hb dX7_refusalOfTurns_42 (by decide) ?_
  refine lv_goto (tgt := 48) hx hb dX7_refusalOfTurns_44 (by decide) ?_
  obtain rfl := Option.some.inj h
  exact hret _ _ _ _ hP hS dX7_refusalOfTurns_48
def fX7_refusalOfTurns_E (x1 : Int32) (x2 : Int32) (w : Mm) : Option (Int32) := bo (fX2_hasPerson_23 x1 w) (fun r_2 => (if r_2 = 0 then some (-1) else (if x2 < 0 then some (-1) else (if x2 ≤ 5 then bo (fX2_isAnyOver_23 w) (fun r_8 => (if r_8 = 0 then bo (fX2_isEmpty_23 w) (fun r_12 => (if r_12 = 0 then some 0 else fX7_refusalOfTurns_42 w)) else fX7_refusalOfTurns_42 w)) else some (-1)))))
set_option maxRecDepth 20000 in
theorem bX7_refusalOfTurns_E {p : Program} {l : Launch} {e : Env} {s : State} {m : MethodId} {args : Array Value} {below : List Frame} {meth : Method} {c : Code} {Q : State → Prop} {D : va_G} {c3 : C3} {ad : Nat → Nat} {A : Nat → Prop} {r : Int32} {w : Mm} (X : Cx p s m args c cX7_refusalOfTurns 3 RX7 wsX7_refusalOfTurns D c3 (encC c3 ad) gC A) (hret : Ri p l e (rmX7_refusalOfTurns) s m args below meth c Q cX7_refusalOfTurns D (encC c3 ad) A r w) : ∀ (x1 : Int32) (x2 : Int32) (H : Heap) (locs : List Loc) (ls : Array Slot), va_P D vwCl ((encC c3 ad) w) H → va_S A s.heap H locs → lv_has ls 3 [(0, .ref (ad 0)), (1, .int x1), (2, .int x2)] → fX7_refusalOfTurns_E x1 x2 w = some r → W p l e (rmX7_refusalOfTurns) s m args below meth c H locs 0 0 Q (F0 m 0 ls []) := by
  have hx := X.1
  have hb := X.2.1
  have hml := X.2.2.1
  have hown := X.2.2.2.1
  have hts := X.2.2.2.2.1
  intro x1 x2 H locs ls hP hS hl h
  unfold fX7_refusalOfTurns_E at h
  refine lv_aload_n hx hb dX7_refusalOfTurns_0 rfl (lv_at hl 0 rfl) ?_
  refine x_get (rest := []) X hP (gC0 c3 ad w) rfl iwX7_refusalOfTurns_X7 3 (by decide) lkX7_refusalOfTurns_27 rfl dX7_refusalOfTurns_1 ?_
  refine lv_iload_n hx hb dX7_refusalOfTurns_4 rfl (lv_at hl 1 rfl) ?_
  obtain ⟨r_2, e_1, h⟩ := bo_s h
  refine x_goi X hS (x_runV (As := [.int x1]) (rest := []) X gC_ok hP hS (ctX2_hasPerson_23 l D c3 ad w _ x1 _ e_1) (cwV 1 hts gX7_refusalOfTurns_X2_hasPerson rfl rfl rfl (by decide +kernel) ⟨by decide, by decide⟩) (gC23 c3 ad w) rfl rfl rfl hl.1 rfl (Nat.le_of_ble_eq_true rfl) dX7_refusalOfTurns_5) (fun H locs hP hS => ?_)
  refine lv_if_eq (tgt := 20) hx hb dX7_refusalOfTurns_8 (by decide) (fun c_4 => ?_) (fun c_4 => ?_)
  · replace h := it_p c_4 h
    refine lv_iconst (v := (-1)) hx hb dX7_refusalOfTurns_20 (by decide) ?_
    obtain rfl := Option.some.inj h
    exact hret _ _ _ _ hP hS dX7_refusalOfTurns_21
  · replace h := it_n c_4 h
    refine lv_iload_n hx hb dX7_refusalOfTurns_11 rfl (lv_at hl 2 rfl) ?_
    refine lv_if_lt (tgt := 20) hx hb dX7_refusalOfTurns_12 (by decide) (fun c_5 => ?_) (fun c_5 => ?_)
    · replace h := it_p c_5 h
      refine lv_iconst (v := (-1)) hx hb dX7_refusalOfTurns_20 (by decide) ?_
      obtain rfl := Option.some.inj h
      exact hret _ _ _ _ hP hS dX7_refusalOfTurns_21
    · replace h := it_n c_5 h
      refine lv_iload_n hx hb dX7_refusalOfTurns_15 rfl (lv_at hl 2 rfl) ?_
      refine lv_iconst (v := 5) hx hb dX7_refusalOfTurns_16 (by decide) ?_
      refine lv_icmp_le (tgt := 22) hx hb dX7_refusalOfTurns_17 (by decide) (fun c_6 => ?_) (fun c_6 => ?_)
      · replace h := it_p c_6 h
        refine lv_aload_n hx hb dX7_refusalOfTurns_22 rfl (lv_at hl 0 rfl) ?_
        refine x_get (rest := []) X hP (gC0 c3 ad w) rfl iwX7_refusalOfTurns_X7 3 (by decide) lkX7_refusalOfTurns_27 rfl dX7_refusalOfTurns_23 ?_
        obtain ⟨r_8, e_7, h⟩ := bo_s h
        refine x_goi X hS (x_runV (As := []) (rest := []) X gC_ok hP hS (ctX2_isAnyOver_23 l D c3 ad w _ _ e_7) (cwV 0 hts gX7_refusalOfTurns_X2_isAnyOver rfl rfl rfl (by decide +kernel) ⟨by decide, by decide⟩) (gC23 c3 ad w) rfl rfl rfl hl.1 rfl (Nat.le_of_ble_eq_true rfl) dX7_refusalOfTurns_26) (fun H locs hP hS => ?_)
        refine lv_if_ne (tgt := 42) hx hb dX7_refusalOfTurns_29 (by decide) (fun c_10 => ?_) (fun c_10 => ?_)
        · replace h := it_n c_10 h
          exact bX7_refusalOfTurns_42 X hret _ _ _ hP hS (lv_sub hl [] rfl) h
        · replace h := it_p c_10 h
          refine lv_aload_n hx hb dX7_refusalOfTurns_32 rfl (lv_at hl 0 rfl) ?_
          refine x_get (rest := []) X hP (gC0 c3 ad w) rfl iwX7_refusalOfTurns_X7 3 (by decide) lkX7_refusalOfTurns_27 rfl dX7_refusalOfTurns_33 ?_
          obtain ⟨r_12, e_11, h⟩ := bo_s h
          refine x_goi X hS (x_runV (As := []) (rest := []) X gC_ok hP hS (ctX2_isEmpty_23 l D c3 ad w _ _ e_11) (cwV 0 hts gX7_refusalOfTurns_X2_isEmpty rfl rfl rfl (by decide +kernel) ⟨by decide, by decide⟩) (gC23 c3 ad w) rfl rfl rfl hl.1 rfl (Nat.le_of_ble_eq_true rfl) dX7_refusalOfTurns_36) (fun H locs hP hS => ?_)
          refine lv_if_eq (tgt := 47) hx hb dX7_refusalOfTurns_39 (by decide) (fun c_14 => ?_) (fun c_14 => ?_)
          · replace h := it_p c_14 h
            refine lv_iconst (v := 0) hx hb dX7_refusalOfTurns_47 (by decide) ?_
            obtain rfl := Option.some.inj h
            exact hret _ _ _ _ hP hS dX7_refusalOfTurns_48
          · replace h := it_n c_14 h
            exact bX7_refusalOfTurns_42 X hret _ _ _ hP hS (lv_sub hl [] rfl) h
      · replace h := it_n c_6 h
        refine lv_iconst (v := (-1)) hx hb dX7_refusalOfTurns_20 (by decide) ?_
        obtain rfl := Option.some.inj h
        exact hret _ _ _ _ hP hS dX7_refusalOfTurns_21
def fX7_refusalOfTurns (x1 : Int32) (x2 : Int32) (w : Mm) : Option (Int32) := fX7_refusalOfTurns_E x1 x2 w
theorem ctX7_refusalOfTurns (l : Launch) (D : va_G) (c3 : C3) (ad : Nat → Nat) (w : Mm) (sz : Nat) (x1 : Int32) (x2 : Int32) (r : Int32) (h : fX7_refusalOfTurns x1 x2 w = some r) : Ci l yX7_refusalOfTurns wsX7_refusalOfTurns rmX7_refusalOfTurns D c3 (encC c3 ad) gC [.ref (ad 0), .int x1, .int x2] w sz r w := by
  refine Ci.of (cc := cX7_refusalOfTurns) (maxL := 3) (encC_ok c3 ad) (by decide) rfl (Nat.le_of_ble_eq_true rfl) ?_
  intro p e s m below meth c A Q ls X hret hP hS hl
  exact bX7_refusalOfTurns_E X hret x1 x2 _ _ ls hP hS hl h
theorem iwX6_tryAll_X6 : ∀ w ∈ wsX60, w ∈ wsX6_tryAll := fun _ h => List.mem_cons_of_mem _ (List.mem_append_left _ (List.mem_append_right _ h))
theorem lkX6_tryAll_15 : Cond.fieldLink RX6 15 "StuckDoor$Turns" "number" "J" ∈ wsX6_tryAll := by decide +kernel
theorem lkX6_tryAll_19 : Cond.fieldLink RX6 19 "StuckDoor$Turns" "settleable" "I" ∈ wsX6_tryAll := by decide +kernel
theorem lkX6_tryAll_23 : Cond.fieldLink RX6 23 "StuckDoor$Turns" "leastStrain" "I" ∈ wsX6_tryAll := by decide +kernel
def rmX6_tryAll : Room := { frames := 51, cells := 0, slots := 0, locals := 1120 }
def fX6_tryAll_E (x2 : Int32) (x3 : Int32) (w : Mm) : Option (Mm) := nm (sL w 39 1 0) (fun w_1 => nm (sA w_1 39 2 0) (fun w_2 => nm (sA w_2 39 3 (-9)) (fun w_3 => bd (fX6_attemptFrom DEP x2 0 x3 0 w_3) (fun r_5 w_6 => some w_6))))
set_option maxRecDepth 20000 in
theorem bX6_tryAll_E {p : Program} {l : Launch} {e : Env} {s : State} {m : MethodId} {args : Array Value} {below : List Frame} {meth : Method} {c : Code} {Q : State → Prop} {D : va_G} {c3 : C3} {ad : Nat → Nat} {A : Nat → Prop} {w' : Mm} (X : Cx p s m args c cX6_tryAll 4 RX6 wsX6_tryAll D c3 (encC c3 ad) gC A) (hret : Rv p l e (rmX6_tryAll) s m args below meth c Q cX6_tryAll D (encC c3 ad) A w') : ∀ (x2 : Int32) (x3 : Int32) (w : Mm) (H : Heap) (locs : List Loc) (ls : Array Slot), va_P D vwCl ((encC c3 ad) w) H → va_S A s.heap H locs → lv_has ls 4 [(0, .ref (ad 39)), (1, .ref (ad 23)), (2, .int x2), (3, .int x3)] → fX6_tryAll_E x2 x3 w = some w' → W p l e (rmX6_tryAll) s m args below meth c H locs 0 0 Q (F0 m 0 ls []) := by
  have hx := X.1
  have hb := X.2.1
  have hml := X.2.2.1
  have hown := X.2.2.2.1
  have hts := X.2.2.2.2.1
  intro x2 x3 w H locs ls hP hS hl h
  unfold fX6_tryAll_E at h
  refine lv_aload_n hx hb dX6_tryAll_0 rfl (lv_at hl 0 rfl) ?_
  refine lv_lconst (v := 0) hx hb dX6_tryAll_1 (by decide) ?_
  refine x_put (v := .long 0) X hP hS (gC39 c3 ad w) rfl iwX6_tryAll_X6 tyX6 tyX6_ok nmX6 1 (by decide) lkX6_tryAll_15 rfl rfl rfl (Nat.le_of_ble_eq_true rfl) (pC39_1 c3 ad w 0) dX6_tryAll_2 (fun H locs hP hS => ?_)
  refine x_nmw h hP (fun w_1 h hP => ?_)
  refine lv_aload_n hx hb dX6_tryAll_5 rfl (lv_at hl 0 rfl) ?_
  refine lv_iconst (v := 0) hx hb dX6_tryAll_6 (by decide) ?_
  refine x_put (v := .int 0) X hP hS (gC39 c3 ad w_1) rfl iwX6_tryAll_X6 tyX6 tyX6_ok nmX6 2 (by decide) lkX6_tryAll_19 rfl rfl rfl (Nat.le_of_ble_eq_true rfl) (pC39_2 c3 ad w_1 0) dX6_tryAll_7 (fun H locs hP hS => ?_)
  refine x_nmw h hP (fun w_2 h hP => ?_)
  refine lv_aload_n hx hb dX6_tryAll_10 rfl (lv_at hl 0 rfl) ?_
  refine lv_bipush (v := (-9)) hx hb dX6_tryAll_11 (by decide) ?_
  refine x_put (v := .int (-9)) X hP hS (gC39 c3 ad w_2) rfl iwX6_tryAll_X6 tyX6 tyX6_ok nmX6 3 (by decide) lkX6_tryAll_23 rfl rfl rfl (Nat.le_of_ble_eq_true rfl) (pC39_3 c3 ad w_2 (-9)) dX6_tryAll_13 (fun H locs hP hS => ?_)
  refine x_nmw h hP (fun w_3 h hP => ?_)
  refine lv_aload_n hx hb dX6_tryAll_16 rfl (lv_at hl 0 rfl) ?_
  refine lv_aload_n hx hb dX6_tryAll_17 rfl (lv_at hl 1 rfl) ?_
  refine lv_iload_n hx hb dX6_tryAll_18 rfl (lv_at hl 2 rfl) ?_
  refine lv_iconst (v := 0) hx hb dX6_tryAll_19 (by decide) ?_
  refine lv_iload_n hx hb dX6_tryAll_20 rfl (lv_at hl 3 rfl) ?_
  refine lv_iconst (v := 0) hx hb dX6_tryAll_21 (by decide) ?_
  obtain ⟨r_5, w_6, e_4, h⟩ := bd_s h
  refine x_goi X hS (x_runV (As := [.ref (ad 23), .int x2, .int 0, .int x3, .int 0]) (rest := []) X gC_ok hP hS (ctX6_attemptFrom l D c3 ad w_3 _ DEP x2 0 x3 0 _ _ e_4) (cwV 5 hts gX6_tryAll_X6_attemptFrom rfl rfl rfl (by decide +kernel) (by decide)) (gC39 c3 ad w_3) rfl rfl rfl hl.1 rfl (Nat.le_of_ble_eq_true rfl) dX6_tryAll_22) (fun H locs hP hS => ?_)
  refine lv_pop hx hb dX6_tryAll_25 rfl ?_
  obtain rfl := Option.some.inj h
  exact hret _ _ _ _ hP hS dX6_tryAll_26
def fX6_tryAll (x2 : Int32) (x3 : Int32) (w : Mm) : Option (Mm) := fX6_tryAll_E x2 x3 w
theorem ctX6_tryAll (l : Launch) (D : va_G) (c3 : C3) (ad : Nat → Nat) (w : Mm) (sz : Nat) (x2 : Int32) (x3 : Int32) (w' : Mm) (h : fX6_tryAll x2 x3 w = some w') : Cv l yX6_tryAll wsX6_tryAll rmX6_tryAll D c3 (encC c3 ad) gC [.ref (ad 39), .ref (ad 23), .int x2, .int x3] w sz w' := by
  refine Cv.of (cc := cX6_tryAll) (maxL := 4) (encC_ok c3 ad) (by decide) rfl (Nat.le_of_ble_eq_true rfl) ?_
  intro p e s m below meth c A Q ls X hret hP hS hl
  exact bX6_tryAll_E X hret x2 x3 w _ _ ls hP hS hl h
theorem iwX7_least_X6 : ∀ w ∈ wsX60, w ∈ wsX7_least := fun _ h => List.mem_cons_of_mem _ (List.mem_append_left _ (List.mem_append_right _ h))
theorem iwX7_least_X7 : ∀ w ∈ wsX70, w ∈ wsX7_least := fun _ h => List.mem_cons_of_mem _ (List.mem_append_left _ (List.mem_append_left _ (List.mem_append_right _ h)))
theorem lkX7_least_27 : Cond.fieldLink RX7 27 "StuckDoor" "family" "LStuckDoor$Family;" ∈ wsX7_least := by decide +kernel
theorem lkX7_least_41 : Cond.fieldLink RX7 41 "StuckDoor" "turns" "LStuckDoor$Turns;" ∈ wsX7_least := by decide +kernel
theorem lkX7_least_213 : Cond.fieldLink RX7 213 "StuckDoor$Turns" "leastStrain" "I" ∈ wsX7_least := by decide +kernel
def rmX7_least : Room := { frames := 52, cells := 0, slots := 0, locals := 1143 }
def fX7_least_E (x1 : Int32) (x2 : Int32) (w : Mm) : Option (Int32 × Mm) := bo (fX7_refusalOfTurns x1 x2 w) (fun r_2 => (if r_2 = 0 then bo (fX6_tryAll x1 x2 w) (fun w_7 => some ((w_7.1 39 3), w_7)) else some (r_2, w)))
set_option maxRecDepth 20000 in
theorem bX7_least_E {p : Program} {l : Launch} {e : Env} {s : State} {m : MethodId} {args : Array Value} {below : List Frame} {meth : Method} {c : Code} {Q : State → Prop} {D : va_G} {c3 : C3} {ad : Nat → Nat} {A : Nat → Prop} {r : Int32} {w' : Mm} (X : Cx p s m args c cX7_least 4 RX7 wsX7_least D c3 (encC c3 ad) gC A) (hret : Ri p l e (rmX7_least) s m args below meth c Q cX7_least D (encC c3 ad) A r w') : ∀ (x1 : Int32) (x2 : Int32) (w : Mm) (H : Heap) (locs : List Loc) (ls : Array Slot), va_P D vwCl ((encC c3 ad) w) H → va_S A s.heap H locs → lv_has ls 4 [(0, .ref (ad 0)), (1, .int x1), (2, .int x2)] → fX7_least_E x1 x2 w = some (r, w') → W p l e (rmX7_least) s m args below meth c H locs 0 0 Q (F0 m 0 ls []) := by
  have hx := X.1
  have hb := X.2.1
  have hml := X.2.2.1
  have hown := X.2.2.2.1
  have hts := X.2.2.2.2.1
  intro x1 x2 w H locs ls hP hS hl h
  unfold fX7_least_E at h
  refine lv_aload_n hx hb dX7_least_0 rfl (lv_at hl 0 rfl) ?_
  refine lv_iload_n hx hb dX7_least_1 rfl (lv_at hl 1 rfl) ?_
  refine lv_iload_n hx hb dX7_least_2 rfl (lv_at hl 2 rfl) ?_
  obtain ⟨r_2, e_1, h⟩ := bo_s h
  refine x_goi X hS (x_runV (As := [.int x1, .int x2]) (rest := []) X gC_ok hP hS (ctX7_refusalOfTurns l D c3 ad w _ x1 x2 _ e_1) (cwV 2 hts gX7_least_X7_refusalOfTurns rfl rfl rfl (by decide +kernel) ⟨by decide, by decide⟩) (gC0 c3 ad w) rfl rfl rfl hl.1 rfl (Nat.le_of_ble_eq_true rfl) dX7_least_3) (fun H locs hP hS => ?_)
  refine lv_istore_n (lv' := [(3, .int r_2), (0, .ref (ad 0)), (1, .int x1), (2, .int x2)]) hx hb dX7_least_6 rfl hl (by decide) rfl (fun ls hl => ?_)
  refine lv_iload_n hx hb dX7_least_7 rfl (lv_at hl 0 rfl) ?_
  refine lv_if_eq (tgt := 13) hx hb dX7_least_8 (by decide) (fun c_4 => ?_) (fun c_4 => ?_)
  · replace h := it_p c_4 h
    refine lv_aload_n hx hb dX7_least_13 rfl (lv_at hl 1 rfl) ?_
    refine x_get (rest := []) X hP (gC0 c3 ad w) rfl iwX7_least_X7 5 (by decide) lkX7_least_41 rfl dX7_least_14 ?_
    refine lv_aload_n hx hb dX7_least_17 rfl (lv_at hl 1 rfl) ?_
    refine x_get (rest := [.ref (ad 39)]) X hP (gC0 c3 ad w) rfl iwX7_least_X7 3 (by decide) lkX7_least_27 rfl dX7_least_18 ?_
    refine lv_iload_n hx hb dX7_least_21 rfl (lv_at hl 2 rfl) ?_
    refine lv_iload_n hx hb dX7_least_22 rfl (lv_at hl 3 rfl) ?_
    obtain ⟨w_7, e_5, h⟩ := bo_s h
    refine x_gov X hS (x_runV (As := [.ref (ad 23), .int x1, .int x2]) (rest := []) X gC_ok hP hS (ctX6_tryAll l D c3 ad w _ x1 x2 _ e_5) (cwV 3 hts gX7_least_X6_tryAll rfl rfl rfl (by decide +kernel) ⟨by decide, by decide⟩) (gC39 c3 ad w) rfl rfl rfl hl.1 rfl (Nat.le_of_ble_eq_true rfl) dX7_least_23) (fun H locs hP hS => ?_)
    refine lv_aload_n hx hb dX7_least_26 rfl (lv_at hl 1 rfl) ?_
    refine x_get (rest := []) X hP (gC0 c3 ad w_7) rfl iwX7_least_X7 5 (by decide) lkX7_least_41 rfl dX7_least_27 ?_
    refine x_get (rest := []) X hP (gC39 c3 ad w_7) rfl iwX7_least_X6 3 (by decide) lkX7_least_213 rfl dX7_least_30 ?_
    obtain ⟨rfl, rfl⟩ := Prod.mk.inj (Option.some.inj h)
    exact hret _ _ _ _ hP hS dX7_least_33
  · replace h := it_n c_4 h
    refine lv_iload_n hx hb dX7_least_11 rfl (lv_at hl 0 rfl) ?_
    obtain ⟨rfl, rfl⟩ := Prod.mk.inj (Option.some.inj h)
    exact hret _ _ _ _ hP hS dX7_least_12
def fX7_least (x1 : Int32) (x2 : Int32) (w : Mm) : Option (Int32 × Mm) := fX7_least_E x1 x2 w
theorem ctX7_least (l : Launch) (D : va_G) (c3 : C3) (ad : Nat → Nat) (w : Mm) (sz : Nat) (x1 : Int32) (x2 : Int32) (r : Int32) (w' : Mm) (h : fX7_least x1 x2 w = some (r, w')) : Ci l yX7_least wsX7_least rmX7_least D c3 (encC c3 ad) gC [.ref (ad 0), .int x1, .int x2] w sz r w' := by
  refine Ci.of (cc := cX7_least) (maxL := 4) (encC_ok c3 ad) (by decide) rfl (Nat.le_of_ble_eq_true rfl) ?_
  intro p e s m below meth c A Q ls X hret hP hS hl
  exact bX7_least_E X hret x1 x2 w _ _ ls hP hS hl h

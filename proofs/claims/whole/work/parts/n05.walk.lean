theorem iwX7_day_X2 : ∀ w ∈ wsX20, w ∈ wsX7_day := fun _ h => List.mem_cons_of_mem _ (List.mem_append_right _ h)
theorem iwX7_day_X7 : ∀ w ∈ wsX70, w ∈ wsX7_day := fun _ h => List.mem_cons_of_mem _ (List.mem_append_left _ (List.mem_append_right _ h))
theorem lkX7_day_27 : Cond.fieldLink RX7 27 "StuckDoor" "family" "LStuckDoor$Family;" ∈ wsX7_day := by decide +kernel
theorem lkX7_day_168 : Cond.fieldLink RX7 168 "StuckDoor$Family" "deeds" "I" ∈ wsX7_day := by decide +kernel
theorem lkX7_day_178 : Cond.fieldLink RX7 178 "StuckDoor$Family" "strain" "I" ∈ wsX7_day := by decide +kernel
def rmX7_day : Room := { frames := 6, cells := 0, slots := 0, locals := 131 }
def fX7_day_E (w : Mm) : Option (Int32 × Mm) := bo (fX2_isEmpty_23 w) (fun r_2 => (if r_2 = 0 then (if (w.1 23 11) < 40 then bo (fX2_record_23 (-1) w) (fun w_8 => some ((w_8.1 23 7), w_8)) else some ((-2), w)) else some ((-4), w)))
set_option maxRecDepth 20000 in
theorem bX7_day_E {p : Program} {l : Launch} {e : Env} {s : State} {m : MethodId} {args : Array Value} {below : List Frame} {meth : Method} {c : Code} {Q : State → Prop} {D : va_G} {c3 : C3} {ad : Nat → Nat} {A : Nat → Prop} {r : Int32} {w' : Mm} (X : Cx p s m args c cX7_day 1 RX7 wsX7_day D c3 (encC c3 ad) gC A) (hret : Ri p l e (rmX7_day) s m args below meth c Q cX7_day D (encC c3 ad) A r w') : ∀ (w : Mm) (H : Heap) (locs : List Loc) (ls : Array Slot), va_P D vwCl ((encC c3 ad) w) H → va_S A s.heap H locs → lv_has ls 1 [(0, .ref (ad 0))] → fX7_day_E w = some (r, w') → W p l e (rmX7_day) s m args below meth c H locs 0 0 Q (F0 m 0 ls []) := by
  have hx := X.1
  have hb := X.2.1
  have hml := X.2.2.1
  have hown := X.2.2.2.1
  have hts := X.2.2.2.2.1
  intro w H locs ls hP hS hl h
  unfold fX7_day_E at h
  refine lv_aload_n hx hb dX7_day_0 rfl (lv_at hl 0 rfl) ?_
  refine x_get (rest := []) X hP (gC0 c3 ad w) rfl iwX7_day_X7 3 (by decide) lkX7_day_27 rfl dX7_day_1 ?_
  obtain ⟨r_2, e_1, h⟩ := bo_s h
  refine x_goi X hS (x_runV (As := []) (rest := []) X gC_ok hP hS (ctX2_isEmpty_23 l D c3 ad w _ _ e_1) (cwV 0 hts gX7_day_X2_isEmpty rfl rfl rfl (by decide +kernel) ⟨by decide, by decide⟩) (gC23 c3 ad w) rfl rfl rfl hl.1 rfl (Nat.le_of_ble_eq_true rfl) dX7_day_4) (fun H locs hP hS => ?_)
  refine lv_if_eq (tgt := 13) hx hb dX7_day_7 (by decide) (fun c_4 => ?_) (fun c_4 => ?_)
  · replace h := it_p c_4 h
    refine lv_aload_n hx hb dX7_day_13 rfl (lv_at hl 0 rfl) ?_
    refine x_get (rest := []) X hP (gC0 c3 ad w) rfl iwX7_day_X7 3 (by decide) lkX7_day_27 rfl dX7_day_14 ?_
    refine x_get (rest := []) X hP (gC23 c3 ad w) rfl iwX7_day_X2 11 (by decide) lkX7_day_168 rfl dX7_day_17 ?_
    refine lv_bipush (v := 40) hx hb dX7_day_20 (by decide) ?_
    refine lv_icmp_lt (tgt := 28) hx hb dX7_day_22 (by decide) (fun c_5 => ?_) (fun c_5 => ?_)
    · replace h := it_p c_5 h
      refine lv_aload_n hx hb dX7_day_28 rfl (lv_at hl 0 rfl) ?_
      refine x_get (rest := []) X hP (gC0 c3 ad w) rfl iwX7_day_X7 3 (by decide) lkX7_day_27 rfl dX7_day_29 ?_
      refine lv_iconst (v := (-1)) hx hb dX7_day_32 (by decide) ?_
      obtain ⟨w_8, e_6, h⟩ := bo_s h
      refine x_gov X hS (x_runV (As := [.int (-1)]) (rest := []) X gC_ok hP hS (ctX2_record_23 l D c3 ad w _ (-1) _ e_6) (cwV 1 hts gX7_day_X2_record rfl rfl rfl (by decide +kernel) ⟨by decide, by decide⟩) (gC23 c3 ad w) rfl rfl rfl hl.1 rfl (Nat.le_of_ble_eq_true rfl) dX7_day_33) (fun H locs hP hS => ?_)
      refine lv_aload_n hx hb dX7_day_36 rfl (lv_at hl 0 rfl) ?_
      refine x_get (rest := []) X hP (gC0 c3 ad w_8) rfl iwX7_day_X7 3 (by decide) lkX7_day_27 rfl dX7_day_37 ?_
      refine x_get (rest := []) X hP (gC23 c3 ad w_8) rfl iwX7_day_X2 7 (by decide) lkX7_day_178 rfl dX7_day_40 ?_
      obtain ⟨rfl, rfl⟩ := Prod.mk.inj (Option.some.inj h)
      exact hret _ _ _ _ hP hS dX7_day_43
    · replace h := it_n c_5 h
      refine lv_bipush (v := (-2)) hx hb dX7_day_25 (by decide) ?_
      obtain ⟨rfl, rfl⟩ := Prod.mk.inj (Option.some.inj h)
      exact hret _ _ _ _ hP hS dX7_day_27
  · replace h := it_n c_4 h
    refine lv_bipush (v := (-4)) hx hb dX7_day_10 (by decide) ?_
    obtain ⟨rfl, rfl⟩ := Prod.mk.inj (Option.some.inj h)
    exact hret _ _ _ _ hP hS dX7_day_12
def fX7_day (w : Mm) : Option (Int32 × Mm) := fX7_day_E w
theorem ctX7_day (l : Launch) (D : va_G) (c3 : C3) (ad : Nat → Nat) (w : Mm) (sz : Nat) (r : Int32) (w' : Mm) (h : fX7_day w = some (r, w')) : Ci l yX7_day wsX7_day rmX7_day D c3 (encC c3 ad) gC [.ref (ad 0)] w sz r w' := by
  refine Ci.of (cc := cX7_day) (maxL := 1) (encC_ok c3 ad) (by decide) rfl (Nat.le_of_ble_eq_true rfl) ?_
  intro p e s m below meth c A Q ls X hret hP hS hl
  exact bX7_day_E X hret w _ _ ls hP hS hl h
theorem iwX2_goBackTo_X2 : ∀ w ∈ wsX20, w ∈ wsX2_goBackTo := fun _ h => List.mem_cons_of_mem _ (List.mem_append_right _ h)
theorem lkX2_goBackTo_46 : Cond.fieldLink RX2 46 "StuckDoor$Family" "deeds" "I" ∈ wsX2_goBackTo := by decide +kernel
theorem lkX2_goBackTo_49 : Cond.fieldLink RX2 49 "StuckDoor$Family" "deed" "[I" ∈ wsX2_goBackTo := by decide +kernel
def rmX2_goBackTo_23 : Room := { frames := 5, cells := 0, slots := 0, locals := 110 }
def fX2_goBackTo_23_6 (x1 : Int32) : Nat → Int32 → Mm → Option (Mm)
  | 0, _, _ => none
  | n + 1, x2, w => (if x1 ≤ x2 then some w else (if 40 ≤ x2 then some w else gd (inb x2 40 = true) (bo (fX2_enact_23 (w.1 29 x2.toNatClampNeg) w) (fun w_6 => nm (sA w_6 23 11 ((w_6.1 23 11) + 1)) (fun w_7 => fX2_goBackTo_23_6 x1 n (x2 + 1) w_7)))))
set_option maxRecDepth 20000 in
theorem bX2_goBackTo_23_6 {p : Program} {l : Launch} {e : Env} {s : State} {m : MethodId} {args : Array Value} {below : List Frame} {meth : Method} {c : Code} {Q : State → Prop} {D : va_G} {c3 : C3} {ad : Nat → Nat} {A : Nat → Prop} {w' : Mm} (X : Cx p s m args c cX2_goBackTo 3 RX2 wsX2_goBackTo D c3 (encC c3 ad) gC A) (hret : Rv p l e (rmX2_goBackTo_23) s m args below meth c Q cX2_goBackTo D (encC c3 ad) A w') : ∀ (x1 : Int32) (n : Nat) (x2 : Int32) (w : Mm) (H : Heap) (locs : List Loc) (ls : Array Slot), va_P D vwCl ((encC c3 ad) w) H → va_S A s.heap H locs → lv_has ls 3 [(0, .ref (ad 23)), (1, .int x1), (2, .int x2)] → fX2_goBackTo_23_6 x1 n x2 w = some w' → W p l e (rmX2_goBackTo_23) s m args below meth c H locs 0 0 Q (F0 m 6 ls []) := by
  have hx := X.1
  have hb := X.2.1
  have hml := X.2.2.1
  have hown := X.2.2.2.1
  have hts := X.2.2.2.2.1
  intro x1 n
  induction n with
  | zero =>
    intro x2 w H locs ls hP hS hl h
    exact absurd h (by simp [fX2_goBackTo_23_6])
  | succ n ih =>
    intro x2 w H locs ls hP hS hl h
    rw [fX2_goBackTo_23_6] at h
    refine lv_iload_n hx hb dX2_goBackTo_6 rfl (lv_at hl 2 rfl) ?_
    refine lv_iload_n hx hb dX2_goBackTo_7 rfl (lv_at hl 1 rfl) ?_
    refine lv_icmp_ge (tgt := 43) hx hb dX2_goBackTo_8 (by decide) (fun c_1 => ?_) (fun c_1 => ?_)
    · replace h := it_p c_1 h
      obtain rfl := Option.some.inj h
      exact hret _ _ _ _ hP hS dX2_goBackTo_43
    · replace h := it_n c_1 h
      refine lv_iload_n hx hb dX2_goBackTo_11 rfl (lv_at hl 2 rfl) ?_
      refine lv_bipush (v := 40) hx hb dX2_goBackTo_12 (by decide) ?_
      refine lv_icmp_ge (tgt := 43) hx hb dX2_goBackTo_14 (by decide) (fun c_2 => ?_) (fun c_2 => ?_)
      · replace h := it_p c_2 h
        obtain rfl := Option.some.inj h
        exact hret _ _ _ _ hP hS dX2_goBackTo_43
      · replace h := it_n c_2 h
        refine lv_aload_n hx hb dX2_goBackTo_17 rfl (lv_at hl 0 rfl) ?_
        refine lv_aload_n hx hb dX2_goBackTo_18 rfl (lv_at hl 0 rfl) ?_
        refine x_get (rest := [.ref (ad 23)]) X hP (gC23 c3 ad w) rfl iwX2_goBackTo_X2 12 (by decide) lkX2_goBackTo_49 rfl dX2_goBackTo_19 ?_
        refine lv_iload_n hx hb dX2_goBackTo_22 rfl (lv_at hl 2 rfl) ?_
        obtain ⟨g_3, h⟩ := gd_s h
        refine x_iald X hP (gC29 c3 ad w) g_3 dX2_goBackTo_23 ?_
        obtain ⟨w_6, e_4, h⟩ := bo_s h
        refine x_gov X hS (x_runV (As := [.int (w.1 29 x2.toNatClampNeg)]) (rest := []) X gC_ok hP hS (ctX2_enact_23 l D c3 ad w _ (w.1 29 x2.toNatClampNeg) _ e_4) (cwV 1 hts gX2_goBackTo_X2_enact rfl rfl rfl (by decide +kernel) ⟨by decide, by decide⟩) (gC23 c3 ad w) rfl rfl rfl hl.1 rfl (Nat.le_of_ble_eq_true rfl) dX2_goBackTo_24) (fun H locs hP hS => ?_)
        refine lv_aload_n hx hb dX2_goBackTo_27 rfl (lv_at hl 0 rfl) ?_
        refine lv_dup hx hb dX2_goBackTo_28 rfl ?_
        refine x_get (rest := [.ref (ad 23)]) X hP (gC23 c3 ad w_6) rfl iwX2_goBackTo_X2 11 (by decide) lkX2_goBackTo_46 rfl dX2_goBackTo_29 ?_
        refine lv_iconst (v := 1) hx hb dX2_goBackTo_32 (by decide) ?_
        refine lv_iadd hx hb dX2_goBackTo_33 ?_
        refine x_put (v := .int ((w_6.1 23 11) + 1)) X hP hS (gC23 c3 ad w_6) rfl iwX2_goBackTo_X2 tyX2 tyX2_ok nmX2 11 (by decide) lkX2_goBackTo_46 rfl rfl rfl (Nat.le_of_ble_eq_true rfl) (pC23_11 c3 ad w_6 ((w_6.1 23 11) + 1)) dX2_goBackTo_34 (fun H locs hP hS => ?_)
        refine x_nmw h hP (fun w_7 h hP => ?_)
        refine lv_iinc (v := (x2 + 1)) (lv' := [(2, .int (x2 + 1)), (0, .ref (ad 23)), (1, .int x1)]) hx hb dX2_goBackTo_37 hl (k := 2) rfl rfl (by decide) rfl (fun ls hl => ?_)
        refine lv_goto (tgt := 6) hx hb dX2_goBackTo_40 (by decide) ?_
        exact ih (x2 + 1) w_7 _ _ _ hP hS (lv_sub hl [1, 2, 0] rfl) h
def fX2_goBackTo_23_E (x1 : Int32) (w : Mm) : Option (Mm) := bo (fX2_startAnew_23 w) (fun w_10 => fX2_goBackTo_23_6 x1 FU 0 w_10)
set_option maxRecDepth 20000 in
theorem bX2_goBackTo_23_E {p : Program} {l : Launch} {e : Env} {s : State} {m : MethodId} {args : Array Value} {below : List Frame} {meth : Method} {c : Code} {Q : State → Prop} {D : va_G} {c3 : C3} {ad : Nat → Nat} {A : Nat → Prop} {w' : Mm} (X : Cx p s m args c cX2_goBackTo 3 RX2 wsX2_goBackTo D c3 (encC c3 ad) gC A) (hret : Rv p l e (rmX2_goBackTo_23) s m args below meth c Q cX2_goBackTo D (encC c3 ad) A w') : ∀ (x1 : Int32) (w : Mm) (H : Heap) (locs : List Loc) (ls : Array Slot), va_P D vwCl ((encC c3 ad) w) H → va_S A s.heap H locs → lv_has ls 3 [(0, .ref (ad 23)), (1, .int x1)] → fX2_goBackTo_23_E x1 w = some w' → W p l e (rmX2_goBackTo_23) s m args below meth c H locs 0 0 Q (F0 m 0 ls []) := by
  have hx := X.1
  have hb := X.2.1
  have hml := X.2.2.1
  have hown := X.2.2.2.1
  have hts := X.2.2.2.2.1
  intro x1 w H locs ls hP hS hl h
  unfold fX2_goBackTo_23_E at h
  refine lv_aload_n hx hb dX2_goBackTo_0 rfl (lv_at hl 0 rfl) ?_
  obtain ⟨w_10, e_8, h⟩ := bo_s h
  refine x_gov X hS (x_runV (As := []) (rest := []) X gC_ok hP hS (ctX2_startAnew_23 l D c3 ad w _ _ e_8) (cwV 0 hts gX2_goBackTo_X2_startAnew rfl rfl rfl (by decide +kernel) ⟨by decide, by decide⟩) (gC23 c3 ad w) rfl rfl rfl hl.1 rfl (Nat.le_of_ble_eq_true rfl) dX2_goBackTo_1) (fun H locs hP hS => ?_)
  refine lv_iconst (v := 0) hx hb dX2_goBackTo_4 (by decide) ?_
  refine lv_istore_n (lv' := [(2, .int 0), (0, .ref (ad 23)), (1, .int x1)]) hx hb dX2_goBackTo_5 rfl hl (by decide) rfl (fun ls hl => ?_)
  exact bX2_goBackTo_23_6 X hret x1 FU 0 w_10 _ _ _ hP hS (lv_sub hl [1, 2, 0] rfl) h
def fX2_goBackTo_23 (x1 : Int32) (w : Mm) : Option (Mm) := fX2_goBackTo_23_E x1 w
theorem ctX2_goBackTo_23 (l : Launch) (D : va_G) (c3 : C3) (ad : Nat → Nat) (w : Mm) (sz : Nat) (x1 : Int32) (w' : Mm) (h : fX2_goBackTo_23 x1 w = some w') : Cv l yX2_goBackTo wsX2_goBackTo rmX2_goBackTo_23 D c3 (encC c3 ad) gC [.ref (ad 23), .int x1] w sz w' := by
  refine Cv.of (cc := cX2_goBackTo) (maxL := 3) (encC_ok c3 ad) (by decide) rfl (Nat.le_of_ble_eq_true rfl) ?_
  intro p e s m below meth c A Q ls X hret hP hS hl
  exact bX2_goBackTo_23_E X hret x1 w _ _ ls hP hS hl h
theorem iwX7_undo_X2 : ∀ w ∈ wsX20, w ∈ wsX7_undo := fun _ h => List.mem_cons_of_mem _ (List.mem_append_right _ h)
theorem iwX7_undo_X7 : ∀ w ∈ wsX70, w ∈ wsX7_undo := fun _ h => List.mem_cons_of_mem _ (List.mem_append_left _ (List.mem_append_right _ h))
theorem lkX7_undo_27 : Cond.fieldLink RX7 27 "StuckDoor" "family" "LStuckDoor$Family;" ∈ wsX7_undo := by decide +kernel
theorem lkX7_undo_168 : Cond.fieldLink RX7 168 "StuckDoor$Family" "deeds" "I" ∈ wsX7_undo := by decide +kernel
def rmX7_undo : Room := { frames := 6, cells := 0, slots := 0, locals := 132 }
def fX7_undo_E (x1 : Int32) (w : Mm) : Option (Int32 × Mm) := (if x1 < 0 then some ((-1), w) else (if x1 ≤ (w.1 23 11) then nm ((w.1 23 11) - x1) (fun x2_3 => bo (fX2_goBackTo_23 x1 w) (fun w_6 => some (x2_3, w_6))) else some ((-1), w)))
set_option maxRecDepth 20000 in
theorem bX7_undo_E {p : Program} {l : Launch} {e : Env} {s : State} {m : MethodId} {args : Array Value} {below : List Frame} {meth : Method} {c : Code} {Q : State → Prop} {D : va_G} {c3 : C3} {ad : Nat → Nat} {A : Nat → Prop} {r : Int32} {w' : Mm} (X : Cx p s m args c cX7_undo 3 RX7 wsX7_undo D c3 (encC c3 ad) gC A) (hret : Ri p l e (rmX7_undo) s m args below meth c Q cX7_undo D (encC c3 ad) A r w') : ∀ (x1 : Int32) (w : Mm) (H : Heap) (locs : List Loc) (ls : Array Slot), va_P D vwCl ((encC c3 ad) w) H → va_S A s.heap H locs → lv_has ls 3 [(0, .ref (ad 0)), (1, .int x1)] → fX7_undo_E x1 w = some (r, w') → W p l e (rmX7_undo) s m args below meth c H locs 0 0 Q (F0 m 0 ls []) := by
  have hx := X.1
  have hb := X.2.1
  have hml := X.2.2.1
  have hown := X.2.2.2.1
  have hts := X.2.2.2.2.1
  intro x1 w H locs ls hP hS hl h
  unfold fX7_undo_E at h
  refine lv_iload_n hx hb dX7_undo_0 rfl (lv_at hl 1 rfl) ?_
  refine lv_if_lt (tgt := 15) hx hb dX7_undo_1 (by decide) (fun c_1 => ?_) (fun c_1 => ?_)
  · replace h := it_p c_1 h
    refine lv_iconst (v := (-1)) hx hb dX7_undo_15 (by decide) ?_
    obtain ⟨rfl, rfl⟩ := Prod.mk.inj (Option.some.inj h)
    exact hret _ _ _ _ hP hS dX7_undo_16
  · replace h := it_n c_1 h
    refine lv_iload_n hx hb dX7_undo_4 rfl (lv_at hl 1 rfl) ?_
    refine lv_aload_n hx hb dX7_undo_5 rfl (lv_at hl 0 rfl) ?_
    refine x_get (rest := [.int x1]) X hP (gC0 c3 ad w) rfl iwX7_undo_X7 3 (by decide) lkX7_undo_27 rfl dX7_undo_6 ?_
    refine x_get (rest := [.int x1]) X hP (gC23 c3 ad w) rfl iwX7_undo_X2 11 (by decide) lkX7_undo_168 rfl dX7_undo_9 ?_
    refine lv_icmp_le (tgt := 17) hx hb dX7_undo_12 (by decide) (fun c_2 => ?_) (fun c_2 => ?_)
    · replace h := it_p c_2 h
      refine lv_aload_n hx hb dX7_undo_17 rfl (lv_at hl 0 rfl) ?_
      refine x_get (rest := []) X hP (gC0 c3 ad w) rfl iwX7_undo_X7 3 (by decide) lkX7_undo_27 rfl dX7_undo_18 ?_
      refine x_get (rest := []) X hP (gC23 c3 ad w) rfl iwX7_undo_X2 11 (by decide) lkX7_undo_168 rfl dX7_undo_21 ?_
      refine lv_iload_n hx hb dX7_undo_24 rfl (lv_at hl 1 rfl) ?_
      refine lv_isub hx hb dX7_undo_25 ?_
      refine x_nmi h (fun x2_3 h => ?_)
      refine lv_istore_n (lv' := [(2, .int x2_3), (0, .ref (ad 0)), (1, .int x1)]) hx hb dX7_undo_26 rfl hl (by decide) rfl (fun ls hl => ?_)
      refine lv_aload_n hx hb dX7_undo_27 rfl (lv_at hl 1 rfl) ?_
      refine x_get (rest := []) X hP (gC0 c3 ad w) rfl iwX7_undo_X7 3 (by decide) lkX7_undo_27 rfl dX7_undo_28 ?_
      refine lv_iload_n hx hb dX7_undo_31 rfl (lv_at hl 2 rfl) ?_
      obtain ⟨w_6, e_4, h⟩ := bo_s h
      refine x_gov X hS (x_runV (As := [.int x1]) (rest := []) X gC_ok hP hS (ctX2_goBackTo_23 l D c3 ad w _ x1 _ e_4) (cwV 1 hts gX7_undo_X2_goBackTo rfl rfl rfl (by decide +kernel) ⟨by decide, by decide⟩) (gC23 c3 ad w) rfl rfl rfl hl.1 rfl (Nat.le_of_ble_eq_true rfl) dX7_undo_32) (fun H locs hP hS => ?_)
      refine lv_iload_n hx hb dX7_undo_35 rfl (lv_at hl 0 rfl) ?_
      obtain ⟨rfl, rfl⟩ := Prod.mk.inj (Option.some.inj h)
      exact hret _ _ _ _ hP hS dX7_undo_36
    · replace h := it_n c_2 h
      refine lv_iconst (v := (-1)) hx hb dX7_undo_15 (by decide) ?_
      obtain ⟨rfl, rfl⟩ := Prod.mk.inj (Option.some.inj h)
      exact hret _ _ _ _ hP hS dX7_undo_16
def fX7_undo (x1 : Int32) (w : Mm) : Option (Int32 × Mm) := fX7_undo_E x1 w
theorem ctX7_undo (l : Launch) (D : va_G) (c3 : C3) (ad : Nat → Nat) (w : Mm) (sz : Nat) (x1 : Int32) (r : Int32) (w' : Mm) (h : fX7_undo x1 w = some (r, w')) : Ci l yX7_undo wsX7_undo rmX7_undo D c3 (encC c3 ad) gC [.ref (ad 0), .int x1] w sz r w' := by
  refine Ci.of (cc := cX7_undo) (maxL := 3) (encC_ok c3 ad) (by decide) rfl (Nat.le_of_ble_eq_true rfl) ?_
  intro p e s m below meth c A Q ls X hret hP hS hl
  exact bX7_undo_E X hret x1 w _ _ ls hP hS hl h
def rmX5_isNumber_17 : Room := { frames := 0, cells := 0, slots := 0, locals := 0 }
def fX5_isNumber_17_E (x1 : Int32) (w : Mm) : Option (Int32) := (if x1 < 0 then some 0 else (if 3 ≤ x1 then some 0 else some 1))
set_option maxRecDepth 20000 in
theorem bX5_isNumber_17_E {p : Program} {l : Launch} {e : Env} {s : State} {m : MethodId} {args : Array Value} {below : List Frame} {meth : Method} {c : Code} {Q : State → Prop} {D : va_G} {c3 : C3} {ad : Nat → Nat} {A : Nat → Prop} {r : Int32} {w : Mm} (X : Cx p s m args c cX5_isNumber 2 RX5 wsX5_isNumber D c3 (encC c3 ad) gC A) (hret : Rz p l e (rmX5_isNumber_17) s m args below meth c Q cX5_isNumber D (encC c3 ad) A r w) : ∀ (x1 : Int32) (H : Heap) (locs : List Loc) (ls : Array Slot), va_P D vwCl ((encC c3 ad) w) H → va_S A s.heap H locs → lv_has ls 2 [(0, .ref (ad 17)), (1, .int x1)] → fX5_isNumber_17_E x1 w = some r → W p l e (rmX5_isNumber_17) s m args below meth c H locs 0 0 Q (F0 m 0 ls []) := by
  have hx := X.1
  have hb := X.2.1
  have hml := X.2.2.1
  have hown := X.2.2.2.1
  have hts := X.2.2.2.2.1
  intro x1 H locs ls hP hS hl h
  unfold fX5_isNumber_17_E at h
  refine lv_iload_n hx hb dX5_isNumber_0 rfl (lv_at hl 1 rfl) ?_
  refine lv_if_lt (tgt := 17) hx hb dX5_isNumber_1 (by decide) (fun c_1 => ?_) (fun c_1 => ?_)
  · replace h := it_p c_1 h
    refine lv_iconst (v := 0) hx hb dX5_isNumber_17 (by decide) ?_
    obtain rfl := Option.some.inj h
    exact hret (Or.inl rfl) _ _ _ _ hP hS dX5_isNumber_18
  · replace h := it_n c_1 h
    refine lv_iload_n hx hb dX5_isNumber_4 rfl (lv_at hl 1 rfl) ?_
    refine lv_aload_n hx hb dX5_isNumber_5 rfl (lv_at hl 0 rfl) ?_
    refine x_get (rest := [.int x1]) X hP (gC17 c3 ad w) rfl iwX5_isNumber_X5 1 (by decide) lkX5_isNumber_16 rfl dX5_isNumber_6 ?_
    refine x_alen (v := 3) X hP (gC19 c3 ad w) rfl dX5_isNumber_9 ?_
    refine lv_icmp_ge (tgt := 17) hx hb dX5_isNumber_10 (by decide) (fun c_2 => ?_) (fun c_2 => ?_)
    · replace h := it_p c_2 h
      refine lv_iconst (v := 0) hx hb dX5_isNumber_17 (by decide) ?_
      obtain rfl := Option.some.inj h
      exact hret (Or.inl rfl) _ _ _ _ hP hS dX5_isNumber_18
    · replace h := it_n c_2 h
      refine lv_iconst (v := 1) hx hb dX5_isNumber_13 (by decide) ?_
      refine lv_goto (tgt := 18) hx hb dX5_isNumber_14 (by decide) ?_
      obtain rfl := Option.some.inj h
      exact hret (Or.inr rfl) _ _ _ _ hP hS dX5_isNumber_18
def fX5_isNumber_17 (x1 : Int32) (w : Mm) : Option (Int32) := fX5_isNumber_17_E x1 w
theorem ctX5_isNumber_17 (l : Launch) (D : va_G) (c3 : C3) (ad : Nat → Nat) (w : Mm) (sz : Nat) (x1 : Int32) (r : Int32) (h : fX5_isNumber_17 x1 w = some r) : Ci l yX5_isNumber wsX5_isNumber rmX5_isNumber_17 D c3 (encC c3 ad) gC [.ref (ad 17), .int x1] w sz r w := by
  refine Ci.ofz (cc := cX5_isNumber) (maxL := 2) (encC_ok c3 ad) (by decide) rfl (Nat.le_of_ble_eq_true rfl) ?_
  intro p e s m below meth c A Q ls X hret hP hS hl
  exact bX5_isNumber_17_E X hret x1 _ _ ls hP hS hl h
theorem iwX7_keep_X2 : ∀ w ∈ wsX20, w ∈ wsX7_keep := fun _ h => List.mem_cons_of_mem _ (List.mem_append_left _ (List.mem_append_right _ h))
theorem iwX7_keep_X5 : ∀ w ∈ wsX50, w ∈ wsX7_keep := fun _ h => List.mem_cons_of_mem _ (List.mem_append_right _ h)
theorem iwX7_keep_X7 : ∀ w ∈ wsX70, w ∈ wsX7_keep := fun _ h => List.mem_cons_of_mem _ (List.mem_append_left _ (List.mem_append_left _ (List.mem_append_right _ h)))
theorem lkX7_keep_21 : Cond.fieldLink RX7 21 "StuckDoor" "kept" "LStuckDoor$Rows;" ∈ wsX7_keep := by decide +kernel
theorem lkX7_keep_27 : Cond.fieldLink RX7 27 "StuckDoor" "family" "LStuckDoor$Family;" ∈ wsX7_keep := by decide +kernel
theorem lkX7_keep_86 : Cond.fieldLink RX7 86 "StuckDoor$Rows" "places" "[[I" ∈ wsX7_keep := by decide +kernel
theorem lkX7_keep_94 : Cond.fieldLink RX7 94 "StuckDoor$Rows" "sizes" "[I" ∈ wsX7_keep := by decide +kernel
theorem lkX7_keep_168 : Cond.fieldLink RX7 168 "StuckDoor$Family" "deeds" "I" ∈ wsX7_keep := by decide +kernel
theorem lkX7_keep_187 : Cond.fieldLink RX7 187 "StuckDoor$Family" "deed" "[I" ∈ wsX7_keep := by decide +kernel
def rmX7_keep : Room := { frames := 1, cells := 0, slots := 0, locals := 26 }
def fX7_keep_E (x1 : Int32) (w : Mm) : Option (Int32 × Mm) := bo (fX5_isNumber_17 x1 w) (fun r_2 => (if r_2 = 0 then some ((-1), w) else bo (fX2_isEmpty_23 w) (fun r_6 => (if r_6 = 0 then gd (inb x1 3 = true) (gd (¬ (0 : Int32) < 0 ∧ ¬ (0 : Int32) < 0 ∧ ¬ (w.1 23 11) < 0 ∧ (0 : Int32).toNatClampNeg + (w.1 23 11).toNatClampNeg ≤ 40 ∧ (0 : Int32).toNatClampNeg + (w.1 23 11).toNatClampNeg ≤ 40) (nm (sF w (20 + x1.toNatClampNeg) (va_cpy (w.1 29) (w.1 (20 + x1.toNatClampNeg)) (0 : Int32).toNatClampNeg (0 : Int32).toNatClampNeg (w.1 23 11).toNatClampNeg)) (fun w_12 => nm (sA w_12 19 x1.toNatClampNeg (w_12.1 23 11)) (fun w_13 => some ((w_13.1 23 11), w_13))))) else some ((-4), w)))))
set_option maxRecDepth 20000 in
theorem bX7_keep_E {p : Program} {l : Launch} {e : Env} {s : State} {m : MethodId} {args : Array Value} {below : List Frame} {meth : Method} {c : Code} {Q : State → Prop} {D : va_G} {c3 : C3} {ad : Nat → Nat} {A : Nat → Prop} {r : Int32} {w' : Mm} (X : Cx p s m args c cX7_keep 2 RX7 wsX7_keep D c3 (encC c3 ad) gC A) (hret : Ri p l e (rmX7_keep) s m args below meth c Q cX7_keep D (encC c3 ad) A r w') : ∀ (x1 : Int32) (w : Mm) (H : Heap) (locs : List Loc) (ls : Array Slot), va_P D vwCl ((encC c3 ad) w) H → va_S A s.heap H locs → lv_has ls 2 [(0, .ref (ad 0)), (1, .int x1)] → fX7_keep_E x1 w = some (r, w') → W p l e (rmX7_keep) s m args below meth c H locs 0 0 Q (F0 m 0 ls []) := by
  have hx := X.1
  have hb := X.2.1
  have hml := X.2.2.1
  have hown := X.2.2.2.1
  have hts := X.2.2.2.2.1
  intro x1 w H locs ls hP hS hl h
  unfold fX7_keep_E at h
  refine lv_aload_n hx hb dX7_keep_0 rfl (lv_at hl 0 rfl) ?_
  refine x_get (rest := []) X hP (gC0 c3 ad w) rfl iwX7_keep_X7 2 (by decide) lkX7_keep_21 rfl dX7_keep_1 ?_
  refine lv_iload_n hx hb dX7_keep_4 rfl (lv_at hl 1 rfl) ?_
  obtain ⟨r_2, e_1, h⟩ := bo_s h
  refine x_goi X hS (x_runV (As := [.int x1]) (rest := []) X gC_ok hP hS (ctX5_isNumber_17 l D c3 ad w _ x1 _ e_1) (cwV 1 hts gX7_keep_X5_isNumber rfl rfl rfl (by decide +kernel) ⟨by decide, by decide⟩) (gC17 c3 ad w) rfl rfl rfl hl.1 rfl (Nat.le_of_ble_eq_true rfl) dX7_keep_5) (fun H locs hP hS => ?_)
  refine lv_if_ne (tgt := 13) hx hb dX7_keep_8 (by decide) (fun c_4 => ?_) (fun c_4 => ?_)
  · replace h := it_n c_4 h
    refine lv_aload_n hx hb dX7_keep_13 rfl (lv_at hl 0 rfl) ?_
    refine x_get (rest := []) X hP (gC0 c3 ad w) rfl iwX7_keep_X7 3 (by decide) lkX7_keep_27 rfl dX7_keep_14 ?_
    obtain ⟨r_6, e_5, h⟩ := bo_s h
    refine x_goi X hS (x_runV (As := []) (rest := []) X gC_ok hP hS (ctX2_isEmpty_23 l D c3 ad w _ _ e_5) (cwV 0 hts gX7_keep_X2_isEmpty rfl rfl rfl (by decide +kernel) ⟨by decide, by decide⟩) (gC23 c3 ad w) rfl rfl rfl hl.1 rfl (Nat.le_of_ble_eq_true rfl) dX7_keep_17) (fun H locs hP hS => ?_)
    refine lv_if_eq (tgt := 26) hx hb dX7_keep_20 (by decide) (fun c_8 => ?_) (fun c_8 => ?_)
    · replace h := it_p c_8 h
      refine lv_aload_n hx hb dX7_keep_26 rfl (lv_at hl 0 rfl) ?_
      refine x_get (rest := []) X hP (gC0 c3 ad w) rfl iwX7_keep_X7 3 (by decide) lkX7_keep_27 rfl dX7_keep_27 ?_
      refine x_get (rest := []) X hP (gC23 c3 ad w) rfl iwX7_keep_X2 12 (by decide) lkX7_keep_187 rfl dX7_keep_30 ?_
      refine lv_iconst (v := 0) hx hb dX7_keep_33 (by decide) ?_
      refine lv_aload_n hx hb dX7_keep_34 rfl (lv_at hl 0 rfl) ?_
      refine x_get (rest := [.int 0, .ref (ad 29)]) X hP (gC0 c3 ad w) rfl iwX7_keep_X7 2 (by decide) lkX7_keep_21 rfl dX7_keep_35 ?_
      refine x_get (rest := [.int 0, .ref (ad 29)]) X hP (gC17 c3 ad w) rfl iwX7_keep_X5 0 (by decide) lkX7_keep_86 rfl dX7_keep_38 ?_
      refine lv_iload_n hx hb dX7_keep_41 rfl (lv_at hl 1 rfl) ?_
      obtain ⟨g_9, h⟩ := gd_s h
      have q_10 := rgn 20 g_9
      refine x_aald (z := ad (20 + x1.toNatClampNeg)) X hP (gC18 c3 ad w) g_9 rfl dX7_keep_42 ?_
      refine lv_iconst (v := 0) hx hb dX7_keep_43 (by decide) ?_
      refine lv_aload_n hx hb dX7_keep_44 rfl (lv_at hl 0 rfl) ?_
      refine x_get (rest := [.int 0, .ref (ad (20 + x1.toNatClampNeg)), .int 0, .ref (ad 29)]) X hP (gC0 c3 ad w) rfl iwX7_keep_X7 3 (by decide) lkX7_keep_27 rfl dX7_keep_45 ?_
      refine x_get (rest := [.int 0, .ref (ad (20 + x1.toNatClampNeg)), .int 0, .ref (ad 29)]) X hP (gC23 c3 ad w) rfl iwX7_keep_X2 11 (by decide) lkX7_keep_168 rfl dX7_keep_48 ?_
      obtain ⟨g_11, h⟩ := gd_s h
      refine x_copy X hP hS (gC29 c3 ad w) (gCrK c3 ad w q_10) (tCrK c3 ad w q_10 _) g_11 (by rw [hml]; exact hl.1.symm) (hts (.methodLink RX7 104 arraycopyName) (by decide +kernel)) (hts (.native arraycopyName) (by decide +kernel)) (hts (.static arraycopyName) (by decide +kernel)) (hts (.initialized "java/lang/System") (by decide +kernel)) (Nat.le_of_ble_eq_true rfl) (Nat.le_of_ble_eq_true rfl) dX7_keep_51 (fun H locs hP hS => ?_)
      refine x_nmw h hP (fun w_12 h hP => ?_)
      refine lv_aload_n hx hb dX7_keep_54 rfl (lv_at hl 0 rfl) ?_
      refine x_get (rest := []) X hP (gC0 c3 ad w_12) rfl iwX7_keep_X7 2 (by decide) lkX7_keep_21 rfl dX7_keep_55 ?_
      refine x_get (rest := []) X hP (gC17 c3 ad w_12) rfl iwX7_keep_X5 1 (by decide) lkX7_keep_94 rfl dX7_keep_58 ?_
      refine lv_iload_n hx hb dX7_keep_61 rfl (lv_at hl 1 rfl) ?_
      refine lv_aload_n hx hb dX7_keep_62 rfl (lv_at hl 0 rfl) ?_
      refine x_get (rest := [.int x1, .ref (ad 19)]) X hP (gC0 c3 ad w_12) rfl iwX7_keep_X7 3 (by decide) lkX7_keep_27 rfl dX7_keep_63 ?_
      refine x_get (rest := [.int x1, .ref (ad 19)]) X hP (gC23 c3 ad w_12) rfl iwX7_keep_X2 11 (by decide) lkX7_keep_168 rfl dX7_keep_66 ?_
      refine x_iast X hP hS (gC19 c3 ad w_12) (sC19 c3 ad w_12 _ _) g_9 dX7_keep_69 (fun H locs hP hS => ?_)
      refine x_nmw h hP (fun w_13 h hP => ?_)
      refine lv_aload_n hx hb dX7_keep_70 rfl (lv_at hl 0 rfl) ?_
      refine x_get (rest := []) X hP (gC0 c3 ad w_13) rfl iwX7_keep_X7 3 (by decide) lkX7_keep_27 rfl dX7_keep_71 ?_
      refine x_get (rest := []) X hP (gC23 c3 ad w_13) rfl iwX7_keep_X2 11 (by decide) lkX7_keep_168 rfl dX7_keep_74 ?_
      obtain ⟨rfl, rfl⟩ := Prod.mk.inj (Option.some.inj h)
      exact hret _ _ _ _ hP hS dX7_keep_77
    · replace h := it_n c_8 h
      refine lv_bipush (v := (-4)) hx hb dX7_keep_23 (by decide) ?_
      obtain ⟨rfl, rfl⟩ := Prod.mk.inj (Option.some.inj h)
      exact hret _ _ _ _ hP hS dX7_keep_25
  · replace h := it_p c_4 h
    refine lv_iconst (v := (-1)) hx hb dX7_keep_11 (by decide) ?_
    obtain ⟨rfl, rfl⟩ := Prod.mk.inj (Option.some.inj h)
    exact hret _ _ _ _ hP hS dX7_keep_12
def fX7_keep (x1 : Int32) (w : Mm) : Option (Int32 × Mm) := fX7_keep_E x1 w
theorem ctX7_keep (l : Launch) (D : va_G) (c3 : C3) (ad : Nat → Nat) (w : Mm) (sz : Nat) (x1 : Int32) (r : Int32) (w' : Mm) (h : fX7_keep x1 w = some (r, w')) : Ci l yX7_keep wsX7_keep rmX7_keep D c3 (encC c3 ad) gC [.ref (ad 0), .int x1] w sz r w' := by
  refine Ci.of (cc := cX7_keep) (maxL := 2) (encC_ok c3 ad) (by decide) rfl (Nat.le_of_ble_eq_true rfl) ?_
  intro p e s m below meth c A Q ls X hret hP hS hl
  exact bX7_keep_E X hret x1 w _ _ ls hP hS hl h
def rmX5_isThere_17 : Room := { frames := 1, cells := 0, slots := 0, locals := 21 }
def fX5_isThere_17_E (x1 : Int32) (w : Mm) : Option (Int32) := bo (fX5_isNumber_17 x1 w) (fun r_2 => (if r_2 = 0 then some 0 else gd (inb x1 3 = true) ((if (w.1 19 x1.toNatClampNeg) = (-1) then some 0 else some 1))))
set_option maxRecDepth 20000 in
theorem bX5_isThere_17_E {p : Program} {l : Launch} {e : Env} {s : State} {m : MethodId} {args : Array Value} {below : List Frame} {meth : Method} {c : Code} {Q : State → Prop} {D : va_G} {c3 : C3} {ad : Nat → Nat} {A : Nat → Prop} {r : Int32} {w : Mm} (X : Cx p s m args c cX5_isThere 2 RX5 wsX5_isThere D c3 (encC c3 ad) gC A) (hret : Rz p l e (rmX5_isThere_17) s m args below meth c Q cX5_isThere D (encC c3 ad) A r w) : ∀ (x1 : Int32) (H : Heap) (locs : List Loc) (ls : Array Slot), va_P D vwCl ((encC c3 ad) w) H → va_S A s.heap H locs → lv_has ls 2 [(0, .ref (ad 17)), (1, .int x1)] → fX5_isThere_17_E x1 w = some r → W p l e (rmX5_isThere_17) s m args below meth c H locs 0 0 Q (F0 m 0 ls []) := by
  have hx := X.1
  have hb := X.2.1
  have hml := X.2.2.1
  have hown := X.2.2.2.1
  have hts := X.2.2.2.2.1
  intro x1 H locs ls hP hS hl h
  unfold fX5_isThere_17_E at h
  refine lv_aload_n hx hb dX5_isThere_0 rfl (lv_at hl 0 rfl) ?_
  refine lv_iload_n hx hb dX5_isThere_1 rfl (lv_at hl 1 rfl) ?_
  obtain ⟨r_2, e_1, h⟩ := bo_s h
  refine x_goi X hS (x_runV (As := [.int x1]) (rest := []) X gC_ok hP hS (ctX5_isNumber_17 l D c3 ad w _ x1 _ e_1) (cwV 1 hts gX5_isThere_X5_isNumber rfl rfl rfl (by decide +kernel) ⟨by decide, by decide⟩) (gC17 c3 ad w) rfl rfl rfl hl.1 rfl (Nat.le_of_ble_eq_true rfl) dX5_isThere_2) (fun H locs hP hS => ?_)
  refine lv_if_eq (tgt := 22) hx hb dX5_isThere_5 (by decide) (fun c_4 => ?_) (fun c_4 => ?_)
  · replace h := it_p c_4 h
    refine lv_iconst (v := 0) hx hb dX5_isThere_22 (by decide) ?_
    obtain rfl := Option.some.inj h
    exact hret (Or.inl rfl) _ _ _ _ hP hS dX5_isThere_23
  · replace h := it_n c_4 h
    refine lv_aload_n hx hb dX5_isThere_8 rfl (lv_at hl 0 rfl) ?_
    refine x_get (rest := []) X hP (gC17 c3 ad w) rfl iwX5_isThere_X5 1 (by decide) lkX5_isThere_16 rfl dX5_isThere_9 ?_
    refine lv_iload_n hx hb dX5_isThere_12 rfl (lv_at hl 1 rfl) ?_
    obtain ⟨g_5, h⟩ := gd_s h
    refine x_iald X hP (gC19 c3 ad w) g_5 dX5_isThere_13 ?_
    refine lv_iconst (v := (-1)) hx hb dX5_isThere_14 (by decide) ?_
    refine lv_icmp_eq (tgt := 22) hx hb dX5_isThere_15 (by decide) (fun c_6 => ?_) (fun c_6 => ?_)
    · replace h := it_p c_6 h
      refine lv_iconst (v := 0) hx hb dX5_isThere_22 (by decide) ?_
      obtain rfl := Option.some.inj h
      exact hret (Or.inl rfl) _ _ _ _ hP hS dX5_isThere_23
    · replace h := it_n c_6 h
      refine lv_iconst (v := 1) hx hb dX5_isThere_18 (by decide) ?_
      refine lv_goto (tgt := 23) hx hb dX5_isThere_19 (by decide) ?_
      obtain rfl := Option.some.inj h
      exact hret (Or.inr rfl) _ _ _ _ hP hS dX5_isThere_23
def fX5_isThere_17 (x1 : Int32) (w : Mm) : Option (Int32) := fX5_isThere_17_E x1 w
theorem ctX5_isThere_17 (l : Launch) (D : va_G) (c3 : C3) (ad : Nat → Nat) (w : Mm) (sz : Nat) (x1 : Int32) (r : Int32) (h : fX5_isThere_17 x1 w = some r) : Ci l yX5_isThere wsX5_isThere rmX5_isThere_17 D c3 (encC c3 ad) gC [.ref (ad 17), .int x1] w sz r w := by
  refine Ci.ofz (cc := cX5_isThere) (maxL := 2) (encC_ok c3 ad) (by decide) rfl (Nat.le_of_ble_eq_true rfl) ?_
  intro p e s m below meth c A Q ls X hret hP hS hl
  exact bX5_isThere_17_E X hret x1 _ _ ls hP hS hl h
def rmX7_refusalOfRow_0_17 : Room := { frames := 2, cells := 0, slots := 0, locals := 42 }
def fX7_refusalOfRow_0_17_E (x2 : Int32) (w : Mm) : Option (Int32 × Mm) := bo (fX5_isNumber_17 x2 w) (fun r_2 => (if r_2 = 0 then some ((-1), w) else bo (fX5_isThere_17 x2 w) (fun r_6 => (if r_6 = 0 then bd (fX7_refuse 1 w) (fun r_10 w_11 => some (r_10, w_11)) else some (0, w)))))
set_option maxRecDepth 20000 in
theorem bX7_refusalOfRow_0_17_E {p : Program} {l : Launch} {e : Env} {s : State} {m : MethodId} {args : Array Value} {below : List Frame} {meth : Method} {c : Code} {Q : State → Prop} {D : va_G} {c3 : C3} {ad : Nat → Nat} {A : Nat → Prop} {r : Int32} {w' : Mm} (X : Cx p s m args c cX7_refusalOfRow 3 RX7 wsX7_refusalOfRow D c3 (encC c3 ad) gC A) (hret : Ri p l e (rmX7_refusalOfRow_0_17) s m args below meth c Q cX7_refusalOfRow D (encC c3 ad) A r w') : ∀ (x2 : Int32) (w : Mm) (H : Heap) (locs : List Loc) (ls : Array Slot), va_P D vwCl ((encC c3 ad) w) H → va_S A s.heap H locs → lv_has ls 3 [(0, .ref (ad 0)), (1, .ref (ad 17)), (2, .int x2)] → fX7_refusalOfRow_0_17_E x2 w = some (r, w') → W p l e (rmX7_refusalOfRow_0_17) s m args below meth c H locs 0 0 Q (F0 m 0 ls []) := by
  have hx := X.1
  have hb := X.2.1
  have hml := X.2.2.1
  have hown := X.2.2.2.1
  have hts := X.2.2.2.2.1
  intro x2 w H locs ls hP hS hl h
  unfold fX7_refusalOfRow_0_17_E at h
  refine lv_aload_n hx hb dX7_refusalOfRow_0 rfl (lv_at hl 1 rfl) ?_
  refine lv_iload_n hx hb dX7_refusalOfRow_1 rfl (lv_at hl 2 rfl) ?_
  obtain ⟨r_2, e_1, h⟩ := bo_s h
  refine x_goi X hS (x_runV (As := [.int x2]) (rest := []) X gC_ok hP hS (ctX5_isNumber_17 l D c3 ad w _ x2 _ e_1) (cwV 1 hts gX7_refusalOfRow_X5_isNumber rfl rfl rfl (by decide +kernel) ⟨by decide, by decide⟩) (gC17 c3 ad w) rfl rfl rfl hl.1 rfl (Nat.le_of_ble_eq_true rfl) dX7_refusalOfRow_2) (fun H locs hP hS => ?_)
  refine lv_if_ne (tgt := 10) hx hb dX7_refusalOfRow_5 (by decide) (fun c_4 => ?_) (fun c_4 => ?_)
  · replace h := it_n c_4 h
    refine lv_aload_n hx hb dX7_refusalOfRow_10 rfl (lv_at hl 1 rfl) ?_
    refine lv_iload_n hx hb dX7_refusalOfRow_11 rfl (lv_at hl 2 rfl) ?_
    obtain ⟨r_6, e_5, h⟩ := bo_s h
    refine x_goi X hS (x_runV (As := [.int x2]) (rest := []) X gC_ok hP hS (ctX5_isThere_17 l D c3 ad w _ x2 _ e_5) (cwV 1 hts gX7_refusalOfRow_X5_isThere rfl rfl rfl (by decide +kernel) ⟨by decide, by decide⟩) (gC17 c3 ad w) rfl rfl rfl hl.1 rfl (Nat.le_of_ble_eq_true rfl) dX7_refusalOfRow_12) (fun H locs hP hS => ?_)
    refine lv_if_eq (tgt := 22) hx hb dX7_refusalOfRow_15 (by decide) (fun c_8 => ?_) (fun c_8 => ?_)
    · replace h := it_p c_8 h
      refine lv_aload_n hx hb dX7_refusalOfRow_22 rfl (lv_at hl 0 rfl) ?_
      refine lv_iconst (v := 1) hx hb dX7_refusalOfRow_23 (by decide) ?_
      obtain ⟨r_10, w_11, e_9, h⟩ := bd_s h
      refine x_goi X hS (x_runV (As := [.int 1]) (rest := []) X gC_ok hP hS (ctX7_refuse l D c3 ad w _ 1 _ _ e_9) (cwV 1 hts gX7_refusalOfRow_X7_refuse rfl rfl rfl (by decide +kernel) ⟨by decide, by decide⟩) (gC0 c3 ad w) rfl rfl rfl hl.1 rfl (Nat.le_of_ble_eq_true rfl) dX7_refusalOfRow_24) (fun H locs hP hS => ?_)
      obtain ⟨rfl, rfl⟩ := Prod.mk.inj (Option.some.inj h)
      exact hret _ _ _ _ hP hS dX7_refusalOfRow_27
    · replace h := it_n c_8 h
      refine lv_iconst (v := 0) hx hb dX7_refusalOfRow_18 (by decide) ?_
      refine lv_goto (tgt := 27) hx hb dX7_refusalOfRow_19 (by decide) ?_
      obtain ⟨rfl, rfl⟩ := Prod.mk.inj (Option.some.inj h)
      exact hret _ _ _ _ hP hS dX7_refusalOfRow_27
  · replace h := it_p c_4 h
    refine lv_iconst (v := (-1)) hx hb dX7_refusalOfRow_8 (by decide) ?_
    obtain ⟨rfl, rfl⟩ := Prod.mk.inj (Option.some.inj h)
    exact hret _ _ _ _ hP hS dX7_refusalOfRow_9
def fX7_refusalOfRow_0_17 (x2 : Int32) (w : Mm) : Option (Int32 × Mm) := fX7_refusalOfRow_0_17_E x2 w
theorem ctX7_refusalOfRow_0_17 (l : Launch) (D : va_G) (c3 : C3) (ad : Nat → Nat) (w : Mm) (sz : Nat) (x2 : Int32) (r : Int32) (w' : Mm) (h : fX7_refusalOfRow_0_17 x2 w = some (r, w')) : Ci l yX7_refusalOfRow wsX7_refusalOfRow rmX7_refusalOfRow_0_17 D c3 (encC c3 ad) gC [.ref (ad 0), .ref (ad 17), .int x2] w sz r w' := by
  refine Ci.of (cc := cX7_refusalOfRow) (maxL := 3) (encC_ok c3 ad) (by decide) rfl (Nat.le_of_ble_eq_true rfl) ?_
  intro p e s m below meth c A Q ls X hret hP hS hl
  exact bX7_refusalOfRow_0_17_E X hret x2 w _ _ ls hP hS hl h
theorem iwX7_on_X2 : ∀ w ∈ wsX20, w ∈ wsX7_on := fun _ h => List.mem_cons_of_mem _ (List.mem_append_right _ h)
theorem iwX7_on_X5 : ∀ w ∈ wsX50, w ∈ wsX7_on := fun _ h => List.mem_cons_of_mem _ (List.mem_append_left _ (List.mem_append_right _ h))
theorem iwX7_on_X7 : ∀ w ∈ wsX70, w ∈ wsX7_on := fun _ h => List.mem_cons_of_mem _ (List.mem_append_left _ (List.mem_append_left _ (List.mem_append_right _ h)))
theorem lkX7_on_21 : Cond.fieldLink RX7 21 "StuckDoor" "kept" "LStuckDoor$Rows;" ∈ wsX7_on := by decide +kernel
theorem lkX7_on_27 : Cond.fieldLink RX7 27 "StuckDoor" "family" "LStuckDoor$Family;" ∈ wsX7_on := by decide +kernel
theorem lkX7_on_86 : Cond.fieldLink RX7 86 "StuckDoor$Rows" "places" "[[I" ∈ wsX7_on := by decide +kernel
theorem lkX7_on_94 : Cond.fieldLink RX7 94 "StuckDoor$Rows" "sizes" "[I" ∈ wsX7_on := by decide +kernel
theorem lkX7_on_168 : Cond.fieldLink RX7 168 "StuckDoor$Family" "deeds" "I" ∈ wsX7_on := by decide +kernel
theorem lkX7_on_187 : Cond.fieldLink RX7 187 "StuckDoor$Family" "deed" "[I" ∈ wsX7_on := by decide +kernel
def rmX7_on : Room := { frames := 6, cells := 0, slots := 0, locals := 132 }
def fX7_on_E (x1 : Int32) (w : Mm) : Option (Int32 × Mm) := bd (fX7_refusalOfRow_0_17 x1 w) (fun r_2 w_3 => (if r_2 = 0 then gd (inb x1 3 = true) (gd (¬ (0 : Int32) < 0 ∧ ¬ (0 : Int32) < 0 ∧ ¬ (w_3.1 19 x1.toNatClampNeg) < 0 ∧ (0 : Int32).toNatClampNeg + (w_3.1 19 x1.toNatClampNeg).toNatClampNeg ≤ 40 ∧ (0 : Int32).toNatClampNeg + (w_3.1 19 x1.toNatClampNeg).toNatClampNeg ≤ 40) (nm (sF w_3 29 (va_cpy (w_3.1 (20 + x1.toNatClampNeg)) (w_3.1 29) (0 : Int32).toNatClampNeg (0 : Int32).toNatClampNeg (w_3.1 19 x1.toNatClampNeg).toNatClampNeg)) (fun w_8 => bo (fX2_goBackTo_23 (w_8.1 19 x1.toNatClampNeg) w_8) (fun w_11 => some ((w_11.1 23 11), w_11))))) else some (r_2, w_3)))
set_option maxRecDepth 20000 in
theorem bX7_on_E {p : Program} {l : Launch} {e : Env} {s : State} {m : MethodId} {args : Array Value} {below : List Frame} {meth : Method} {c : Code} {Q : State → Prop} {D : va_G} {c3 : C3} {ad : Nat → Nat} {A : Nat → Prop} {r : Int32} {w' : Mm} (X : Cx p s m args c cX7_on 3 RX7 wsX7_on D c3 (encC c3 ad) gC A) (hret : Ri p l e (rmX7_on) s m args below meth c Q cX7_on D (encC c3 ad) A r w') : ∀ (x1 : Int32) (w : Mm) (H : Heap) (locs : List Loc) (ls : Array Slot), va_P D vwCl ((encC c3 ad) w) H → va_S A s.heap H locs → lv_has ls 3 [(0, .ref (ad 0)), (1, .int x1)] → fX7_on_E x1 w = some (r, w') → W p l e (rmX7_on) s m args below meth c H locs 0 0 Q (F0 m 0 ls []) := by
  have hx := X.1
  have hb := X.2.1
  have hml := X.2.2.1
  have hown := X.2.2.2.1
  have hts := X.2.2.2.2.1
  intro x1 w H locs ls hP hS hl h
  unfold fX7_on_E at h
  refine lv_aload_n hx hb dX7_on_0 rfl (lv_at hl 0 rfl) ?_
  refine lv_aload_n hx hb dX7_on_1 rfl (lv_at hl 0 rfl) ?_
  refine x_get (rest := [.ref (ad 0)]) X hP (gC0 c3 ad w) rfl iwX7_on_X7 2 (by decide) lkX7_on_21 rfl dX7_on_2 ?_
  refine lv_iload_n hx hb dX7_on_5 rfl (lv_at hl 1 rfl) ?_
  obtain ⟨r_2, w_3, e_1, h⟩ := bd_s h
  refine x_goi X hS (x_runV (As := [.ref (ad 17), .int x1]) (rest := []) X gC_ok hP hS (ctX7_refusalOfRow_0_17 l D c3 ad w _ x1 _ _ e_1) (cwV 2 hts gX7_on_X7_refusalOfRow rfl rfl rfl (by decide +kernel) ⟨by decide, by decide⟩) (gC0 c3 ad w) rfl rfl rfl hl.1 rfl (Nat.le_of_ble_eq_true rfl) dX7_on_6) (fun H locs hP hS => ?_)
  refine lv_istore_n (lv' := [(2, .int r_2), (0, .ref (ad 0)), (1, .int x1)]) hx hb dX7_on_9 rfl hl (by decide) rfl (fun ls hl => ?_)
  refine lv_iload_n hx hb dX7_on_10 rfl (lv_at hl 0 rfl) ?_
  refine lv_if_eq (tgt := 16) hx hb dX7_on_11 (by decide) (fun c_4 => ?_) (fun c_4 => ?_)
  · replace h := it_p c_4 h
    refine lv_aload_n hx hb dX7_on_16 rfl (lv_at hl 1 rfl) ?_
    refine x_get (rest := []) X hP (gC0 c3 ad w_3) rfl iwX7_on_X7 2 (by decide) lkX7_on_21 rfl dX7_on_17 ?_
    refine x_get (rest := []) X hP (gC17 c3 ad w_3) rfl iwX7_on_X5 0 (by decide) lkX7_on_86 rfl dX7_on_20 ?_
    refine lv_iload_n hx hb dX7_on_23 rfl (lv_at hl 2 rfl) ?_
    obtain ⟨g_5, h⟩ := gd_s h
    have q_6 := rgn 20 g_5
    refine x_aald (z := ad (20 + x1.toNatClampNeg)) X hP (gC18 c3 ad w_3) g_5 rfl dX7_on_24 ?_
    refine lv_iconst (v := 0) hx hb dX7_on_25 (by decide) ?_
    refine lv_aload_n hx hb dX7_on_26 rfl (lv_at hl 1 rfl) ?_
    refine x_get (rest := [.int 0, .ref (ad (20 + x1.toNatClampNeg))]) X hP (gC0 c3 ad w_3) rfl iwX7_on_X7 3 (by decide) lkX7_on_27 rfl dX7_on_27 ?_
    refine x_get (rest := [.int 0, .ref (ad (20 + x1.toNatClampNeg))]) X hP (gC23 c3 ad w_3) rfl iwX7_on_X2 12 (by decide) lkX7_on_187 rfl dX7_on_30 ?_
    refine lv_iconst (v := 0) hx hb dX7_on_33 (by decide) ?_
    refine lv_aload_n hx hb dX7_on_34 rfl (lv_at hl 1 rfl) ?_
    refine x_get (rest := [.int 0, .ref (ad 29), .int 0, .ref (ad (20 + x1.toNatClampNeg))]) X hP (gC0 c3 ad w_3) rfl iwX7_on_X7 2 (by decide) lkX7_on_21 rfl dX7_on_35 ?_
    refine x_get (rest := [.int 0, .ref (ad 29), .int 0, .ref (ad (20 + x1.toNatClampNeg))]) X hP (gC17 c3 ad w_3) rfl iwX7_on_X5 1 (by decide) lkX7_on_94 rfl dX7_on_38 ?_
    refine lv_iload_n hx hb dX7_on_41 rfl (lv_at hl 2 rfl) ?_
    refine x_iald X hP (gC19 c3 ad w_3) g_5 dX7_on_42 ?_
    obtain ⟨g_7, h⟩ := gd_s h
    refine x_copy X hP hS (gCrK c3 ad w_3 q_6) (gC29 c3 ad w_3) (tC29 c3 ad w_3 _) g_7 (by rw [hml]; exact hl.1.symm) (hts (.methodLink RX7 104 arraycopyName) (by decide +kernel)) (hts (.native arraycopyName) (by decide +kernel)) (hts (.static arraycopyName) (by decide +kernel)) (hts (.initialized "java/lang/System") (by decide +kernel)) (Nat.le_of_ble_eq_true rfl) (Nat.le_of_ble_eq_true rfl) dX7_on_43 (fun H locs hP hS => ?_)
    refine x_nmw h hP (fun w_8 h hP => ?_)
    refine lv_aload_n hx hb dX7_on_46 rfl (lv_at hl 1 rfl) ?_
    refine x_get (rest := []) X hP (gC0 c3 ad w_8) rfl iwX7_on_X7 3 (by decide) lkX7_on_27 rfl dX7_on_47 ?_
    refine lv_aload_n hx hb dX7_on_50 rfl (lv_at hl 1 rfl) ?_
    refine x_get (rest := [.ref (ad 23)]) X hP (gC0 c3 ad w_8) rfl iwX7_on_X7 2 (by decide) lkX7_on_21 rfl dX7_on_51 ?_
    refine x_get (rest := [.ref (ad 23)]) X hP (gC17 c3 ad w_8) rfl iwX7_on_X5 1 (by decide) lkX7_on_94 rfl dX7_on_54 ?_
    refine lv_iload_n hx hb dX7_on_57 rfl (lv_at hl 2 rfl) ?_
    refine x_iald X hP (gC19 c3 ad w_8) g_5 dX7_on_58 ?_
    obtain ⟨w_11, e_9, h⟩ := bo_s h
    refine x_gov X hS (x_runV (As := [.int (w_8.1 19 x1.toNatClampNeg)]) (rest := []) X gC_ok hP hS (ctX2_goBackTo_23 l D c3 ad w_8 _ (w_8.1 19 x1.toNatClampNeg) _ e_9) (cwV 1 hts gX7_on_X2_goBackTo rfl rfl rfl (by decide +kernel) ⟨by decide, by decide⟩) (gC23 c3 ad w_8) rfl rfl rfl hl.1 rfl (Nat.le_of_ble_eq_true rfl) dX7_on_59) (fun H locs hP hS => ?_)
    refine lv_aload_n hx hb dX7_on_62 rfl (lv_at hl 1 rfl) ?_
    refine x_get (rest := []) X hP (gC0 c3 ad w_11) rfl iwX7_on_X7 3 (by decide) lkX7_on_27 rfl dX7_on_63 ?_
    refine x_get (rest := []) X hP (gC23 c3 ad w_11) rfl iwX7_on_X2 11 (by decide) lkX7_on_168 rfl dX7_on_66 ?_
    obtain ⟨rfl, rfl⟩ := Prod.mk.inj (Option.some.inj h)
    exact hret _ _ _ _ hP hS dX7_on_69
  · replace h := it_n c_4 h
    refine lv_iload_n hx hb dX7_on_14 rfl (lv_at hl 0 rfl) ?_
    obtain ⟨rfl, rfl⟩ := Prod.mk.inj (Option.some.inj h)
    exact hret _ _ _ _ hP hS dX7_on_15
def fX7_on (x1 : Int32) (w : Mm) : Option (Int32 × Mm) := fX7_on_E x1 w
theorem ctX7_on (l : Launch) (D : va_G) (c3 : C3) (ad : Nat → Nat) (w : Mm) (sz : Nat) (x1 : Int32) (r : Int32) (w' : Mm) (h : fX7_on x1 w = some (r, w')) : Ci l yX7_on wsX7_on rmX7_on D c3 (encC c3 ad) gC [.ref (ad 0), .int x1] w sz r w' := by
  refine Ci.of (cc := cX7_on) (maxL := 3) (encC_ok c3 ad) (by decide) rfl (Nat.le_of_ble_eq_true rfl) ?_
  intro p e s m below meth c A Q ls X hret hP hS hl
  exact bX7_on_E X hret x1 w _ _ ls hP hS hl h
theorem iwX2_whatCanBeSaid_X2 : ∀ w ∈ wsX20, w ∈ wsX2_whatCanBeSaid := fun _ h => List.mem_cons_of_mem _ (List.mem_append_right _ h)
theorem lkX2_whatCanBeSaid_19 : Cond.fieldLink RX2 19 "StuckDoor$Family" "sayings" "I" ∈ wsX2_whatCanBeSaid := by decide +kernel
def rmX2_whatCanBeSaid_23 : Room := { frames := 4, cells := 0, slots := 0, locals := 87 }
def fX2_whatCanBeSaid_23_34 (k4 : Int32 → Int32 → Option (Int32)) (x1 : Int32) (x2 : Int32) (x3 : Int32) (w : Mm) : Option (Int32) := k4 x2 (x3 + 1)
set_option maxRecDepth 20000 in
theorem bX2_whatCanBeSaid_23_34 {p : Program} {l : Launch} {e : Env} {s : State} {m : MethodId} {args : Array Value} {below : List Frame} {meth : Method} {c : Code} {Q : State → Prop} {D : va_G} {c3 : C3} {ad : Nat → Nat} {A : Nat → Prop} {r : Int32} {w : Mm} (X : Cx p s m args c cX2_whatCanBeSaid 4 RX2 wsX2_whatCanBeSaid D c3 (encC c3 ad) gC A) (hret : Ri p l e (rmX2_whatCanBeSaid_23) s m args below meth c Q cX2_whatCanBeSaid D (encC c3 ad) A r w) {x1 : Int32} {k4 : Int32 → Int32 → Option (Int32)} (hk4 : ∀ (x2 : Int32) (x3 : Int32) (H : Heap) (locs : List Loc) (ls : Array Slot), va_P D vwCl ((encC c3 ad) w) H → va_S A s.heap H locs → lv_has ls 4 [(0, .ref (ad 23)), (1, .int x1), (2, .int x2), (3, .int x3)] → k4 x2 x3 = some r → W p l e (rmX2_whatCanBeSaid_23) s m args below meth c H locs 0 0 Q (F0 m 4 ls [])) : ∀ (x2 : Int32) (x3 : Int32) (H : Heap) (locs : List Loc) (ls : Array Slot), va_P D vwCl ((encC c3 ad) w) H → va_S A s.heap H locs → lv_has ls 4 [(0, .ref (ad 23)), (1, .int x1), (2, .int x2), (3, .int x3)] → fX2_whatCanBeSaid_23_34 k4 x1 x2 x3 w = some r → W p l e (rmX2_whatCanBeSaid_23) s m args below meth c H locs 0 0 Q (F0 m 34 ls []) := by
  have hx := X.1
  have hb := X.2.1
  have hml := X.2.2.1
  have hown := X.2.2.2.1
  have hts := X.2.2.2.2.1
  intro x2 x3 H locs ls hP hS hl h
  unfold fX2_whatCanBeSaid_23_34 at h
  refine lv_iinc (v := (x3 + 1)) (lv' := [(3, .int (x3 + 1)), (0, .ref (ad 23)), (1, .int x1), (2, .int x2)]) hx hb dX2_whatCanBeSaid_34 hl (k := 3) rfl rfl (by decide) rfl (fun ls hl => ?_)
  refine lv_goto (tgt := 4) hx hb dX2_whatCanBeSaid_37 (by decide) ?_
  exact hk4 x2 (x3 + 1) _ _ _ hP hS (lv_sub hl [1, 2, 3, 0] rfl) h
def fX2_whatCanBeSaid_23_4 (x1 : Int32) (w : Mm) : Nat → Int32 → Int32 → Option (Int32)
  | 0, _, _ => none
  | n + 1, x2, x3 => (if (w.1 23 2) ≤ x3 then some x2 else bo (fX2_isAnyOver_23 w) (fun r_3 => (if r_3 = 0 then bo (fX2_bearsSaying_23 x1 x3 w) (fun r_7 => (if r_7 = 0 then fX2_whatCanBeSaid_23_34 (fX2_whatCanBeSaid_23_4 x1 w n) x1 x2 x3 w else nm (x2 ||| (1 <<< (x3 &&& 31))) (fun x2_10 => fX2_whatCanBeSaid_23_34 (fX2_whatCanBeSaid_23_4 x1 w n) x1 x2_10 x3 w))) else some x2)))
set_option maxRecDepth 20000 in
theorem bX2_whatCanBeSaid_23_4 {p : Program} {l : Launch} {e : Env} {s : State} {m : MethodId} {args : Array Value} {below : List Frame} {meth : Method} {c : Code} {Q : State → Prop} {D : va_G} {c3 : C3} {ad : Nat → Nat} {A : Nat → Prop} {r : Int32} {w : Mm} (X : Cx p s m args c cX2_whatCanBeSaid 4 RX2 wsX2_whatCanBeSaid D c3 (encC c3 ad) gC A) (hret : Ri p l e (rmX2_whatCanBeSaid_23) s m args below meth c Q cX2_whatCanBeSaid D (encC c3 ad) A r w) : ∀ (x1 : Int32) (n : Nat) (x2 : Int32) (x3 : Int32) (H : Heap) (locs : List Loc) (ls : Array Slot), va_P D vwCl ((encC c3 ad) w) H → va_S A s.heap H locs → lv_has ls 4 [(0, .ref (ad 23)), (1, .int x1), (2, .int x2), (3, .int x3)] → fX2_whatCanBeSaid_23_4 x1 w n x2 x3 = some r → W p l e (rmX2_whatCanBeSaid_23) s m args below meth c H locs 0 0 Q (F0 m 4 ls []) := by
  have hx := X.1
  have hb := X.2.1
  have hml := X.2.2.1
  have hown := X.2.2.2.1
  have hts := X.2.2.2.2.1
  intro x1 n
  induction n with
  | zero =>
    intro x2 x3 H locs ls hP hS hl h
    exact absurd h (by simp [fX2_whatCanBeSaid_23_4])
  | succ n ih =>
    intro x2 x3 H locs ls hP hS hl h
    rw [fX2_whatCanBeSaid_23_4] at h
    refine lv_iload_n hx hb dX2_whatCanBeSaid_4 rfl (lv_at hl 3 rfl) ?_
    refine lv_aload_n hx hb dX2_whatCanBeSaid_5 rfl (lv_at hl 0 rfl) ?_
    refine x_get (rest := [.int x3]) X hP (gC23 c3 ad w) rfl iwX2_whatCanBeSaid_X2 2 (by decide) lkX2_whatCanBeSaid_19 rfl dX2_whatCanBeSaid_6 ?_
    refine lv_icmp_ge (tgt := 40) hx hb dX2_whatCanBeSaid_9 (by decide) (fun c_1 => ?_) (fun c_1 => ?_)
    · replace h := it_p c_1 h
      refine lv_iload_n hx hb dX2_whatCanBeSaid_40 rfl (lv_at hl 2 rfl) ?_
      obtain rfl := Option.some.inj h
      exact hret _ _ _ _ hP hS dX2_whatCanBeSaid_41
    · replace h := it_n c_1 h
      refine lv_aload_n hx hb dX2_whatCanBeSaid_12 rfl (lv_at hl 0 rfl) ?_
      obtain ⟨r_3, e_2, h⟩ := bo_s h
      refine x_goi X hS (x_runV (As := []) (rest := []) X gC_ok hP hS (ctX2_isAnyOver_23 l D c3 ad w _ _ e_2) (cwV 0 hts gX2_whatCanBeSaid_X2_isAnyOver rfl rfl rfl (by decide +kernel) ⟨by decide, by decide⟩) (gC23 c3 ad w) rfl rfl rfl hl.1 rfl (Nat.le_of_ble_eq_true rfl) dX2_whatCanBeSaid_13) (fun H locs hP hS => ?_)
      refine lv_if_ne (tgt := 40) hx hb dX2_whatCanBeSaid_16 (by decide) (fun c_5 => ?_) (fun c_5 => ?_)
      · replace h := it_n c_5 h
        refine lv_iload_n hx hb dX2_whatCanBeSaid_40 rfl (lv_at hl 2 rfl) ?_
        obtain rfl := Option.some.inj h
        exact hret _ _ _ _ hP hS dX2_whatCanBeSaid_41
      · replace h := it_p c_5 h
        refine lv_aload_n hx hb dX2_whatCanBeSaid_19 rfl (lv_at hl 0 rfl) ?_
        refine lv_iload_n hx hb dX2_whatCanBeSaid_20 rfl (lv_at hl 1 rfl) ?_
        refine lv_iload_n hx hb dX2_whatCanBeSaid_21 rfl (lv_at hl 3 rfl) ?_
        obtain ⟨r_7, e_6, h⟩ := bo_s h
        refine x_goi X hS (x_runV (As := [.int x1, .int x3]) (rest := []) X gC_ok hP hS (ctX2_bearsSaying_23 l D c3 ad w _ x1 x3 _ e_6) (cwV 2 hts gX2_whatCanBeSaid_X2_bearsSaying rfl rfl rfl (by decide +kernel) ⟨by decide, by decide⟩) (gC23 c3 ad w) rfl rfl rfl hl.1 rfl (Nat.le_of_ble_eq_true rfl) dX2_whatCanBeSaid_22) (fun H locs hP hS => ?_)
        refine lv_if_eq (tgt := 34) hx hb dX2_whatCanBeSaid_25 (by decide) (fun c_9 => ?_) (fun c_9 => ?_)
        · replace h := it_p c_9 h
          exact bX2_whatCanBeSaid_23_34 (x1 := x1) (k4 := (fX2_whatCanBeSaid_23_4 x1 w n)) X hret ih x2 x3 _ _ _ hP hS (lv_sub hl [0, 1, 2, 3] rfl) h
        · replace h := it_n c_9 h
          refine lv_iload_n hx hb dX2_whatCanBeSaid_28 rfl (lv_at hl 2 rfl) ?_
          refine lv_iconst (v := 1) hx hb dX2_whatCanBeSaid_29 (by decide) ?_
          refine lv_iload_n hx hb dX2_whatCanBeSaid_30 rfl (lv_at hl 3 rfl) ?_
          refine lv_ishl hx hb dX2_whatCanBeSaid_31 ?_
          refine lv_ior hx hb dX2_whatCanBeSaid_32 ?_
          refine x_nmi h (fun x2_10 h => ?_)
          refine lv_istore_n (lv' := [(2, .int x2_10), (0, .ref (ad 23)), (1, .int x1), (3, .int x3)]) hx hb dX2_whatCanBeSaid_33 rfl hl (by decide) rfl (fun ls hl => ?_)
          exact bX2_whatCanBeSaid_23_34 (x1 := x1) (k4 := (fX2_whatCanBeSaid_23_4 x1 w n)) X hret ih x2_10 x3 _ _ _ hP hS (lv_sub hl [1, 2, 0, 3] rfl) h
def fX2_whatCanBeSaid_23_E (x1 : Int32) (w : Mm) : Option (Int32) := fX2_whatCanBeSaid_23_4 x1 w FU 0 0
set_option maxRecDepth 20000 in
theorem bX2_whatCanBeSaid_23_E {p : Program} {l : Launch} {e : Env} {s : State} {m : MethodId} {args : Array Value} {below : List Frame} {meth : Method} {c : Code} {Q : State → Prop} {D : va_G} {c3 : C3} {ad : Nat → Nat} {A : Nat → Prop} {r : Int32} {w : Mm} (X : Cx p s m args c cX2_whatCanBeSaid 4 RX2 wsX2_whatCanBeSaid D c3 (encC c3 ad) gC A) (hret : Ri p l e (rmX2_whatCanBeSaid_23) s m args below meth c Q cX2_whatCanBeSaid D (encC c3 ad) A r w) : ∀ (x1 : Int32) (H : Heap) (locs : List Loc) (ls : Array Slot), va_P D vwCl ((encC c3 ad) w) H → va_S A s.heap H locs → lv_has ls 4 [(0, .ref (ad 23)), (1, .int x1)] → fX2_whatCanBeSaid_23_E x1 w = some r → W p l e (rmX2_whatCanBeSaid_23) s m args below meth c H locs 0 0 Q (F0 m 0 ls []) := by
  have hx := X.1
  have hb := X.2.1
  have hml := X.2.2.1
  have hown := X.2.2.2.1
  have hts := X.2.2.2.2.1
  intro x1 H locs ls hP hS hl h
  unfold fX2_whatCanBeSaid_23_E at h
  refine lv_iconst (v := 0) hx hb dX2_whatCanBeSaid_0 (by decide) ?_
  refine lv_istore_n (lv' := [(2, .int 0), (0, .ref (ad 23)), (1, .int x1)]) hx hb dX2_whatCanBeSaid_1 rfl hl (by decide) rfl (fun ls hl => ?_)
  refine lv_iconst (v := 0) hx hb dX2_whatCanBeSaid_2 (by decide) ?_
  refine lv_istore_n (lv' := [(3, .int 0), (2, .int 0), (0, .ref (ad 23)), (1, .int x1)]) hx hb dX2_whatCanBeSaid_3 rfl hl (by decide) rfl (fun ls hl => ?_)
  exact bX2_whatCanBeSaid_23_4 X hret x1 FU 0 0 _ _ _ hP hS (lv_sub hl [2, 3, 1, 0] rfl) h
def fX2_whatCanBeSaid_23 (x1 : Int32) (w : Mm) : Option (Int32) := fX2_whatCanBeSaid_23_E x1 w
theorem ctX2_whatCanBeSaid_23 (l : Launch) (D : va_G) (c3 : C3) (ad : Nat → Nat) (w : Mm) (sz : Nat) (x1 : Int32) (r : Int32) (h : fX2_whatCanBeSaid_23 x1 w = some r) : Ci l yX2_whatCanBeSaid wsX2_whatCanBeSaid rmX2_whatCanBeSaid_23 D c3 (encC c3 ad) gC [.ref (ad 23), .int x1] w sz r w := by
  refine Ci.of (cc := cX2_whatCanBeSaid) (maxL := 4) (encC_ok c3 ad) (by decide) rfl (Nat.le_of_ble_eq_true rfl) ?_
  intro p e s m below meth c A Q ls X hret hP hS hl
  exact bX2_whatCanBeSaid_23_E X hret x1 _ _ ls hP hS hl h
theorem iwX7_can_X7 : ∀ w ∈ wsX70, w ∈ wsX7_can := fun _ h => List.mem_cons_of_mem _ (List.mem_append_left _ (List.mem_append_right _ h))
theorem lkX7_can_27 : Cond.fieldLink RX7 27 "StuckDoor" "family" "LStuckDoor$Family;" ∈ wsX7_can := by decide +kernel
def rmX7_can : Room := { frames := 5, cells := 0, slots := 0, locals := 110 }
def fX7_can_E (x1 : Int32) (w : Mm) : Option (Int32) := bo (fX2_hasPerson_23 x1 w) (fun r_2 => (if r_2 = 0 then some (-1) else bo (fX2_whatCanBeSaid_23 x1 w) (fun r_6 => some r_6)))
set_option maxRecDepth 20000 in
theorem bX7_can_E {p : Program} {l : Launch} {e : Env} {s : State} {m : MethodId} {args : Array Value} {below : List Frame} {meth : Method} {c : Code} {Q : State → Prop} {D : va_G} {c3 : C3} {ad : Nat → Nat} {A : Nat → Prop} {r : Int32} {w : Mm} (X : Cx p s m args c cX7_can 2 RX7 wsX7_can D c3 (encC c3 ad) gC A) (hret : Ri p l e (rmX7_can) s m args below meth c Q cX7_can D (encC c3 ad) A r w) : ∀ (x1 : Int32) (H : Heap) (locs : List Loc) (ls : Array Slot), va_P D vwCl ((encC c3 ad) w) H → va_S A s.heap H locs → lv_has ls 2 [(0, .ref (ad 0)), (1, .int x1)] → fX7_can_E x1 w = some r → W p l e (rmX7_can) s m args below meth c H locs 0 0 Q (F0 m 0 ls []) := by
  have hx := X.1
  have hb := X.2.1
  have hml := X.2.2.1
  have hown := X.2.2.2.1
  have hts := X.2.2.2.2.1
  intro x1 H locs ls hP hS hl h
  unfold fX7_can_E at h
  refine lv_aload_n hx hb dX7_can_0 rfl (lv_at hl 0 rfl) ?_
  refine x_get (rest := []) X hP (gC0 c3 ad w) rfl iwX7_can_X7 3 (by decide) lkX7_can_27 rfl dX7_can_1 ?_
  refine lv_iload_n hx hb dX7_can_4 rfl (lv_at hl 1 rfl) ?_
  obtain ⟨r_2, e_1, h⟩ := bo_s h
  refine x_goi X hS (x_runV (As := [.int x1]) (rest := []) X gC_ok hP hS (ctX2_hasPerson_23 l D c3 ad w _ x1 _ e_1) (cwV 1 hts gX7_can_X2_hasPerson rfl rfl rfl (by decide +kernel) ⟨by decide, by decide⟩) (gC23 c3 ad w) rfl rfl rfl hl.1 rfl (Nat.le_of_ble_eq_true rfl) dX7_can_5) (fun H locs hP hS => ?_)
  refine lv_if_eq (tgt := 22) hx hb dX7_can_8 (by decide) (fun c_4 => ?_) (fun c_4 => ?_)
  · replace h := it_p c_4 h
    refine lv_iconst (v := (-1)) hx hb dX7_can_22 (by decide) ?_
    obtain rfl := Option.some.inj h
    exact hret _ _ _ _ hP hS dX7_can_23
  · replace h := it_n c_4 h
    refine lv_aload_n hx hb dX7_can_11 rfl (lv_at hl 0 rfl) ?_
    refine x_get (rest := []) X hP (gC0 c3 ad w) rfl iwX7_can_X7 3 (by decide) lkX7_can_27 rfl dX7_can_12 ?_
    refine lv_iload_n hx hb dX7_can_15 rfl (lv_at hl 1 rfl) ?_
    obtain ⟨r_6, e_5, h⟩ := bo_s h
    refine x_goi X hS (x_runV (As := [.int x1]) (rest := []) X gC_ok hP hS (ctX2_whatCanBeSaid_23 l D c3 ad w _ x1 _ e_5) (cwV 1 hts gX7_can_X2_whatCanBeSaid rfl rfl rfl (by decide +kernel) ⟨by decide, by decide⟩) (gC23 c3 ad w) rfl rfl rfl hl.1 rfl (Nat.le_of_ble_eq_true rfl) dX7_can_16) (fun H locs hP hS => ?_)
    refine lv_goto (tgt := 23) hx hb dX7_can_19 (by decide) ?_
    obtain rfl := Option.some.inj h
    exact hret _ _ _ _ hP hS dX7_can_23
def fX7_can (x1 : Int32) (w : Mm) : Option (Int32) := fX7_can_E x1 w
theorem ctX7_can (l : Launch) (D : va_G) (c3 : C3) (ad : Nat → Nat) (w : Mm) (sz : Nat) (x1 : Int32) (r : Int32) (h : fX7_can x1 w = some r) : Ci l yX7_can wsX7_can rmX7_can D c3 (encC c3 ad) gC [.ref (ad 0), .int x1] w sz r w := by
  refine Ci.of (cc := cX7_can) (maxL := 2) (encC_ok c3 ad) (by decide) rfl (Nat.le_of_ble_eq_true rfl) ?_
  intro p e s m below meth c A Q ls X hret hP hS hl
  exact bX7_can_E X hret x1 _ _ ls hP hS hl h
theorem iwX7_over_X7 : ∀ w ∈ wsX70, w ∈ wsX7_over := fun _ h => List.mem_cons_of_mem _ (List.mem_append_left _ (List.mem_append_right _ h))
theorem lkX7_over_27 : Cond.fieldLink RX7 27 "StuckDoor" "family" "LStuckDoor$Family;" ∈ wsX7_over := by decide +kernel
def rmX7_over : Room := { frames := 5, cells := 0, slots := 0, locals := 110 }
def fX7_over_E (x1 : Int32) (w : Mm) : Option (Int32) := bo (fX2_hasSaying_23 x1 w) (fun r_2 => (if r_2 = 0 then some (-1) else bo (fX2_whoWouldBeOver_23 x1 w) (fun r_6 => some r_6)))
set_option maxRecDepth 20000 in
theorem bX7_over_E {p : Program} {l : Launch} {e : Env} {s : State} {m : MethodId} {args : Array Value} {below : List Frame} {meth : Method} {c : Code} {Q : State → Prop} {D : va_G} {c3 : C3} {ad : Nat → Nat} {A : Nat → Prop} {r : Int32} {w : Mm} (X : Cx p s m args c cX7_over 2 RX7 wsX7_over D c3 (encC c3 ad) gC A) (hret : Ri p l e (rmX7_over) s m args below meth c Q cX7_over D (encC c3 ad) A r w) : ∀ (x1 : Int32) (H : Heap) (locs : List Loc) (ls : Array Slot), va_P D vwCl ((encC c3 ad) w) H → va_S A s.heap H locs → lv_has ls 2 [(0, .ref (ad 0)), (1, .int x1)] → fX7_over_E x1 w = some r → W p l e (rmX7_over) s m args below meth c H locs 0 0 Q (F0 m 0 ls []) := by
  have hx := X.1
  have hb := X.2.1
  have hml := X.2.2.1
  have hown := X.2.2.2.1
  have hts := X.2.2.2.2.1
  intro x1 H locs ls hP hS hl h
  unfold fX7_over_E at h
  refine lv_aload_n hx hb dX7_over_0 rfl (lv_at hl 0 rfl) ?_
  refine x_get (rest := []) X hP (gC0 c3 ad w) rfl iwX7_over_X7 3 (by decide) lkX7_over_27 rfl dX7_over_1 ?_
  refine lv_iload_n hx hb dX7_over_4 rfl (lv_at hl 1 rfl) ?_
  obtain ⟨r_2, e_1, h⟩ := bo_s h
  refine x_goi X hS (x_runV (As := [.int x1]) (rest := []) X gC_ok hP hS (ctX2_hasSaying_23 l D c3 ad w _ x1 _ e_1) (cwV 1 hts gX7_over_X2_hasSaying rfl rfl rfl (by decide +kernel) ⟨by decide, by decide⟩) (gC23 c3 ad w) rfl rfl rfl hl.1 rfl (Nat.le_of_ble_eq_true rfl) dX7_over_5) (fun H locs hP hS => ?_)
  refine lv_if_eq (tgt := 22) hx hb dX7_over_8 (by decide) (fun c_4 => ?_) (fun c_4 => ?_)
  · replace h := it_p c_4 h
    refine lv_iconst (v := (-1)) hx hb dX7_over_22 (by decide) ?_
    obtain rfl := Option.some.inj h
    exact hret _ _ _ _ hP hS dX7_over_23
  · replace h := it_n c_4 h
    refine lv_aload_n hx hb dX7_over_11 rfl (lv_at hl 0 rfl) ?_
    refine x_get (rest := []) X hP (gC0 c3 ad w) rfl iwX7_over_X7 3 (by decide) lkX7_over_27 rfl dX7_over_12 ?_
    refine lv_iload_n hx hb dX7_over_15 rfl (lv_at hl 1 rfl) ?_
    obtain ⟨r_6, e_5, h⟩ := bo_s h
    refine x_goi X hS (x_runV (As := [.int x1]) (rest := []) X gC_ok hP hS (ctX2_whoWouldBeOver_23 l D c3 ad w _ x1 _ e_5) (cwV 1 hts gX7_over_X2_whoWouldBeOver rfl rfl rfl (by decide +kernel) ⟨by decide, by decide⟩) (gC23 c3 ad w) rfl rfl rfl hl.1 rfl (Nat.le_of_ble_eq_true rfl) dX7_over_16) (fun H locs hP hS => ?_)
    refine lv_goto (tgt := 23) hx hb dX7_over_19 (by decide) ?_
    obtain rfl := Option.some.inj h
    exact hret _ _ _ _ hP hS dX7_over_23
def fX7_over (x1 : Int32) (w : Mm) : Option (Int32) := fX7_over_E x1 w
theorem ctX7_over (l : Launch) (D : va_G) (c3 : C3) (ad : Nat → Nat) (w : Mm) (sz : Nat) (x1 : Int32) (r : Int32) (h : fX7_over x1 w = some r) : Ci l yX7_over wsX7_over rmX7_over D c3 (encC c3 ad) gC [.ref (ad 0), .int x1] w sz r w := by
  refine Ci.of (cc := cX7_over) (maxL := 2) (encC_ok c3 ad) (by decide) rfl (Nat.le_of_ble_eq_true rfl) ?_
  intro p e s m below meth c A Q ls X hret hP hS hl
  exact bX7_over_E X hret x1 _ _ ls hP hS hl h
theorem iwX7_talk_X2 : ∀ w ∈ wsX20, w ∈ wsX7_talk := fun _ h => List.mem_cons_of_mem _ (List.mem_append_right _ h)
theorem iwX7_talk_X5 : ∀ w ∈ wsX50, w ∈ wsX7_talk := fun _ h => List.mem_cons_of_mem _ (List.mem_append_left _ (List.mem_append_right _ h))
theorem iwX7_talk_X7 : ∀ w ∈ wsX70, w ∈ wsX7_talk := fun _ h => List.mem_cons_of_mem _ (List.mem_append_left _ (List.mem_append_left _ (List.mem_append_right _ h)))
theorem lkX7_talk_14 : Cond.fieldLink RX7 14 "StuckDoor" "ints" "LStuckDoor$Rows;" ∈ wsX7_talk := by decide +kernel
theorem lkX7_talk_27 : Cond.fieldLink RX7 27 "StuckDoor" "family" "LStuckDoor$Family;" ∈ wsX7_talk := by decide +kernel
theorem lkX7_talk_60 : Cond.fieldLink RX7 60 "StuckDoor" "askedLast" "I" ∈ wsX7_talk := by decide +kernel
theorem lkX7_talk_86 : Cond.fieldLink RX7 86 "StuckDoor$Rows" "places" "[[I" ∈ wsX7_talk := by decide +kernel
theorem lkX7_talk_94 : Cond.fieldLink RX7 94 "StuckDoor$Rows" "sizes" "[I" ∈ wsX7_talk := by decide +kernel
theorem lkX7_talk_168 : Cond.fieldLink RX7 168 "StuckDoor$Family" "deeds" "I" ∈ wsX7_talk := by decide +kernel
theorem lkX7_talk_178 : Cond.fieldLink RX7 178 "StuckDoor$Family" "strain" "I" ∈ wsX7_talk := by decide +kernel
def rmX7_talk : Room := { frames := 6, cells := 0, slots := 0, locals := 132 }
def fX7_talk_194 (x4 : Int32) (w : Mm) : Option (Int32 × Mm) := nm (sA w 0 9 (w.1 23 7)) (fun w_1 => bo (fX2_goBackTo_23 (w_1.1 23 11) w_1) (fun w_4 => some (x4, w_4)))
set_option maxRecDepth 20000 in
theorem bX7_talk_194 {p : Program} {l : Launch} {e : Env} {s : State} {m : MethodId} {args : Array Value} {below : List Frame} {meth : Method} {c : Code} {Q : State → Prop} {D : va_G} {c3 : C3} {ad : Nat → Nat} {A : Nat → Prop} {r : Int32} {w' : Mm} (X : Cx p s m args c cX7_talk 6 RX7 wsX7_talk D c3 (encC c3 ad) gC A) (hret : Ri p l e (rmX7_talk) s m args below meth c Q cX7_talk D (encC c3 ad) A r w') : ∀ (x4 : Int32) (w : Mm) (H : Heap) (locs : List Loc) (ls : Array Slot), va_P D vwCl ((encC c3 ad) w) H → va_S A s.heap H locs → lv_has ls 6 [(0, .ref (ad 0)), (4, .int x4)] → fX7_talk_194 x4 w = some (r, w') → W p l e (rmX7_talk) s m args below meth c H locs 0 0 Q (F0 m 194 ls []) := by
  have hx := X.1
  have hb := X.2.1
  have hml := X.2.2.1
  have hown := X.2.2.2.1
  have hts := X.2.2.2.2.1
  intro x4 w H locs ls hP hS hl h
  unfold fX7_talk_194 at h
  refine lv_aload_n hx hb dX7_talk_194 rfl (lv_at hl 0 rfl) ?_
  refine lv_aload_n hx hb dX7_talk_195 rfl (lv_at hl 0 rfl) ?_
  refine x_get (rest := [.ref (ad 0)]) X hP (gC0 c3 ad w) rfl iwX7_talk_X7 3 (by decide) lkX7_talk_27 rfl dX7_talk_196 ?_
  refine x_get (rest := [.ref (ad 0)]) X hP (gC23 c3 ad w) rfl iwX7_talk_X2 7 (by decide) lkX7_talk_178 rfl dX7_talk_199 ?_
  refine x_put (v := .int (w.1 23 7)) X hP hS (gC0 c3 ad w) rfl iwX7_talk_X7 tyX7 tyX7_ok nmX7 9 (by decide) lkX7_talk_60 rfl rfl rfl (Nat.le_of_ble_eq_true rfl) (pC0_9 c3 ad w (w.1 23 7)) dX7_talk_202 (fun H locs hP hS => ?_)
  refine x_nmw h hP (fun w_1 h hP => ?_)
  refine lv_aload_n hx hb dX7_talk_205 rfl (lv_at hl 0 rfl) ?_
  refine x_get (rest := []) X hP (gC0 c3 ad w_1) rfl iwX7_talk_X7 3 (by decide) lkX7_talk_27 rfl dX7_talk_206 ?_
  refine lv_aload_n hx hb dX7_talk_209 rfl (lv_at hl 0 rfl) ?_
  refine x_get (rest := [.ref (ad 23)]) X hP (gC0 c3 ad w_1) rfl iwX7_talk_X7 3 (by decide) lkX7_talk_27 rfl dX7_talk_210 ?_
  refine x_get (rest := [.ref (ad 23)]) X hP (gC23 c3 ad w_1) rfl iwX7_talk_X2 11 (by decide) lkX7_talk_168 rfl dX7_talk_213 ?_
  obtain ⟨w_4, e_2, h⟩ := bo_s h
  refine x_gov X hS (x_runV (As := [.int (w_1.1 23 11)]) (rest := []) X gC_ok hP hS (ctX2_goBackTo_23 l D c3 ad w_1 _ (w_1.1 23 11) _ e_2) (cwV 1 hts gX7_talk_X2_goBackTo rfl rfl rfl (by decide +kernel) ⟨by decide, by decide⟩) (gC23 c3 ad w_1) rfl rfl rfl hl.1 rfl (Nat.le_of_ble_eq_true rfl) dX7_talk_216) (fun H locs hP hS => ?_)
  refine lv_iload hx hb dX7_talk_219 (lv_at hl 1 rfl) ?_
  obtain ⟨rfl, rfl⟩ := Prod.mk.inj (Option.some.inj h)
  exact hret _ _ _ _ hP hS dX7_talk_221
def fX7_talk_150 (x2 : Int32) (q3 : Nat) : Nat → Int32 → Int32 → Mm → Option (Int32 × Mm)
  | 0, _, _, _ => none
  | n + 1, x4, x5, w => (if x2 ≤ (x5 + 1) then fX7_talk_194 x4 w else bo (fX2_isAnyOver_23 w) (fun r_7 => (if r_7 = 0 then gd (4 ≤ q3 ∧ q3 < 10) (gd (inb x5 40 = true) (gd (inb (x5 + 1) 40 = true) (bo (fX2_utter_23 (w.1 q3 x5.toNatClampNeg) (w.1 q3 (x5 + 1).toNatClampNeg) w) (fun w_15 => fX7_talk_150 x2 q3 n (x4 + 1) (x5 + 2) w_15)))) else fX7_talk_194 x4 w)))
set_option maxRecDepth 20000 in
theorem bX7_talk_150 {p : Program} {l : Launch} {e : Env} {s : State} {m : MethodId} {args : Array Value} {below : List Frame} {meth : Method} {c : Code} {Q : State → Prop} {D : va_G} {c3 : C3} {ad : Nat → Nat} {A : Nat → Prop} {r : Int32} {w' : Mm} (X : Cx p s m args c cX7_talk 6 RX7 wsX7_talk D c3 (encC c3 ad) gC A) (hret : Ri p l e (rmX7_talk) s m args below meth c Q cX7_talk D (encC c3 ad) A r w') : ∀ (x2 : Int32) (q3 : Nat) (n : Nat) (x4 : Int32) (x5 : Int32) (w : Mm) (H : Heap) (locs : List Loc) (ls : Array Slot), va_P D vwCl ((encC c3 ad) w) H → va_S A s.heap H locs → lv_has ls 6 [(0, .ref (ad 0)), (2, .int x2), (3, .ref (ad q3)), (4, .int x4), (5, .int x5)] → fX7_talk_150 x2 q3 n x4 x5 w = some (r, w') → W p l e (rmX7_talk) s m args below meth c H locs 0 0 Q (F0 m 150 ls []) := by
  have hx := X.1
  have hb := X.2.1
  have hml := X.2.2.1
  have hown := X.2.2.2.1
  have hts := X.2.2.2.2.1
  intro x2 q3 n
  induction n with
  | zero =>
    intro x4 x5 w H locs ls hP hS hl h
    exact absurd h (by simp [fX7_talk_150])
  | succ n ih =>
    intro x4 x5 w H locs ls hP hS hl h
    rw [fX7_talk_150] at h
    refine lv_iload hx hb dX7_talk_150 (lv_at hl 4 rfl) ?_
    refine lv_iconst (v := 1) hx hb dX7_talk_152 (by decide) ?_
    refine lv_iadd hx hb dX7_talk_153 ?_
    refine lv_iload_n hx hb dX7_talk_154 rfl (lv_at hl 1 rfl) ?_
    refine lv_icmp_ge (tgt := 194) hx hb dX7_talk_155 (by decide) (fun c_5 => ?_) (fun c_5 => ?_)
    · replace h := it_p c_5 h
      exact bX7_talk_194 X hret x4 w _ _ _ hP hS (lv_sub hl [0, 3] rfl) h
    · replace h := it_n c_5 h
      refine lv_aload_n hx hb dX7_talk_158 rfl (lv_at hl 0 rfl) ?_
      refine x_get (rest := []) X hP (gC0 c3 ad w) rfl iwX7_talk_X7 3 (by decide) lkX7_talk_27 rfl dX7_talk_159 ?_
      obtain ⟨r_7, e_6, h⟩ := bo_s h
      refine x_goi X hS (x_runV (As := []) (rest := []) X gC_ok hP hS (ctX2_isAnyOver_23 l D c3 ad w _ _ e_6) (cwV 0 hts gX7_talk_X2_isAnyOver rfl rfl rfl (by decide +kernel) ⟨by decide, by decide⟩) (gC23 c3 ad w) rfl rfl rfl hl.1 rfl (Nat.le_of_ble_eq_true rfl) dX7_talk_162) (fun H locs hP hS => ?_)
      refine lv_if_ne (tgt := 194) hx hb dX7_talk_165 (by decide) (fun c_9 => ?_) (fun c_9 => ?_)
      · replace h := it_n c_9 h
        exact bX7_talk_194 X hret x4 w _ _ _ hP hS (lv_sub hl [0, 3] rfl) h
      · replace h := it_p c_9 h
        refine lv_aload_n hx hb dX7_talk_168 rfl (lv_at hl 0 rfl) ?_
        refine x_get (rest := []) X hP (gC0 c3 ad w) rfl iwX7_talk_X7 3 (by decide) lkX7_talk_27 rfl dX7_talk_169 ?_
        refine lv_aload_n hx hb dX7_talk_172 rfl (lv_at hl 2 rfl) ?_
        refine lv_iload hx hb dX7_talk_173 (lv_at hl 4 rfl) ?_
        obtain ⟨g_10, h⟩ := gd_s h
        obtain ⟨g_11, h⟩ := gd_s h
        refine x_iald X hP (gCrI c3 ad w g_10) g_11 dX7_talk_175 ?_
        refine lv_aload_n hx hb dX7_talk_176 rfl (lv_at hl 2 rfl) ?_
        refine lv_iload hx hb dX7_talk_177 (lv_at hl 4 rfl) ?_
        refine lv_iconst (v := 1) hx hb dX7_talk_179 (by decide) ?_
        refine lv_iadd hx hb dX7_talk_180 ?_
        obtain ⟨g_12, h⟩ := gd_s h
        refine x_iald X hP (gCrI c3 ad w g_10) g_12 dX7_talk_181 ?_
        obtain ⟨w_15, e_13, h⟩ := bo_s h
        refine x_gov X hS (x_runV (As := [.int (w.1 q3 x5.toNatClampNeg), .int (w.1 q3 (x5 + 1).toNatClampNeg)]) (rest := []) X gC_ok hP hS (ctX2_utter_23 l D c3 ad w _ (w.1 q3 x5.toNatClampNeg) (w.1 q3 (x5 + 1).toNatClampNeg) _ e_13) (cwV 2 hts gX7_talk_X2_utter rfl rfl rfl (by decide +kernel) ⟨by decide, by decide⟩) (gC23 c3 ad w) rfl rfl rfl hl.1 rfl (Nat.le_of_ble_eq_true rfl) dX7_talk_182) (fun H locs hP hS => ?_)
        refine lv_iinc (v := (x4 + 1)) (lv' := [(4, .int (x4 + 1)), (0, .ref (ad 0)), (2, .int x2), (3, .ref (ad q3)), (5, .int x5)]) hx hb dX7_talk_185 hl (k := 3) rfl rfl (by decide) rfl (fun ls hl => ?_)
        refine lv_iinc (v := (x5 + 2)) (lv' := [(5, .int (x5 + 2)), (4, .int (x4 + 1)), (0, .ref (ad 0)), (2, .int x2), (3, .ref (ad q3))]) hx hb dX7_talk_188 hl (k := 4) rfl rfl (by decide) rfl (fun ls hl => ?_)
        refine lv_goto (tgt := 150) hx hb dX7_talk_191 (by decide) ?_
        exact ih (x4 + 1) (x5 + 2) w_15 _ _ _ hP hS (lv_sub hl [2, 3, 4, 1, 0] rfl) h
def fX7_talk_132 (w : Mm) : Option (Int32 × Mm) := bd (fX7_refuse 3 w) (fun r_17 w_18 => some (r_17, w_18))
set_option maxRecDepth 20000 in
theorem bX7_talk_132 {p : Program} {l : Launch} {e : Env} {s : State} {m : MethodId} {args : Array Value} {below : List Frame} {meth : Method} {c : Code} {Q : State → Prop} {D : va_G} {c3 : C3} {ad : Nat → Nat} {A : Nat → Prop} {r : Int32} {w' : Mm} (X : Cx p s m args c cX7_talk 6 RX7 wsX7_talk D c3 (encC c3 ad) gC A) (hret : Ri p l e (rmX7_talk) s m args below meth c Q cX7_talk D (encC c3 ad) A r w') : ∀ (w : Mm) (H : Heap) (locs : List Loc) (ls : Array Slot), va_P D vwCl ((encC c3 ad) w) H → va_S A s.heap H locs → lv_has ls 6 [(0, .ref (ad 0))] → fX7_talk_132 w = some (r, w') → W p l e (rmX7_talk) s m args below meth c H locs 0 0 Q (F0 m 132 ls []) := by
  have hx := X.1
  have hb := X.2.1
  have hml := X.2.2.1
  have hown := X.2.2.2.1
  have hts := X.2.2.2.2.1
  intro w H locs ls hP hS hl h
  unfold fX7_talk_132 at h
  refine lv_aload_n hx hb dX7_talk_132 rfl (lv_at hl 0 rfl) ?_
  refine lv_iconst (v := 3) hx hb dX7_talk_133 (by decide) ?_
  obtain ⟨r_17, w_18, e_16, h⟩ := bd_s h
  refine x_goi X hS (x_runV (As := [.int 3]) (rest := []) X gC_ok hP hS (ctX7_refuse l D c3 ad w _ 3 _ _ e_16) (cwV 1 hts gX7_talk_X7_refuse rfl rfl rfl (by decide +kernel) ⟨by decide, by decide⟩) (gC0 c3 ad w) rfl rfl rfl hl.1 rfl (Nat.le_of_ble_eq_true rfl) dX7_talk_134) (fun H locs hP hS => ?_)
  obtain ⟨rfl, rfl⟩ := Prod.mk.inj (Option.some.inj h)
  exact hret _ _ _ _ hP hS dX7_talk_137
def fX7_talk_94 (x2 : Int32) (q3 : Nat) : Nat → Int32 → Mm → Option (Int32 × Mm)
  | 0, _, _ => none
  | n + 1, x4, w => (if x2 ≤ (x4 + 1) then fX7_talk_150 x2 q3 FU 0 0 w else gd (4 ≤ q3 ∧ q3 < 10) (gd (inb x4 40 = true) (bo (fX2_hasPerson_23 (w.1 q3 x4.toNatClampNeg) w) (fun r_23 => (if r_23 = 0 then fX7_talk_132 w else gd (inb (x4 + 1) 40 = true) (bo (fX2_hasSaying_23 (w.1 q3 (x4 + 1).toNatClampNeg) w) (fun r_28 => (if r_28 = 0 then fX7_talk_132 w else fX7_talk_94 x2 q3 n (x4 + 2) w))))))))
set_option maxRecDepth 20000 in
theorem bX7_talk_94 {p : Program} {l : Launch} {e : Env} {s : State} {m : MethodId} {args : Array Value} {below : List Frame} {meth : Method} {c : Code} {Q : State → Prop} {D : va_G} {c3 : C3} {ad : Nat → Nat} {A : Nat → Prop} {r : Int32} {w' : Mm} (X : Cx p s m args c cX7_talk 6 RX7 wsX7_talk D c3 (encC c3 ad) gC A) (hret : Ri p l e (rmX7_talk) s m args below meth c Q cX7_talk D (encC c3 ad) A r w') : ∀ (x2 : Int32) (q3 : Nat) (n : Nat) (x4 : Int32) (w : Mm) (H : Heap) (locs : List Loc) (ls : Array Slot), va_P D vwCl ((encC c3 ad) w) H → va_S A s.heap H locs → lv_has ls 6 [(0, .ref (ad 0)), (2, .int x2), (3, .ref (ad q3)), (4, .int x4)] → fX7_talk_94 x2 q3 n x4 w = some (r, w') → W p l e (rmX7_talk) s m args below meth c H locs 0 0 Q (F0 m 94 ls []) := by
  have hx := X.1
  have hb := X.2.1
  have hml := X.2.2.1
  have hown := X.2.2.2.1
  have hts := X.2.2.2.2.1
  intro x2 q3 n
  induction n with
  | zero =>
    intro x4 w H locs ls hP hS hl h
    exact absurd h (by simp [fX7_talk_94])
  | succ n ih =>
    intro x4 w H locs ls hP hS hl h
    rw [fX7_talk_94] at h
    refine lv_iload hx hb dX7_talk_94 (lv_at hl 3 rfl) ?_
    refine lv_iconst (v := 1) hx hb dX7_talk_96 (by decide) ?_
    refine lv_iadd hx hb dX7_talk_97 ?_
    refine lv_iload_n hx hb dX7_talk_98 rfl (lv_at hl 1 rfl) ?_
    refine lv_icmp_ge (tgt := 144) hx hb dX7_talk_99 (by decide) (fun c_19 => ?_) (fun c_19 => ?_)
    · replace h := it_p c_19 h
      refine lv_iconst (v := 0) hx hb dX7_talk_144 (by decide) ?_
      refine lv_istore (lv' := [(4, .int 0), (0, .ref (ad 0)), (2, .int x2), (3, .ref (ad q3))]) hx hb dX7_talk_145 hl (by decide) rfl (fun ls hl => ?_)
      refine lv_iconst (v := 0) hx hb dX7_talk_147 (by decide) ?_
      refine lv_istore (lv' := [(5, .int 0), (4, .int 0), (0, .ref (ad 0)), (2, .int x2), (3, .ref (ad q3))]) hx hb dX7_talk_148 hl (by decide) rfl (fun ls hl => ?_)
      exact bX7_talk_150 X hret x2 q3 FU 0 0 w _ _ _ hP hS (lv_sub hl [2, 3, 4, 1, 0] rfl) h
    · replace h := it_n c_19 h
      refine lv_aload_n hx hb dX7_talk_102 rfl (lv_at hl 0 rfl) ?_
      refine x_get (rest := []) X hP (gC0 c3 ad w) rfl iwX7_talk_X7 3 (by decide) lkX7_talk_27 rfl dX7_talk_103 ?_
      refine lv_aload_n hx hb dX7_talk_106 rfl (lv_at hl 2 rfl) ?_
      refine lv_iload hx hb dX7_talk_107 (lv_at hl 3 rfl) ?_
      obtain ⟨g_20, h⟩ := gd_s h
      obtain ⟨g_21, h⟩ := gd_s h
      refine x_iald X hP (gCrI c3 ad w g_20) g_21 dX7_talk_109 ?_
      obtain ⟨r_23, e_22, h⟩ := bo_s h
      refine x_goi X hS (x_runV (As := [.int (w.1 q3 x4.toNatClampNeg)]) (rest := []) X gC_ok hP hS (ctX2_hasPerson_23 l D c3 ad w _ (w.1 q3 x4.toNatClampNeg) _ e_22) (cwV 1 hts gX7_talk_X2_hasPerson rfl rfl rfl (by decide +kernel) ⟨by decide, by decide⟩) (gC23 c3 ad w) rfl rfl rfl hl.1 rfl (Nat.le_of_ble_eq_true rfl) dX7_talk_110) (fun H locs hP hS => ?_)
      refine lv_if_eq (tgt := 132) hx hb dX7_talk_113 (by decide) (fun c_25 => ?_) (fun c_25 => ?_)
      · replace h := it_p c_25 h
        exact bX7_talk_132 X hret w _ _ _ hP hS (lv_sub hl [0] rfl) h
      · replace h := it_n c_25 h
        refine lv_aload_n hx hb dX7_talk_116 rfl (lv_at hl 0 rfl) ?_
        refine x_get (rest := []) X hP (gC0 c3 ad w) rfl iwX7_talk_X7 3 (by decide) lkX7_talk_27 rfl dX7_talk_117 ?_
        refine lv_aload_n hx hb dX7_talk_120 rfl (lv_at hl 2 rfl) ?_
        refine lv_iload hx hb dX7_talk_121 (lv_at hl 3 rfl) ?_
        refine lv_iconst (v := 1) hx hb dX7_talk_123 (by decide) ?_
        refine lv_iadd hx hb dX7_talk_124 ?_
        obtain ⟨g_26, h⟩ := gd_s h
        refine x_iald X hP (gCrI c3 ad w g_20) g_26 dX7_talk_125 ?_
        obtain ⟨r_28, e_27, h⟩ := bo_s h
        refine x_goi X hS (x_runV (As := [.int (w.1 q3 (x4 + 1).toNatClampNeg)]) (rest := []) X gC_ok hP hS (ctX2_hasSaying_23 l D c3 ad w _ (w.1 q3 (x4 + 1).toNatClampNeg) _ e_27) (cwV 1 hts gX7_talk_X2_hasSaying rfl rfl rfl (by decide +kernel) ⟨by decide, by decide⟩) (gC23 c3 ad w) rfl rfl rfl hl.1 rfl (Nat.le_of_ble_eq_true rfl) dX7_talk_126) (fun H locs hP hS => ?_)
        refine lv_if_ne (tgt := 138) hx hb dX7_talk_129 (by decide) (fun c_30 => ?_) (fun c_30 => ?_)
        · replace h := it_n c_30 h
          refine lv_iinc (v := (x4 + 2)) (lv' := [(4, .int (x4 + 2)), (0, .ref (ad 0)), (2, .int x2), (3, .ref (ad q3))]) hx hb dX7_talk_138 hl (k := 3) rfl rfl (by decide) rfl (fun ls hl => ?_)
          refine lv_goto (tgt := 94) hx hb dX7_talk_141 (by decide) ?_
          exact ih (x4 + 2) w _ _ _ hP hS (lv_sub hl [1, 2, 3, 0] rfl) h
        · replace h := it_p c_30 h
          exact bX7_talk_132 X hret w _ _ _ hP hS (lv_sub hl [0] rfl) h
def fX7_talk_75 (w : Mm) : Option (Int32 × Mm) := bd (fX7_refuse 5 w) (fun r_32 w_33 => some (r_32, w_33))
set_option maxRecDepth 20000 in
theorem bX7_talk_75 {p : Program} {l : Launch} {e : Env} {s : State} {m : MethodId} {args : Array Value} {below : List Frame} {meth : Method} {c : Code} {Q : State → Prop} {D : va_G} {c3 : C3} {ad : Nat → Nat} {A : Nat → Prop} {r : Int32} {w' : Mm} (X : Cx p s m args c cX7_talk 6 RX7 wsX7_talk D c3 (encC c3 ad) gC A) (hret : Ri p l e (rmX7_talk) s m args below meth c Q cX7_talk D (encC c3 ad) A r w') : ∀ (w : Mm) (H : Heap) (locs : List Loc) (ls : Array Slot), va_P D vwCl ((encC c3 ad) w) H → va_S A s.heap H locs → lv_has ls 6 [(0, .ref (ad 0))] → fX7_talk_75 w = some (r, w') → W p l e (rmX7_talk) s m args below meth c H locs 0 0 Q (F0 m 75 ls []) := by
  have hx := X.1
  have hb := X.2.1
  have hml := X.2.2.1
  have hown := X.2.2.2.1
  have hts := X.2.2.2.2.1
  intro w H locs ls hP hS hl h
  unfold fX7_talk_75 at h
  refine lv_aload_n hx hb dX7_talk_75 rfl (lv_at hl 0 rfl) ?_
  refine lv_iconst (v := 5) hx hb dX7_talk_76 (by decide) ?_
  obtain ⟨r_32, w_33, e_31, h⟩ := bd_s h
  refine x_goi X hS (x_runV (As := [.int 5]) (rest := []) X gC_ok hP hS (ctX7_refuse l D c3 ad w _ 5 _ _ e_31) (cwV 1 hts gX7_talk_X7_refuse rfl rfl rfl (by decide +kernel) ⟨by decide, by decide⟩) (gC0 c3 ad w) rfl rfl rfl hl.1 rfl (Nat.le_of_ble_eq_true rfl) dX7_talk_77) (fun H locs hP hS => ?_)
  obtain ⟨rfl, rfl⟩ := Prod.mk.inj (Option.some.inj h)
  exact hret _ _ _ _ hP hS dX7_talk_80
def fX7_talk_E (x1 : Int32) (w : Mm) : Option (Int32 × Mm) := bo (fX5_isNumber_1 x1 w) (fun r_35 => (if r_35 = 0 then some ((-1), w) else bo (fX2_isAnyOver_23 w) (fun r_39 => (if r_39 = 0 then bo (fX2_isEmpty_23 w) (fun r_43 => (if r_43 = 0 then bo (fX5_isThere_1 x1 w) (fun r_47 => (if r_47 = 0 then bd (fX7_refuse 1 w) (fun r_56 w_57 => some (r_56, w_57)) else gd (inb x1 6 = true) (nm (w.1 3 x1.toNatClampNeg) (fun x2_51 => (if (x2_51 - x2_51 / 2 * 2) = 0 then (if x2_51 ≤ 20 then fX7_talk_94 x2_51 (4 + x1.toNatClampNeg) FU 0 w else fX7_talk_75 w) else fX7_talk_75 w))))) else some ((-4), w))) else some ((-4), w)))))
set_option maxRecDepth 20000 in
theorem bX7_talk_E {p : Program} {l : Launch} {e : Env} {s : State} {m : MethodId} {args : Array Value} {below : List Frame} {meth : Method} {c : Code} {Q : State → Prop} {D : va_G} {c3 : C3} {ad : Nat → Nat} {A : Nat → Prop} {r : Int32} {w' : Mm} (X : Cx p s m args c cX7_talk 6 RX7 wsX7_talk D c3 (encC c3 ad) gC A) (hret : Ri p l e (rmX7_talk) s m args below meth c Q cX7_talk D (encC c3 ad) A r w') : ∀ (x1 : Int32) (w : Mm) (H : Heap) (locs : List Loc) (ls : Array Slot), va_P D vwCl ((encC c3 ad) w) H → va_S A s.heap H locs → lv_has ls 6 [(0, .ref (ad 0)), (1, .int x1)] → fX7_talk_E x1 w = some (r, w') → W p l e (rmX7_talk) s m args below meth c H locs 0 0 Q (F0 m 0 ls []) := by
  have hx := X.1
  have hb := X.2.1
  have hml := X.2.2.1
  have hown := X.2.2.2.1
  have hts := X.2.2.2.2.1
  intro x1 w H locs ls hP hS hl h
  unfold fX7_talk_E at h
  refine lv_aload_n hx hb dX7_talk_0 rfl (lv_at hl 0 rfl) ?_
  refine x_get (rest := []) X hP (gC0 c3 ad w) rfl iwX7_talk_X7 0 (by decide) lkX7_talk_14 rfl dX7_talk_1 ?_
  refine lv_iload_n hx hb dX7_talk_4 rfl (lv_at hl 1 rfl) ?_
  obtain ⟨r_35, e_34, h⟩ := bo_s h
  refine x_goi X hS (x_runV (As := [.int x1]) (rest := []) X gC_ok hP hS (ctX5_isNumber_1 l D c3 ad w _ x1 _ e_34) (cwV 1 hts gX7_talk_X5_isNumber rfl rfl rfl (by decide +kernel) ⟨by decide, by decide⟩) (gC1 c3 ad w) rfl rfl rfl hl.1 rfl (Nat.le_of_ble_eq_true rfl) dX7_talk_5) (fun H locs hP hS => ?_)
  refine lv_if_ne (tgt := 13) hx hb dX7_talk_8 (by decide) (fun c_37 => ?_) (fun c_37 => ?_)
  · replace h := it_n c_37 h
    refine lv_aload_n hx hb dX7_talk_13 rfl (lv_at hl 0 rfl) ?_
    refine x_get (rest := []) X hP (gC0 c3 ad w) rfl iwX7_talk_X7 3 (by decide) lkX7_talk_27 rfl dX7_talk_14 ?_
    obtain ⟨r_39, e_38, h⟩ := bo_s h
    refine x_goi X hS (x_runV (As := []) (rest := []) X gC_ok hP hS (ctX2_isAnyOver_23 l D c3 ad w _ _ e_38) (cwV 0 hts gX7_talk_X2_isAnyOver rfl rfl rfl (by decide +kernel) ⟨by decide, by decide⟩) (gC23 c3 ad w) rfl rfl rfl hl.1 rfl (Nat.le_of_ble_eq_true rfl) dX7_talk_17) (fun H locs hP hS => ?_)
    refine lv_if_ne (tgt := 33) hx hb dX7_talk_20 (by decide) (fun c_41 => ?_) (fun c_41 => ?_)
    · replace h := it_n c_41 h
      refine lv_bipush (v := (-4)) hx hb dX7_talk_33 (by decide) ?_
      obtain ⟨rfl, rfl⟩ := Prod.mk.inj (Option.some.inj h)
      exact hret _ _ _ _ hP hS dX7_talk_35
    · replace h := it_p c_41 h
      refine lv_aload_n hx hb dX7_talk_23 rfl (lv_at hl 0 rfl) ?_
      refine x_get (rest := []) X hP (gC0 c3 ad w) rfl iwX7_talk_X7 3 (by decide) lkX7_talk_27 rfl dX7_talk_24 ?_
      obtain ⟨r_43, e_42, h⟩ := bo_s h
      refine x_goi X hS (x_runV (As := []) (rest := []) X gC_ok hP hS (ctX2_isEmpty_23 l D c3 ad w _ _ e_42) (cwV 0 hts gX7_talk_X2_isEmpty rfl rfl rfl (by decide +kernel) ⟨by decide, by decide⟩) (gC23 c3 ad w) rfl rfl rfl hl.1 rfl (Nat.le_of_ble_eq_true rfl) dX7_talk_27) (fun H locs hP hS => ?_)
      refine lv_if_eq (tgt := 36) hx hb dX7_talk_30 (by decide) (fun c_45 => ?_) (fun c_45 => ?_)
      · replace h := it_p c_45 h
        refine lv_aload_n hx hb dX7_talk_36 rfl (lv_at hl 0 rfl) ?_
        refine x_get (rest := []) X hP (gC0 c3 ad w) rfl iwX7_talk_X7 0 (by decide) lkX7_talk_14 rfl dX7_talk_37 ?_
        refine lv_iload_n hx hb dX7_talk_40 rfl (lv_at hl 1 rfl) ?_
        obtain ⟨r_47, e_46, h⟩ := bo_s h
        refine x_goi X hS (x_runV (As := [.int x1]) (rest := []) X gC_ok hP hS (ctX5_isThere_1 l D c3 ad w _ x1 _ e_46) (cwV 1 hts gX7_talk_X5_isThere rfl rfl rfl (by decide +kernel) ⟨by decide, by decide⟩) (gC1 c3 ad w) rfl rfl rfl hl.1 rfl (Nat.le_of_ble_eq_true rfl) dX7_talk_41) (fun H locs hP hS => ?_)
        refine lv_if_ne (tgt := 53) hx hb dX7_talk_44 (by decide) (fun c_49 => ?_) (fun c_49 => ?_)
        · replace h := it_n c_49 h
          refine lv_aload_n hx hb dX7_talk_53 rfl (lv_at hl 0 rfl) ?_
          refine x_get (rest := []) X hP (gC0 c3 ad w) rfl iwX7_talk_X7 0 (by decide) lkX7_talk_14 rfl dX7_talk_54 ?_
          refine x_get (rest := []) X hP (gC1 c3 ad w) rfl iwX7_talk_X5 1 (by decide) lkX7_talk_94 rfl dX7_talk_57 ?_
          refine lv_iload_n hx hb dX7_talk_60 rfl (lv_at hl 1 rfl) ?_
          obtain ⟨g_50, h⟩ := gd_s h
          refine x_iald X hP (gC3 c3 ad w) g_50 dX7_talk_61 ?_
          refine x_nmi h (fun x2_51 h => ?_)
          refine lv_istore_n (lv' := [(2, .int x2_51), (0, .ref (ad 0)), (1, .int x1)]) hx hb dX7_talk_62 rfl hl (by decide) rfl (fun ls hl => ?_)
          refine lv_iload_n hx hb dX7_talk_63 rfl (lv_at hl 0 rfl) ?_
          refine lv_iconst (v := 2) hx hb dX7_talk_64 (by decide) ?_
          refine lv_irem hx hb dX7_talk_65 (by decide) ?_
          refine lv_if_ne (tgt := 75) hx hb dX7_talk_66 (by decide) (fun c_52 => ?_) (fun c_52 => ?_)
          · replace h := it_n c_52 h
            exact bX7_talk_75 X hret w _ _ _ hP hS (lv_sub hl [1] rfl) h
          · replace h := it_p c_52 h
            refine lv_iload_n hx hb dX7_talk_69 rfl (lv_at hl 0 rfl) ?_
            refine lv_bipush (v := 20) hx hb dX7_talk_70 (by decide) ?_
            refine lv_icmp_le (tgt := 81) hx hb dX7_talk_72 (by decide) (fun c_53 => ?_) (fun c_53 => ?_)
            · replace h := it_p c_53 h
              refine lv_aload_n hx hb dX7_talk_81 rfl (lv_at hl 1 rfl) ?_
              refine x_get (rest := []) X hP (gC0 c3 ad w) rfl iwX7_talk_X7 0 (by decide) lkX7_talk_14 rfl dX7_talk_82 ?_
              refine x_get (rest := []) X hP (gC1 c3 ad w) rfl iwX7_talk_X5 0 (by decide) lkX7_talk_86 rfl dX7_talk_85 ?_
              refine lv_iload_n hx hb dX7_talk_88 rfl (lv_at hl 2 rfl) ?_
              have q_54 := rgn 4 g_50
              refine x_aald (z := ad (4 + x1.toNatClampNeg)) X hP (gC2 c3 ad w) g_50 rfl dX7_talk_89 ?_
              refine lv_astore_n (lv' := [(3, .ref (ad (4 + x1.toNatClampNeg))), (2, .int x2_51), (0, .ref (ad 0)), (1, .int x1)]) hx hb dX7_talk_90 rfl hl (by decide) rfl (fun ls hl => ?_)
              refine lv_iconst (v := 0) hx hb dX7_talk_91 (by decide) ?_
              refine lv_istore (lv' := [(4, .int 0), (3, .ref (ad (4 + x1.toNatClampNeg))), (2, .int x2_51), (0, .ref (ad 0)), (1, .int x1)]) hx hb dX7_talk_92 hl (by decide) rfl (fun ls hl => ?_)
              exact bX7_talk_94 X hret x2_51 (4 + x1.toNatClampNeg) FU 0 w _ _ _ hP hS (lv_sub hl [3, 2, 1, 0] rfl) h
            · replace h := it_n c_53 h
              exact bX7_talk_75 X hret w _ _ _ hP hS (lv_sub hl [1] rfl) h
        · replace h := it_p c_49 h
          refine lv_aload_n hx hb dX7_talk_47 rfl (lv_at hl 0 rfl) ?_
          refine lv_iconst (v := 1) hx hb dX7_talk_48 (by decide) ?_
          obtain ⟨r_56, w_57, e_55, h⟩ := bd_s h
          refine x_goi X hS (x_runV (As := [.int 1]) (rest := []) X gC_ok hP hS (ctX7_refuse l D c3 ad w _ 1 _ _ e_55) (cwV 1 hts gX7_talk_X7_refuse rfl rfl rfl (by decide +kernel) ⟨by decide, by decide⟩) (gC0 c3 ad w) rfl rfl rfl hl.1 rfl (Nat.le_of_ble_eq_true rfl) dX7_talk_49) (fun H locs hP hS => ?_)
          obtain ⟨rfl, rfl⟩ := Prod.mk.inj (Option.some.inj h)
          exact hret _ _ _ _ hP hS dX7_talk_52
      · replace h := it_n c_45 h
        refine lv_bipush (v := (-4)) hx hb dX7_talk_33 (by decide) ?_
        obtain ⟨rfl, rfl⟩ := Prod.mk.inj (Option.some.inj h)
        exact hret _ _ _ _ hP hS dX7_talk_35
  · replace h := it_p c_37 h
    refine lv_iconst (v := (-1)) hx hb dX7_talk_11 (by decide) ?_
    obtain ⟨rfl, rfl⟩ := Prod.mk.inj (Option.some.inj h)
    exact hret _ _ _ _ hP hS dX7_talk_12
def fX7_talk (x1 : Int32) (w : Mm) : Option (Int32 × Mm) := fX7_talk_E x1 w
theorem ctX7_talk (l : Launch) (D : va_G) (c3 : C3) (ad : Nat → Nat) (w : Mm) (sz : Nat) (x1 : Int32) (r : Int32) (w' : Mm) (h : fX7_talk x1 w = some (r, w')) : Ci l yX7_talk wsX7_talk rmX7_talk D c3 (encC c3 ad) gC [.ref (ad 0), .int x1] w sz r w' := by
  refine Ci.of (cc := cX7_talk) (maxL := 6) (encC_ok c3 ad) (by decide) rfl (Nat.le_of_ble_eq_true rfl) ?_
  intro p e s m below meth c A Q ls X hret hP hS hl
  exact bX7_talk_E X hret x1 w _ _ ls hP hS hl h

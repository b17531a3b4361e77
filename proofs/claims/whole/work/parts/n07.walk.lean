theorem iwX7_tellShare_X7 : ∀ w ∈ wsX70, w ∈ wsX7_tellShare := fun _ h => List.mem_cons_of_mem _ (List.mem_append_right _ h)
theorem lkX7_tellShare_63 : Cond.fieldLink RX7 63 "StuckDoor" "upperLast" "J" ∈ wsX7_tellShare := by decide +kernel
theorem lkX7_tellShare_67 : Cond.fieldLink RX7 67 "StuckDoor" "lowerLast" "J" ∈ wsX7_tellShare := by decide +kernel
def rmX7_tellShare : Room := { frames := 0, cells := 0, slots := 0, locals := 0 }
def fX7_tellShare_57 (y1 : Int64) (y3 : Int64) (u0 : Int64) (w : Mm) : Option (Mm) := gd (¬ u0 = 0) (nm (sL w 0 10 (y1 / u0)) (fun w_2 => nm (sL w_2 0 11 (y3 / u0)) (fun w_3 => some w_3)))
set_option maxRecDepth 20000 in
theorem bX7_tellShare_57 {p : Program} {l : Launch} {e : Env} {s : State} {m : MethodId} {args : Array Value} {below : List Frame} {meth : Method} {c : Code} {Q : State → Prop} {D : va_G} {c3 : C3} {ad : Nat → Nat} {A : Nat → Prop} {w' : Mm} (X : Cx p s m args c cX7_tellShare 12 RX7 wsX7_tellShare D c3 (encC c3 ad) gC A) (hret : Rv p l e (rmX7_tellShare) s m args below meth c Q cX7_tellShare D (encC c3 ad) A w') : ∀ (y1 : Int64) (y3 : Int64) (u0 : Int64) (w : Mm) (H : Heap) (locs : List Loc) (ls : Array Slot), va_P D vwCl ((encC c3 ad) w) H → va_S A s.heap H locs → lv_has ls 12 [(0, .ref (ad 0)), (1, .long y1), (3, .long y3)] → fX7_tellShare_57 y1 y3 u0 w = some w' → W p l e (rmX7_tellShare) s m args below meth c H locs 0 0 Q (F0 m 57 ls [.long u0]) := by
  have hx := X.1
  have hb := X.2.1
  have hml := X.2.2.1
  have hown := X.2.2.2.1
  have hts := X.2.2.2.2.1
  intro y1 y3 u0 w H locs ls hP hS hl h
  unfold fX7_tellShare_57 at h
  refine lv_lstore (lv' := [(9, .long u0), (0, .ref (ad 0)), (1, .long y1), (3, .long y3)]) hx hb dX7_tellShare_57 hl (by decide) rfl (fun ls hl => ?_)
  refine lv_aload_n hx hb dX7_tellShare_59 rfl (lv_at hl 1 rfl) ?_
  refine lv_lload_n hx hb dX7_tellShare_60 rfl (lv_at hl 2 rfl) ?_
  refine lv_lload hx hb dX7_tellShare_61 (lv_at hl 0 rfl) ?_
  obtain ⟨g_1, h⟩ := gd_s h
  refine lv_ldiv hx hb dX7_tellShare_63 g_1 ?_
  refine x_put (v := .long (y1 / u0)) X hP hS (gC0 c3 ad w) rfl iwX7_tellShare_X7 tyX7 tyX7_ok nmX7 10 (by decide) lkX7_tellShare_63 rfl rfl rfl (Nat.le_of_ble_eq_true rfl) (pC0_10 c3 ad w (y1 / u0)) dX7_tellShare_64 (fun H locs hP hS => ?_)
  refine x_nmw h hP (fun w_2 h hP => ?_)
  refine lv_aload_n hx hb dX7_tellShare_67 rfl (lv_at hl 1 rfl) ?_
  refine lv_lload_n hx hb dX7_tellShare_68 rfl (lv_at hl 3 rfl) ?_
  refine lv_lload hx hb dX7_tellShare_69 (lv_at hl 0 rfl) ?_
  refine lv_ldiv hx hb dX7_tellShare_71 g_1 ?_
  refine x_put (v := .long (y3 / u0)) X hP hS (gC0 c3 ad w_2) rfl iwX7_tellShare_X7 tyX7 tyX7_ok nmX7 11 (by decide) lkX7_tellShare_67 rfl rfl rfl (Nat.le_of_ble_eq_true rfl) (pC0_11 c3 ad w_2 (y3 / u0)) dX7_tellShare_72 (fun H locs hP hS => ?_)
  refine x_nmw h hP (fun w_3 h hP => ?_)
  obtain rfl := Option.some.inj h
  exact hret _ _ _ _ hP hS dX7_tellShare_75
def fX7_tellShare_44 (y1 : Int64) (y3 : Int64) (y5 : Int64) (w : Mm) : Option (Mm) := (if 0 ≤ (lg_cmp y5 1) then fX7_tellShare_57 y1 y3 y5 w else fX7_tellShare_57 y1 y3 1 w)
set_option maxRecDepth 20000 in
theorem bX7_tellShare_44 {p : Program} {l : Launch} {e : Env} {s : State} {m : MethodId} {args : Array Value} {below : List Frame} {meth : Method} {c : Code} {Q : State → Prop} {D : va_G} {c3 : C3} {ad : Nat → Nat} {A : Nat → Prop} {w' : Mm} (X : Cx p s m args c cX7_tellShare 12 RX7 wsX7_tellShare D c3 (encC c3 ad) gC A) (hret : Rv p l e (rmX7_tellShare) s m args below meth c Q cX7_tellShare D (encC c3 ad) A w') : ∀ (y1 : Int64) (y3 : Int64) (y5 : Int64) (w : Mm) (H : Heap) (locs : List Loc) (ls : Array Slot), va_P D vwCl ((encC c3 ad) w) H → va_S A s.heap H locs → lv_has ls 12 [(0, .ref (ad 0)), (1, .long y1), (3, .long y3), (5, .long y5)] → fX7_tellShare_44 y1 y3 y5 w = some w' → W p l e (rmX7_tellShare) s m args below meth c H locs 0 0 Q (F0 m 44 ls []) := by
  have hx := X.1
  have hb := X.2.1
  have hml := X.2.2.1
  have hown := X.2.2.2.1
  have hts := X.2.2.2.2.1
  intro y1 y3 y5 w H locs ls hP hS hl h
  unfold fX7_tellShare_44 at h
  refine lv_lload hx hb dX7_tellShare_44 (lv_at hl 3 rfl) ?_
  refine lv_lconst (v := 1) hx hb dX7_tellShare_46 (by decide) ?_
  refine W.lcmp hx hb dX7_tellShare_47 ?_
  refine lv_if_ge (tgt := 55) hx hb dX7_tellShare_48 (by decide) (fun c_4 => ?_) (fun c_4 => ?_)
  · replace h := it_p c_4 h
    refine lv_lload hx hb dX7_tellShare_55 (lv_at hl 3 rfl) ?_
    exact bX7_tellShare_57 X hret y1 y3 y5 w _ _ _ hP hS (lv_sub hl [0, 1, 2] rfl) h
  · replace h := it_n c_4 h
    refine lv_lconst (v := 1) hx hb dX7_tellShare_51 (by decide) ?_
    refine lv_goto (tgt := 57) hx hb dX7_tellShare_52 (by decide) ?_
    exact bX7_tellShare_57 X hret y1 y3 1 w _ _ _ hP hS (lv_sub hl [0, 1, 2] rfl) h
def fX7_tellShare_9 (y1 : Int64) (y3 : Int64) : Nat → Int64 → Int64 → Int32 → Mm → Option (Mm)
  | 0, _, _, _, _ => none
  | n + 1, y5, y7, x9, w => (if 100 ≤ x9 then fX7_tellShare_44 y1 y3 y5 w else (if (lg_cmp y7 0) = 0 then fX7_tellShare_44 y1 y3 y5 w else gd (¬ y7 = 0) (nm (y5 - y5 / y7 * y7) (fun y10_8 => fX7_tellShare_9 y1 y3 n y7 y10_8 (x9 + 1) w))))
set_option maxRecDepth 20000 in
theorem bX7_tellShare_9 {p : Program} {l : Launch} {e : Env} {s : State} {m : MethodId} {args : Array Value} {below : List Frame} {meth : Method} {c : Code} {Q : State → Prop} {D : va_G} {c3 : C3} {ad : Nat → Nat} {A : Nat → Prop} {w' : Mm} (X : Cx p s m args c cX7_tellShare 12 RX7 wsX7_tellShare D c3 (encC c3 ad) gC A) (hret : Rv p l e (rmX7_tellShare) s m args below meth c Q cX7_tellShare D (encC c3 ad) A w') : ∀ (y1 : Int64) (y3 : Int64) (n : Nat) (y5 : Int64) (y7 : Int64) (x9 : Int32) (w : Mm) (H : Heap) (locs : List Loc) (ls : Array Slot), va_P D vwCl ((encC c3 ad) w) H → va_S A s.heap H locs → lv_has ls 12 [(0, .ref (ad 0)), (1, .long y1), (3, .long y3), (5, .long y5), (7, .long y7), (9, .int x9)] → fX7_tellShare_9 y1 y3 n y5 y7 x9 w = some w' → W p l e (rmX7_tellShare) s m args below meth c H locs 0 0 Q (F0 m 9 ls []) := by
  have hx := X.1
  have hb := X.2.1
  have hml := X.2.2.1
  have hown := X.2.2.2.1
  have hts := X.2.2.2.2.1
  intro y1 y3 n
  induction n with
  | zero =>
    intro y5 y7 x9 w H locs ls hP hS hl h
    exact absurd h (by simp [fX7_tellShare_9])
  | succ n ih =>
    intro y5 y7 x9 w H locs ls hP hS hl h
    rw [fX7_tellShare_9] at h
    refine lv_iload hx hb dX7_tellShare_9 (lv_at hl 5 rfl) ?_
    refine lv_bipush (v := 100) hx hb dX7_tellShare_11 (by decide) ?_
    refine lv_icmp_ge (tgt := 44) hx hb dX7_tellShare_13 (by decide) (fun c_5 => ?_) (fun c_5 => ?_)
    · replace h := it_p c_5 h
      exact bX7_tellShare_44 X hret y1 y3 y5 w _ _ _ hP hS (lv_sub hl [0, 1, 2, 3] rfl) h
    · replace h := it_n c_5 h
      refine lv_lload hx hb dX7_tellShare_16 (lv_at hl 4 rfl) ?_
      refine lv_lconst (v := 0) hx hb dX7_tellShare_18 (by decide) ?_
      refine W.lcmp hx hb dX7_tellShare_19 ?_
      refine lv_if_eq (tgt := 44) hx hb dX7_tellShare_20 (by decide) (fun c_6 => ?_) (fun c_6 => ?_)
      · replace h := it_p c_6 h
        exact bX7_tellShare_44 X hret y1 y3 y5 w _ _ _ hP hS (lv_sub hl [0, 1, 2, 3] rfl) h
      · replace h := it_n c_6 h
        refine lv_lload hx hb dX7_tellShare_23 (lv_at hl 3 rfl) ?_
        refine lv_lload hx hb dX7_tellShare_25 (lv_at hl 4 rfl) ?_
        obtain ⟨g_7, h⟩ := gd_s h
        refine lv_lrem hx hb dX7_tellShare_27 g_7 ?_
        refine x_nml h (fun y10_8 h => ?_)
        refine lv_lstore (lv' := [(10, .long y10_8), (0, .ref (ad 0)), (1, .long y1), (3, .long y3), (5, .long y5), (7, .long y7), (9, .int x9)]) hx hb dX7_tellShare_28 hl (by decide) rfl (fun ls hl => ?_)
        refine lv_lload hx hb dX7_tellShare_30 (lv_at hl 5 rfl) ?_
        refine lv_lstore (lv' := [(5, .long y7), (10, .long y10_8), (0, .ref (ad 0)), (1, .long y1), (3, .long y3), (7, .long y7), (9, .int x9)]) hx hb dX7_tellShare_32 hl (by decide) rfl (fun ls hl => ?_)
        refine lv_lload hx hb dX7_tellShare_34 (lv_at hl 1 rfl) ?_
        refine lv_lstore (lv' := [(7, .long y10_8), (5, .long y7), (10, .long y10_8), (0, .ref (ad 0)), (1, .long y1), (3, .long y3), (9, .int x9)]) hx hb dX7_tellShare_36 hl (by decide) rfl (fun ls hl => ?_)
        refine lv_iinc (v := (x9 + 1)) (lv' := [(9, .int (x9 + 1)), (7, .long y10_8), (5, .long y7), (10, .long y10_8), (0, .ref (ad 0)), (1, .long y1), (3, .long y3)]) hx hb dX7_tellShare_38 hl (k := 6) rfl rfl (by decide) rfl (fun ls hl => ?_)
        refine lv_goto (tgt := 9) hx hb dX7_tellShare_41 (by decide) ?_
        exact ih y7 y10_8 (x9 + 1) w _ _ _ hP hS (lv_sub hl [4, 5, 6, 2, 1, 0] rfl) h
def fX7_tellShare_E (y1 : Int64) (y3 : Int64) (w : Mm) : Option (Mm) := fX7_tellShare_9 y1 y3 FU y3 y1 0 w
set_option maxRecDepth 20000 in
theorem bX7_tellShare_E {p : Program} {l : Launch} {e : Env} {s : State} {m : MethodId} {args : Array Value} {below : List Frame} {meth : Method} {c : Code} {Q : State → Prop} {D : va_G} {c3 : C3} {ad : Nat → Nat} {A : Nat → Prop} {w' : Mm} (X : Cx p s m args c cX7_tellShare 12 RX7 wsX7_tellShare D c3 (encC c3 ad) gC A) (hret : Rv p l e (rmX7_tellShare) s m args below meth c Q cX7_tellShare D (encC c3 ad) A w') : ∀ (y1 : Int64) (y3 : Int64) (w : Mm) (H : Heap) (locs : List Loc) (ls : Array Slot), va_P D vwCl ((encC c3 ad) w) H → va_S A s.heap H locs → lv_has ls 12 [(0, .ref (ad 0)), (1, .long y1), (3, .long y3)] → fX7_tellShare_E y1 y3 w = some w' → W p l e (rmX7_tellShare) s m args below meth c H locs 0 0 Q (F0 m 0 ls []) := by
  have hx := X.1
  have hb := X.2.1
  have hml := X.2.2.1
  have hown := X.2.2.2.1
  have hts := X.2.2.2.2.1
  intro y1 y3 w H locs ls hP hS hl h
  unfold fX7_tellShare_E at h
  refine lv_lload_n hx hb dX7_tellShare_0 rfl (lv_at hl 2 rfl) ?_
  refine lv_lstore (lv' := [(5, .long y3), (0, .ref (ad 0)), (1, .long y1), (3, .long y3)]) hx hb dX7_tellShare_1 hl (by decide) rfl (fun ls hl => ?_)
  refine lv_lload_n hx hb dX7_tellShare_3 rfl (lv_at hl 2 rfl) ?_
  refine lv_lstore (lv' := [(7, .long y1), (5, .long y3), (0, .ref (ad 0)), (1, .long y1), (3, .long y3)]) hx hb dX7_tellShare_4 hl (by decide) rfl (fun ls hl => ?_)
  refine lv_iconst (v := 0) hx hb dX7_tellShare_6 (by decide) ?_
  refine lv_istore (lv' := [(9, .int 0), (7, .long y1), (5, .long y3), (0, .ref (ad 0)), (1, .long y1), (3, .long y3)]) hx hb dX7_tellShare_7 hl (by decide) rfl (fun ls hl => ?_)
  exact bX7_tellShare_9 X hret y1 y3 FU y3 y1 0 w _ _ _ hP hS (lv_sub hl [3, 4, 5, 2, 1, 0] rfl) h
def fX7_tellShare (y1 : Int64) (y3 : Int64) (w : Mm) : Option (Mm) := fX7_tellShare_E y1 y3 w
theorem ctX7_tellShare (l : Launch) (D : va_G) (c3 : C3) (ad : Nat → Nat) (w : Mm) (sz : Nat) (y1 : Int64) (y3 : Int64) (w' : Mm) (h : fX7_tellShare y1 y3 w = some w') : Cv l yX7_tellShare wsX7_tellShare rmX7_tellShare D c3 (encC c3 ad) gC [.ref (ad 0), .long y1, .long y3] w sz w' := by
  refine Cv.of (cc := cX7_tellShare) (maxL := 12) (encC_ok c3 ad) (by decide) rfl (Nat.le_of_ble_eq_true rfl) ?_
  intro p e s m below meth c A Q ls X hret hP hS hl
  exact bX7_tellShare_E X hret y1 y3 w _ _ ls hP hS hl h
theorem iwX7_rows_X6 : ∀ w ∈ wsX60, w ∈ wsX7_rows := fun _ h => List.mem_cons_of_mem _ (List.mem_append_left _ (List.mem_append_right _ h))
theorem iwX7_rows_X7 : ∀ w ∈ wsX70, w ∈ wsX7_rows := fun _ h => List.mem_cons_of_mem _ (List.mem_append_left _ (List.mem_append_left _ (List.mem_append_right _ h)))
theorem lkX7_rows_27 : Cond.fieldLink RX7 27 "StuckDoor" "family" "LStuckDoor$Family;" ∈ wsX7_rows := by decide +kernel
theorem lkX7_rows_41 : Cond.fieldLink RX7 41 "StuckDoor" "turns" "LStuckDoor$Turns;" ∈ wsX7_rows := by decide +kernel
theorem lkX7_rows_60 : Cond.fieldLink RX7 60 "StuckDoor" "askedLast" "I" ∈ wsX7_rows := by decide +kernel
theorem lkX7_rows_216 : Cond.fieldLink RX7 216 "StuckDoor$Turns" "settleable" "I" ∈ wsX7_rows := by decide +kernel
theorem lkX7_rows_219 : Cond.fieldLink RX7 219 "StuckDoor$Turns" "number" "J" ∈ wsX7_rows := by decide +kernel
def rmX7_rows : Room := { frames := 52, cells := 0, slots := 0, locals := 1143 }
def fX7_rows_E (x1 : Int32) (x2 : Int32) (w : Mm) : Option (Int32 × Mm) := bo (fX7_refusalOfTurns x1 x2 w) (fun r_2 => (if r_2 = 0 then bo (fX6_tryAll x1 x2 w) (fun w_7 => nm (sA w_7 0 9 (w_7.1 39 2)) (fun w_8 => bo (fX7_tellShare (w_8.2.1 39 1) 1 w_8) (fun w_11 => some (1, w_11)))) else some (r_2, w)))
set_option maxRecDepth 20000 in
theorem bX7_rows_E {p : Program} {l : Launch} {e : Env} {s : State} {m : MethodId} {args : Array Value} {below : List Frame} {meth : Method} {c : Code} {Q : State → Prop} {D : va_G} {c3 : C3} {ad : Nat → Nat} {A : Nat → Prop} {r : Int32} {w' : Mm} (X : Cx p s m args c cX7_rows 4 RX7 wsX7_rows D c3 (encC c3 ad) gC A) (hret : Ri p l e (rmX7_rows) s m args below meth c Q cX7_rows D (encC c3 ad) A r w') : ∀ (x1 : Int32) (x2 : Int32) (w : Mm) (H : Heap) (locs : List Loc) (ls : Array Slot), va_P D vwCl ((encC c3 ad) w) H → va_S A s.heap H locs → lv_has ls 4 [(0, .ref (ad 0)), (1, .int x1), (2, .int x2)] → fX7_rows_E x1 x2 w = some (r, w') → W p l e (rmX7_rows) s m args below meth c H locs 0 0 Q (F0 m 0 ls []) := by
  have hx := X.1
  have hb := X.2.1
  have hml := X.2.2.1
  have hown := X.2.2.2.1
  have hts := X.2.2.2.2.1
  intro x1 x2 w H locs ls hP hS hl h
  unfold fX7_rows_E at h
  refine lv_aload_n hx hb dX7_rows_0 rfl (lv_at hl 0 rfl) ?_
  refine lv_iload_n hx hb dX7_rows_1 rfl (lv_at hl 1 rfl) ?_
  refine lv_iload_n hx hb dX7_rows_2 rfl (lv_at hl 2 rfl) ?_
  obtain ⟨r_2, e_1, h⟩ := bo_s h
  refine x_goi X hS (x_runV (As := [.int x1, .int x2]) (rest := []) X gC_ok hP hS (ctX7_refusalOfTurns l D c3 ad w _ x1 x2 _ e_1) (cwV 2 hts gX7_rows_X7_refusalOfTurns rfl rfl rfl (by decide +kernel) ⟨by decide, by decide⟩) (gC0 c3 ad w) rfl rfl rfl hl.1 rfl (Nat.le_of_ble_eq_true rfl) dX7_rows_3) (fun H locs hP hS => ?_)
  refine lv_istore_n (lv' := [(3, .int r_2), (0, .ref (ad 0)), (1, .int x1), (2, .int x2)]) hx hb dX7_rows_6 rfl hl (by decide) rfl (fun ls hl => ?_)
  refine lv_iload_n hx hb dX7_rows_7 rfl (lv_at hl 0 rfl) ?_
  refine lv_if_eq (tgt := 13) hx hb dX7_rows_8 (by decide) (fun c_4 => ?_) (fun c_4 => ?_)
  · replace h := it_p c_4 h
    refine lv_aload_n hx hb dX7_rows_13 rfl (lv_at hl 1 rfl) ?_
    refine x_get (rest := []) X hP (gC0 c3 ad w) rfl iwX7_rows_X7 5 (by decide) lkX7_rows_41 rfl dX7_rows_14 ?_
    refine lv_aload_n hx hb dX7_rows_17 rfl (lv_at hl 1 rfl) ?_
    refine x_get (rest := [.ref (ad 39)]) X hP (gC0 c3 ad w) rfl iwX7_rows_X7 3 (by decide) lkX7_rows_27 rfl dX7_rows_18 ?_
    refine lv_iload_n hx hb dX7_rows_21 rfl (lv_at hl 2 rfl) ?_
    refine lv_iload_n hx hb dX7_rows_22 rfl (lv_at hl 3 rfl) ?_
    obtain ⟨w_7, e_5, h⟩ := bo_s h
    refine x_gov X hS (x_runV (As := [.ref (ad 23), .int x1, .int x2]) (rest := []) X gC_ok hP hS (ctX6_tryAll l D c3 ad w _ x1 x2 _ e_5) (cwV 3 hts gX7_rows_X6_tryAll rfl rfl rfl (by decide +kernel) ⟨by decide, by decide⟩) (gC39 c3 ad w) rfl rfl rfl hl.1 rfl (Nat.le_of_ble_eq_true rfl) dX7_rows_23) (fun H locs hP hS => ?_)
    refine lv_aload_n hx hb dX7_rows_26 rfl (lv_at hl 1 rfl) ?_
    refine lv_aload_n hx hb dX7_rows_27 rfl (lv_at hl 1 rfl) ?_
    refine x_get (rest := [.ref (ad 0)]) X hP (gC0 c3 ad w_7) rfl iwX7_rows_X7 5 (by decide) lkX7_rows_41 rfl dX7_rows_28 ?_
    refine x_get (rest := [.ref (ad 0)]) X hP (gC39 c3 ad w_7) rfl iwX7_rows_X6 2 (by decide) lkX7_rows_216 rfl dX7_rows_31 ?_
    refine x_put (v := .int (w_7.1 39 2)) X hP hS (gC0 c3 ad w_7) rfl iwX7_rows_X7 tyX7 tyX7_ok nmX7 9 (by decide) lkX7_rows_60 rfl rfl rfl (Nat.le_of_ble_eq_true rfl) (pC0_9 c3 ad w_7 (w_7.1 39 2)) dX7_rows_34 (fun H locs hP hS => ?_)
    refine x_nmw h hP (fun w_8 h hP => ?_)
    refine lv_aload_n hx hb dX7_rows_37 rfl (lv_at hl 1 rfl) ?_
    refine lv_aload_n hx hb dX7_rows_38 rfl (lv_at hl 1 rfl) ?_
    refine x_get (rest := [.ref (ad 0)]) X hP (gC0 c3 ad w_8) rfl iwX7_rows_X7 5 (by decide) lkX7_rows_41 rfl dX7_rows_39 ?_
    refine x_get (rest := [.ref (ad 0)]) X hP (gC39 c3 ad w_8) rfl iwX7_rows_X6 1 (by decide) lkX7_rows_219 rfl dX7_rows_42 ?_
    refine lv_lconst (v := 1) hx hb dX7_rows_45 (by decide) ?_
    obtain ⟨w_11, e_9, h⟩ := bo_s h
    refine x_gov X hS (x_runV (As := [.long (w_8.2.1 39 1), .long 1]) (rest := []) X gC_ok hP hS (ctX7_tellShare l D c3 ad w_8 _ (w_8.2.1 39 1) 1 _ e_9) (cwV 2 hts gX7_rows_X7_tellShare rfl rfl rfl (by decide +kernel) ⟨by decide, by decide⟩) (gC0 c3 ad w_8) rfl rfl rfl hl.1 rfl (Nat.le_of_ble_eq_true rfl) dX7_rows_46) (fun H locs hP hS => ?_)
    refine lv_iconst (v := 1) hx hb dX7_rows_49 (by decide) ?_
    obtain ⟨rfl, rfl⟩ := Prod.mk.inj (Option.some.inj h)
    exact hret _ _ _ _ hP hS dX7_rows_50
  · replace h := it_n c_4 h
    refine lv_iload_n hx hb dX7_rows_11 rfl (lv_at hl 0 rfl) ?_
    obtain ⟨rfl, rfl⟩ := Prod.mk.inj (Option.some.inj h)
    exact hret _ _ _ _ hP hS dX7_rows_12
def fX7_rows (x1 : Int32) (x2 : Int32) (w : Mm) : Option (Int32 × Mm) := fX7_rows_E x1 x2 w
theorem ctX7_rows (l : Launch) (D : va_G) (c3 : C3) (ad : Nat → Nat) (w : Mm) (sz : Nat) (x1 : Int32) (x2 : Int32) (r : Int32) (w' : Mm) (h : fX7_rows x1 x2 w = some (r, w')) : Ci l yX7_rows wsX7_rows rmX7_rows D c3 (encC c3 ad) gC [.ref (ad 0), .int x1, .int x2] w sz r w' := by
  refine Ci.of (cc := cX7_rows) (maxL := 4) (encC_ok c3 ad) (by decide) rfl (Nat.le_of_ble_eq_true rfl) ?_
  intro p e s m below meth c A Q ls X hret hP hS hl
  exact bX7_rows_E X hret x1 x2 w _ _ ls hP hS hl h
theorem iwX7_stuck_X2 : ∀ w ∈ wsX20, w ∈ wsX7_stuck := fun _ h => List.mem_cons_of_mem _ (List.mem_append_right _ h)
theorem iwX7_stuck_X7 : ∀ w ∈ wsX70, w ∈ wsX7_stuck := fun _ h => List.mem_cons_of_mem _ (List.mem_append_left _ (List.mem_append_right _ h))
theorem lkX7_stuck_27 : Cond.fieldLink RX7 27 "StuckDoor" "family" "LStuckDoor$Family;" ∈ wsX7_stuck := by decide +kernel
theorem lkX7_stuck_226 : Cond.fieldLink RX7 226 "StuckDoor$Family" "stuckRooms" "I" ∈ wsX7_stuck := by decide +kernel
def rmX7_stuck : Room := { frames := 0, cells := 0, slots := 0, locals := 0 }
def fX7_stuck_E (w : Mm) : Option (Int32) := some (w.1 23 6)
set_option maxRecDepth 20000 in
theorem bX7_stuck_E {p : Program} {l : Launch} {e : Env} {s : State} {m : MethodId} {args : Array Value} {below : List Frame} {meth : Method} {c : Code} {Q : State → Prop} {D : va_G} {c3 : C3} {ad : Nat → Nat} {A : Nat → Prop} {r : Int32} {w : Mm} (X : Cx p s m args c cX7_stuck 1 RX7 wsX7_stuck D c3 (encC c3 ad) gC A) (hret : Ri p l e (rmX7_stuck) s m args below meth c Q cX7_stuck D (encC c3 ad) A r w) : ∀ (H : Heap) (locs : List Loc) (ls : Array Slot), va_P D vwCl ((encC c3 ad) w) H → va_S A s.heap H locs → lv_has ls 1 [(0, .ref (ad 0))] → fX7_stuck_E w = some r → W p l e (rmX7_stuck) s m args below meth c H locs 0 0 Q (F0 m 0 ls []) := by
  have hx := X.1
  have hb := X.2.1
  have hml := X.2.2.1
  have hown := X.2.2.2.1
  have hts := X.2.2.2.2.1
  intro H locs ls hP hS hl h
  unfold fX7_stuck_E at h
  refine lv_aload_n hx hb dX7_stuck_0 rfl (lv_at hl 0 rfl) ?_
  refine x_get (rest := []) X hP (gC0 c3 ad w) rfl iwX7_stuck_X7 3 (by decide) lkX7_stuck_27 rfl dX7_stuck_1 ?_
  refine x_get (rest := []) X hP (gC23 c3 ad w) rfl iwX7_stuck_X2 6 (by decide) lkX7_stuck_226 rfl dX7_stuck_4 ?_
  obtain rfl := Option.some.inj h
  exact hret _ _ _ _ hP hS dX7_stuck_7
def fX7_stuck (w : Mm) : Option (Int32) := fX7_stuck_E w
theorem ctX7_stuck (l : Launch) (D : va_G) (c3 : C3) (ad : Nat → Nat) (w : Mm) (sz : Nat) (r : Int32) (h : fX7_stuck w = some r) : Ci l yX7_stuck wsX7_stuck rmX7_stuck D c3 (encC c3 ad) gC [.ref (ad 0)] w sz r w := by
  refine Ci.of (cc := cX7_stuck) (maxL := 1) (encC_ok c3 ad) (by decide) rfl (Nat.le_of_ble_eq_true rfl) ?_
  intro p e s m below meth c A Q ls X hret hP hS hl
  exact bX7_stuck_E X hret _ _ ls hP hS hl h
def rmX3_hasRooms : Room := { frames := 0, cells := 0, slots := 0, locals := 0 }
def fX3_hasRooms_E (x0 : Int32) (x1 : Int32) : Option (Int32) := (if x0 < 0 then some 0 else (if 12 ≤ x0 then some 0 else (if x1 < 0 then some 0 else (if 12 ≤ x1 then some 0 else some 1))))
set_option maxRecDepth 20000 in
theorem bX3_hasRooms_E {p : Program} {l : Launch} {e : Env} {s : State} {m : MethodId} {args : Array Value} {below : List Frame} {meth : Method} {c : Code} {Q : State → Prop} {D : va_G} {c3 : C3} {ad : Nat → Nat} {A : Nat → Prop} {r : Int32} {w : Mm} (X : Cx p s m args c cX3_hasRooms 2 RX3 wsX3_hasRooms D c3 (encC c3 ad) gC A) (hret : Rz p l e (rmX3_hasRooms) s m args below meth c Q cX3_hasRooms D (encC c3 ad) A r w) : ∀ (x0 : Int32) (x1 : Int32) (H : Heap) (locs : List Loc) (ls : Array Slot), va_P D vwCl ((encC c3 ad) w) H → va_S A s.heap H locs → lv_has ls 2 [(0, .int x0), (1, .int x1)] → fX3_hasRooms_E x0 x1 = some r → W p l e (rmX3_hasRooms) s m args below meth c H locs 0 0 Q (F0 m 0 ls []) := by
  have hx := X.1
  have hb := X.2.1
  have hml := X.2.2.1
  have hown := X.2.2.2.1
  have hts := X.2.2.2.2.1
  intro x0 x1 H locs ls hP hS hl h
  unfold fX3_hasRooms_E at h
  refine lv_iload_n hx hb dX3_hasRooms_0 rfl (lv_at hl 0 rfl) ?_
  refine lv_if_lt (tgt := 24) hx hb dX3_hasRooms_1 (by decide) (fun c_1 => ?_) (fun c_1 => ?_)
  · replace h := it_p c_1 h
    refine lv_iconst (v := 0) hx hb dX3_hasRooms_24 (by decide) ?_
    obtain rfl := Option.some.inj h
    exact hret (Or.inl rfl) _ _ _ _ hP hS dX3_hasRooms_25
  · replace h := it_n c_1 h
    refine lv_iload_n hx hb dX3_hasRooms_4 rfl (lv_at hl 0 rfl) ?_
    refine lv_bipush (v := 12) hx hb dX3_hasRooms_5 (by decide) ?_
    refine lv_icmp_ge (tgt := 24) hx hb dX3_hasRooms_7 (by decide) (fun c_2 => ?_) (fun c_2 => ?_)
    · replace h := it_p c_2 h
      refine lv_iconst (v := 0) hx hb dX3_hasRooms_24 (by decide) ?_
      obtain rfl := Option.some.inj h
      exact hret (Or.inl rfl) _ _ _ _ hP hS dX3_hasRooms_25
    · replace h := it_n c_2 h
      refine lv_iload_n hx hb dX3_hasRooms_10 rfl (lv_at hl 1 rfl) ?_
      refine lv_if_lt (tgt := 24) hx hb dX3_hasRooms_11 (by decide) (fun c_3 => ?_) (fun c_3 => ?_)
      · replace h := it_p c_3 h
        refine lv_iconst (v := 0) hx hb dX3_hasRooms_24 (by decide) ?_
        obtain rfl := Option.some.inj h
        exact hret (Or.inl rfl) _ _ _ _ hP hS dX3_hasRooms_25
      · replace h := it_n c_3 h
        refine lv_iload_n hx hb dX3_hasRooms_14 rfl (lv_at hl 1 rfl) ?_
        refine lv_bipush (v := 12) hx hb dX3_hasRooms_15 (by decide) ?_
        refine lv_icmp_ge (tgt := 24) hx hb dX3_hasRooms_17 (by decide) (fun c_4 => ?_) (fun c_4 => ?_)
        · replace h := it_p c_4 h
          refine lv_iconst (v := 0) hx hb dX3_hasRooms_24 (by decide) ?_
          obtain rfl := Option.some.inj h
          exact hret (Or.inl rfl) _ _ _ _ hP hS dX3_hasRooms_25
        · replace h := it_n c_4 h
          refine lv_iconst (v := 1) hx hb dX3_hasRooms_20 (by decide) ?_
          refine lv_goto (tgt := 25) hx hb dX3_hasRooms_21 (by decide) ?_
          obtain rfl := Option.some.inj h
          exact hret (Or.inr rfl) _ _ _ _ hP hS dX3_hasRooms_25
def fX3_hasRooms (x0 : Int32) (x1 : Int32) : Option (Int32) := fX3_hasRooms_E x0 x1
theorem ctX3_hasRooms (l : Launch) (D : va_G) (c3 : C3) (ad : Nat → Nat) (w : Mm) (sz : Nat) (x0 : Int32) (x1 : Int32) (r : Int32) (h : fX3_hasRooms x0 x1 = some r) : Ci l yX3_hasRooms wsX3_hasRooms rmX3_hasRooms D c3 (encC c3 ad) gC [.int x0, .int x1] w sz r w := by
  refine Ci.ofz (cc := cX3_hasRooms) (maxL := 2) (encC_ok c3 ad) (by decide) rfl (Nat.le_of_ble_eq_true rfl) ?_
  intro p e s m below meth c A Q ls X hret hP hS hl
  exact bX3_hasRooms_E X hret x0 x1 _ _ ls hP hS hl h
def rmX3_withBeside : Room := { frames := 0, cells := 0, slots := 0, locals := 0 }
def fX3_withBeside_E (x0 : Int32) : Option (Int32) := nm ((x0 <<< (4 &&& 31)) ||| (x0 >>> (4 &&& 31))) (fun x1_1 => nm (((x0 &&& (-2185)) <<< (1 &&& 31)) ||| ((x0 &&& (-274)) >>> (1 &&& 31))) (fun x2_2 => some (((x0 ||| x1_1) ||| x2_2) &&& 4095)))
set_option maxRecDepth 20000 in
theorem bX3_withBeside_E {p : Program} {l : Launch} {e : Env} {s : State} {m : MethodId} {args : Array Value} {below : List Frame} {meth : Method} {c : Code} {Q : State → Prop} {D : va_G} {c3 : C3} {ad : Nat → Nat} {A : Nat → Prop} {r : Int32} {w : Mm} (X : Cx p s m args c cX3_withBeside 3 RX3 wsX3_withBeside D c3 (encC c3 ad) gC A) (hret : Ri p l e (rmX3_withBeside) s m args below meth c Q cX3_withBeside D (encC c3 ad) A r w) : ∀ (x0 : Int32) (H : Heap) (locs : List Loc) (ls : Array Slot), va_P D vwCl ((encC c3 ad) w) H → va_S A s.heap H locs → lv_has ls 3 [(0, .int x0)] → fX3_withBeside_E x0 = some r → W p l e (rmX3_withBeside) s m args below meth c H locs 0 0 Q (F0 m 0 ls []) := by
  have hx := X.1
  have hb := X.2.1
  have hml := X.2.2.1
  have hown := X.2.2.2.1
  have hts := X.2.2.2.2.1
  intro x0 H locs ls hP hS hl h
  unfold fX3_withBeside_E at h
  refine lv_iload_n hx hb dX3_withBeside_0 rfl (lv_at hl 0 rfl) ?_
  refine lv_iconst (v := 4) hx hb dX3_withBeside_1 (by decide) ?_
  refine lv_ishl hx hb dX3_withBeside_2 ?_
  refine lv_iload_n hx hb dX3_withBeside_3 rfl (lv_at hl 0 rfl) ?_
  refine lv_iconst (v := 4) hx hb dX3_withBeside_4 (by decide) ?_
  refine lv_ishr hx hb dX3_withBeside_5 ?_
  refine lv_ior hx hb dX3_withBeside_6 ?_
  refine x_nmi h (fun x1_1 h => ?_)
  refine lv_istore_n (lv' := [(1, .int x1_1), (0, .int x0)]) hx hb dX3_withBeside_7 rfl hl (by decide) rfl (fun ls hl => ?_)
  refine lv_iload_n hx hb dX3_withBeside_8 rfl (lv_at hl 1 rfl) ?_
  refine lv_sipush (v := (-2185)) hx hb dX3_withBeside_9 (by decide) ?_
  refine lv_iand hx hb dX3_withBeside_12 ?_
  refine lv_iconst (v := 1) hx hb dX3_withBeside_13 (by decide) ?_
  refine lv_ishl hx hb dX3_withBeside_14 ?_
  refine lv_iload_n hx hb dX3_withBeside_15 rfl (lv_at hl 1 rfl) ?_
  refine lv_sipush (v := (-274)) hx hb dX3_withBeside_16 (by decide) ?_
  refine lv_iand hx hb dX3_withBeside_19 ?_
  refine lv_iconst (v := 1) hx hb dX3_withBeside_20 (by decide) ?_
  refine lv_ishr hx hb dX3_withBeside_21 ?_
  refine lv_ior hx hb dX3_withBeside_22 ?_
  refine x_nmi h (fun x2_2 h => ?_)
  refine lv_istore_n (lv' := [(2, .int x2_2), (1, .int x1_1), (0, .int x0)]) hx hb dX3_withBeside_23 rfl hl (by decide) rfl (fun ls hl => ?_)
  refine lv_iload_n hx hb dX3_withBeside_24 rfl (lv_at hl 2 rfl) ?_
  refine lv_iload_n hx hb dX3_withBeside_25 rfl (lv_at hl 1 rfl) ?_
  refine lv_ior hx hb dX3_withBeside_26 ?_
  refine lv_iload_n hx hb dX3_withBeside_27 rfl (lv_at hl 0 rfl) ?_
  refine lv_ior hx hb dX3_withBeside_28 ?_
  refine lv_sipush (v := 4095) hx hb dX3_withBeside_29 (by decide) ?_
  refine lv_iand hx hb dX3_withBeside_32 ?_
  obtain rfl := Option.some.inj h
  exact hret _ _ _ _ hP hS dX3_withBeside_33
def fX3_withBeside (x0 : Int32) : Option (Int32) := fX3_withBeside_E x0
theorem ctX3_withBeside (l : Launch) (D : va_G) (c3 : C3) (ad : Nat → Nat) (w : Mm) (sz : Nat) (x0 : Int32) (r : Int32) (h : fX3_withBeside x0 = some r) : Ci l yX3_withBeside wsX3_withBeside rmX3_withBeside D c3 (encC c3 ad) gC [.int x0] w sz r w := by
  refine Ci.of (cc := cX3_withBeside) (maxL := 3) (encC_ok c3 ad) (by decide) rfl (Nat.le_of_ble_eq_true rfl) ?_
  intro p e s m below meth c A Q ls X hret hP hS hl
  exact bX3_withBeside_E X hret x0 _ _ ls hP hS hl h
def rmX3_steps : Room := { frames := 1, cells := 0, slots := 0, locals := 22 }
def fX3_steps_11 (x1 : Int32) (x2 : Int32) : Nat → Int32 → Int32 → Option (Int32)
  | 0, _, _ => none
  | n + 1, x3, x4 => (if 12 ≤ x4 then some (-9) else (if (x3 &&& (1 <<< (x1 &&& 31))) = 0 then bo (fX3_withBeside x3) (fun r_4 => nm (r_4 &&& (x2 ^^^ (-1))) (fun x3_6 => fX3_steps_11 x1 x2 n x3_6 (x4 + 1))) else some x4))
set_option maxRecDepth 20000 in
theorem bX3_steps_11 {p : Program} {l : Launch} {e : Env} {s : State} {m : MethodId} {args : Array Value} {below : List Frame} {meth : Method} {c : Code} {Q : State → Prop} {D : va_G} {c3 : C3} {ad : Nat → Nat} {A : Nat → Prop} {r : Int32} {w : Mm} (X : Cx p s m args c cX3_steps 5 RX3 wsX3_steps D c3 (encC c3 ad) gC A) (hret : Ri p l e (rmX3_steps) s m args below meth c Q cX3_steps D (encC c3 ad) A r w) : ∀ (x1 : Int32) (x2 : Int32) (n : Nat) (x3 : Int32) (x4 : Int32) (H : Heap) (locs : List Loc) (ls : Array Slot), va_P D vwCl ((encC c3 ad) w) H → va_S A s.heap H locs → lv_has ls 5 [(1, .int x1), (2, .int x2), (3, .int x3), (4, .int x4)] → fX3_steps_11 x1 x2 n x3 x4 = some r → W p l e (rmX3_steps) s m args below meth c H locs 0 0 Q (F0 m 11 ls []) := by
  have hx := X.1
  have hb := X.2.1
  have hml := X.2.2.1
  have hown := X.2.2.2.1
  have hts := X.2.2.2.2.1
  intro x1 x2 n
  induction n with
  | zero =>
    intro x3 x4 H locs ls hP hS hl h
    exact absurd h (by simp [fX3_steps_11])
  | succ n ih =>
    intro x3 x4 H locs ls hP hS hl h
    rw [fX3_steps_11] at h
    refine lv_iload hx hb dX3_steps_11 (lv_at hl 3 rfl) ?_
    refine lv_bipush (v := 12) hx hb dX3_steps_13 (by decide) ?_
    refine lv_icmp_ge (tgt := 44) hx hb dX3_steps_15 (by decide) (fun c_1 => ?_) (fun c_1 => ?_)
    · replace h := it_p c_1 h
      refine lv_bipush (v := (-9)) hx hb dX3_steps_44 (by decide) ?_
      obtain rfl := Option.some.inj h
      exact hret _ _ _ _ hP hS dX3_steps_46
    · replace h := it_n c_1 h
      refine lv_iload_n hx hb dX3_steps_18 rfl (lv_at hl 2 rfl) ?_
      refine lv_iconst (v := 1) hx hb dX3_steps_19 (by decide) ?_
      refine lv_iload_n hx hb dX3_steps_20 rfl (lv_at hl 0 rfl) ?_
      refine lv_ishl hx hb dX3_steps_21 ?_
      refine lv_iand hx hb dX3_steps_22 ?_
      refine lv_if_eq (tgt := 29) hx hb dX3_steps_23 (by decide) (fun c_2 => ?_) (fun c_2 => ?_)
      · replace h := it_p c_2 h
        refine lv_iload_n hx hb dX3_steps_29 rfl (lv_at hl 2 rfl) ?_
        obtain ⟨r_4, e_3, h⟩ := bo_s h
        refine x_goi X hS (x_runS (As := [.int x3]) (rest := []) X gC_ok hP hS (ctX3_withBeside l D c3 ad w _ x3 _ e_3) (va_cwS 1 hts gX3_steps_X3_withBeside rfl rfl rfl (by decide +kernel) ⟨by decide, by decide⟩) rfl hl.1 rfl (Nat.le_of_ble_eq_true rfl) dX3_steps_30) (fun H locs hP hS => ?_)
        refine lv_iload_n hx hb dX3_steps_33 rfl (lv_at hl 1 rfl) ?_
        refine lv_iconst (v := (-1)) hx hb dX3_steps_34 (by decide) ?_
        refine lv_ixor hx hb dX3_steps_35 ?_
        refine lv_iand hx hb dX3_steps_36 ?_
        refine x_nmi h (fun x3_6 h => ?_)
        refine lv_istore_n (lv' := [(3, .int x3_6), (1, .int x1), (2, .int x2), (4, .int x4)]) hx hb dX3_steps_37 rfl hl (by decide) rfl (fun ls hl => ?_)
        refine lv_iinc (v := (x4 + 1)) (lv' := [(4, .int (x4 + 1)), (3, .int x3_6), (1, .int x1), (2, .int x2)]) hx hb dX3_steps_38 hl (k := 3) rfl rfl (by decide) rfl (fun ls hl => ?_)
        refine lv_goto (tgt := 11) hx hb dX3_steps_41 (by decide) ?_
        exact ih x3_6 (x4 + 1) _ _ _ hP hS (lv_sub hl [2, 3, 1, 0] rfl) h
      · replace h := it_n c_2 h
        refine lv_iload hx hb dX3_steps_26 (lv_at hl 3 rfl) ?_
        obtain rfl := Option.some.inj h
        exact hret _ _ _ _ hP hS dX3_steps_28
def fX3_steps_E (x0 : Int32) (x1 : Int32) (x2 : Int32) : Option (Int32) := nm ((1 <<< (x0 &&& 31)) &&& (x2 ^^^ (-1))) (fun x3_7 => fX3_steps_11 x1 x2 FU x3_7 0)
set_option maxRecDepth 20000 in
theorem bX3_steps_E {p : Program} {l : Launch} {e : Env} {s : State} {m : MethodId} {args : Array Value} {below : List Frame} {meth : Method} {c : Code} {Q : State → Prop} {D : va_G} {c3 : C3} {ad : Nat → Nat} {A : Nat → Prop} {r : Int32} {w : Mm} (X : Cx p s m args c cX3_steps 5 RX3 wsX3_steps D c3 (encC c3 ad) gC A) (hret : Ri p l e (rmX3_steps) s m args below meth c Q cX3_steps D (encC c3 ad) A r w) : ∀ (x0 : Int32) (x1 : Int32) (x2 : Int32) (H : Heap) (locs : List Loc) (ls : Array Slot), va_P D vwCl ((encC c3 ad) w) H → va_S A s.heap H locs → lv_has ls 5 [(0, .int x0), (1, .int x1), (2, .int x2)] → fX3_steps_E x0 x1 x2 = some r → W p l e (rmX3_steps) s m args below meth c H locs 0 0 Q (F0 m 0 ls []) := by
  have hx := X.1
  have hb := X.2.1
  have hml := X.2.2.1
  have hown := X.2.2.2.1
  have hts := X.2.2.2.2.1
  intro x0 x1 x2 H locs ls hP hS hl h
  unfold fX3_steps_E at h
  refine lv_iconst (v := 1) hx hb dX3_steps_0 (by decide) ?_
  refine lv_iload_n hx hb dX3_steps_1 rfl (lv_at hl 0 rfl) ?_
  refine lv_ishl hx hb dX3_steps_2 ?_
  refine lv_iload_n hx hb dX3_steps_3 rfl (lv_at hl 2 rfl) ?_
  refine lv_iconst (v := (-1)) hx hb dX3_steps_4 (by decide) ?_
  refine lv_ixor hx hb dX3_steps_5 ?_
  refine lv_iand hx hb dX3_steps_6 ?_
  refine x_nmi h (fun x3_7 h => ?_)
  refine lv_istore_n (lv' := [(3, .int x3_7), (0, .int x0), (1, .int x1), (2, .int x2)]) hx hb dX3_steps_7 rfl hl (by decide) rfl (fun ls hl => ?_)
  refine lv_iconst (v := 0) hx hb dX3_steps_8 (by decide) ?_
  refine lv_istore (lv' := [(4, .int 0), (3, .int x3_7), (0, .int x0), (1, .int x1), (2, .int x2)]) hx hb dX3_steps_9 hl (by decide) rfl (fun ls hl => ?_)
  exact bX3_steps_11 X hret x1 x2 FU x3_7 0 _ _ _ hP hS (lv_sub hl [3, 4, 1, 0] rfl) h
def fX3_steps (x0 : Int32) (x1 : Int32) (x2 : Int32) : Option (Int32) := fX3_steps_E x0 x1 x2
theorem ctX3_steps (l : Launch) (D : va_G) (c3 : C3) (ad : Nat → Nat) (w : Mm) (sz : Nat) (x0 : Int32) (x1 : Int32) (x2 : Int32) (r : Int32) (h : fX3_steps x0 x1 x2 = some r) : Ci l yX3_steps wsX3_steps rmX3_steps D c3 (encC c3 ad) gC [.int x0, .int x1, .int x2] w sz r w := by
  refine Ci.of (cc := cX3_steps) (maxL := 5) (encC_ok c3 ad) (by decide) rfl (Nat.le_of_ble_eq_true rfl) ?_
  intro p e s m below meth c A Q ls X hret hP hS hl
  exact bX3_steps_E X hret x0 x1 x2 _ _ ls hP hS hl h
theorem iwX7_way_X2 : ∀ w ∈ wsX20, w ∈ wsX7_way := fun _ h => List.mem_cons_of_mem _ (List.mem_append_right _ h)
theorem iwX7_way_X7 : ∀ w ∈ wsX70, w ∈ wsX7_way := fun _ h => List.mem_cons_of_mem _ (List.mem_append_left _ (List.mem_append_right _ h))
theorem lkX7_way_27 : Cond.fieldLink RX7 27 "StuckDoor" "family" "LStuckDoor$Family;" ∈ wsX7_way := by decide +kernel
theorem lkX7_way_226 : Cond.fieldLink RX7 226 "StuckDoor$Family" "stuckRooms" "I" ∈ wsX7_way := by decide +kernel
def rmX7_way : Room := { frames := 2, cells := 0, slots := 0, locals := 46 }
def fX7_way_E (x1 : Int32) (x2 : Int32) (w : Mm) : Option (Int32) := bo (fX3_hasRooms x1 x2) (fun r_2 => (if r_2 = 0 then some (-1) else bo (fX3_steps x1 x2 (w.1 23 6)) (fun r_6 => some r_6)))
set_option maxRecDepth 20000 in
theorem bX7_way_E {p : Program} {l : Launch} {e : Env} {s : State} {m : MethodId} {args : Array Value} {below : List Frame} {meth : Method} {c : Code} {Q : State → Prop} {D : va_G} {c3 : C3} {ad : Nat → Nat} {A : Nat → Prop} {r : Int32} {w : Mm} (X : Cx p s m args c cX7_way 3 RX7 wsX7_way D c3 (encC c3 ad) gC A) (hret : Ri p l e (rmX7_way) s m args below meth c Q cX7_way D (encC c3 ad) A r w) : ∀ (x1 : Int32) (x2 : Int32) (H : Heap) (locs : List Loc) (ls : Array Slot), va_P D vwCl ((encC c3 ad) w) H → va_S A s.heap H locs → lv_has ls 3 [(0, .ref (ad 0)), (1, .int x1), (2, .int x2)] → fX7_way_E x1 x2 w = some r → W p l e (rmX7_way) s m args below meth c H locs 0 0 Q (F0 m 0 ls []) := by
  have hx := X.1
  have hb := X.2.1
  have hml := X.2.2.1
  have hown := X.2.2.2.1
  have hts := X.2.2.2.2.1
  intro x1 x2 H locs ls hP hS hl h
  unfold fX7_way_E at h
  refine lv_iload_n hx hb dX7_way_0 rfl (lv_at hl 1 rfl) ?_
  refine lv_iload_n hx hb dX7_way_1 rfl (lv_at hl 2 rfl) ?_
  obtain ⟨r_2, e_1, h⟩ := bo_s h
  refine x_goi X hS (x_runS (As := [.int x1, .int x2]) (rest := []) X gC_ok hP hS (ctX3_hasRooms l D c3 ad w _ x1 x2 _ e_1) (va_cwS 2 hts gX7_way_X3_hasRooms rfl rfl rfl (by decide +kernel) ⟨by decide, by decide⟩) rfl hl.1 rfl (Nat.le_of_ble_eq_true rfl) dX7_way_2) (fun H locs hP hS => ?_)
  refine lv_if_eq (tgt := 23) hx hb dX7_way_5 (by decide) (fun c_4 => ?_) (fun c_4 => ?_)
  · replace h := it_p c_4 h
    refine lv_iconst (v := (-1)) hx hb dX7_way_23 (by decide) ?_
    obtain rfl := Option.some.inj h
    exact hret _ _ _ _ hP hS dX7_way_24
  · replace h := it_n c_4 h
    refine lv_iload_n hx hb dX7_way_8 rfl (lv_at hl 1 rfl) ?_
    refine lv_iload_n hx hb dX7_way_9 rfl (lv_at hl 2 rfl) ?_
    refine lv_aload_n hx hb dX7_way_10 rfl (lv_at hl 0 rfl) ?_
    refine x_get (rest := [.int x2, .int x1]) X hP (gC0 c3 ad w) rfl iwX7_way_X7 3 (by decide) lkX7_way_27 rfl dX7_way_11 ?_
    refine x_get (rest := [.int x2, .int x1]) X hP (gC23 c3 ad w) rfl iwX7_way_X2 6 (by decide) lkX7_way_226 rfl dX7_way_14 ?_
    obtain ⟨r_6, e_5, h⟩ := bo_s h
    refine x_goi X hS (x_runS (As := [.int x1, .int x2, .int (w.1 23 6)]) (rest := []) X gC_ok hP hS (ctX3_steps l D c3 ad w _ x1 x2 (w.1 23 6) _ e_5) (va_cwS 3 hts gX7_way_X3_steps rfl rfl rfl (by decide +kernel) ⟨by decide, by decide⟩) rfl hl.1 rfl (Nat.le_of_ble_eq_true rfl) dX7_way_17) (fun H locs hP hS => ?_)
    refine lv_goto (tgt := 24) hx hb dX7_way_20 (by decide) ?_
    obtain rfl := Option.some.inj h
    exact hret _ _ _ _ hP hS dX7_way_24
def fX7_way (x1 : Int32) (x2 : Int32) (w : Mm) : Option (Int32) := fX7_way_E x1 x2 w
theorem ctX7_way (l : Launch) (D : va_G) (c3 : C3) (ad : Nat → Nat) (w : Mm) (sz : Nat) (x1 : Int32) (x2 : Int32) (r : Int32) (h : fX7_way x1 x2 w = some r) : Ci l yX7_way wsX7_way rmX7_way D c3 (encC c3 ad) gC [.ref (ad 0), .int x1, .int x2] w sz r w := by
  refine Ci.of (cc := cX7_way) (maxL := 3) (encC_ok c3 ad) (by decide) rfl (Nat.le_of_ble_eq_true rfl) ?_
  intro p e s m below meth c A Q ls X hret hP hS hl
  exact bX7_way_E X hret x1 x2 _ _ ls hP hS hl h
def rmX3_onEachWay : Room := { frames := 2, cells := 0, slots := 0, locals := 46 }
def fX3_onEachWay_48 (k18 : Int32 → Int32 → Option (Int32)) (x0 : Int32) (x1 : Int32) (x2 : Int32) (x3 : Int32) (x4 : Int32) : Option (Int32) := k18 x3 (x4 + 1)
set_option maxRecDepth 20000 in
theorem bX3_onEachWay_48 {p : Program} {l : Launch} {e : Env} {s : State} {m : MethodId} {args : Array Value} {below : List Frame} {meth : Method} {c : Code} {Q : State → Prop} {D : va_G} {c3 : C3} {ad : Nat → Nat} {A : Nat → Prop} {r : Int32} {w : Mm} (X : Cx p s m args c cX3_onEachWay 5 RX3 wsX3_onEachWay D c3 (encC c3 ad) gC A) (hret : Ri p l e (rmX3_onEachWay) s m args below meth c Q cX3_onEachWay D (encC c3 ad) A r w) {x0 : Int32} {x1 : Int32} {x2 : Int32} {k18 : Int32 → Int32 → Option (Int32)} (hk18 : ∀ (x3 : Int32) (x4 : Int32) (H : Heap) (locs : List Loc) (ls : Array Slot), va_P D vwCl ((encC c3 ad) w) H → va_S A s.heap H locs → lv_has ls 5 [(0, .int x0), (1, .int x1), (2, .int x2), (3, .int x3), (4, .int x4)] → k18 x3 x4 = some r → W p l e (rmX3_onEachWay) s m args below meth c H locs 0 0 Q (F0 m 18 ls [])) : ∀ (x3 : Int32) (x4 : Int32) (H : Heap) (locs : List Loc) (ls : Array Slot), va_P D vwCl ((encC c3 ad) w) H → va_S A s.heap H locs → lv_has ls 5 [(0, .int x0), (1, .int x1), (2, .int x2), (3, .int x3), (4, .int x4)] → fX3_onEachWay_48 k18 x0 x1 x2 x3 x4 = some r → W p l e (rmX3_onEachWay) s m args below meth c H locs 0 0 Q (F0 m 48 ls []) := by
  have hx := X.1
  have hb := X.2.1
  have hml := X.2.2.1
  have hown := X.2.2.2.1
  have hts := X.2.2.2.2.1
  intro x3 x4 H locs ls hP hS hl h
  unfold fX3_onEachWay_48 at h
  refine lv_iinc (v := (x4 + 1)) (lv' := [(4, .int (x4 + 1)), (0, .int x0), (1, .int x1), (2, .int x2), (3, .int x3)]) hx hb dX3_onEachWay_48 hl (k := 4) rfl rfl (by decide) rfl (fun ls hl => ?_)
  refine lv_goto (tgt := 18) hx hb dX3_onEachWay_51 (by decide) ?_
  exact hk18 x3 (x4 + 1) _ _ _ hP hS (lv_sub hl [1, 2, 3, 4, 0] rfl) h
def fX3_onEachWay_18 (x0 : Int32) (x1 : Int32) (x2 : Int32) : Nat → Int32 → Int32 → Option (Int32)
  | 0, _, _ => none
  | n + 1, x3, x4 => (if 12 ≤ x4 then some x3 else bo (fX3_steps x0 x1 (x2 ||| (1 <<< (x4 &&& 31)))) (fun r_3 => (if r_3 = (-9) then nm (x3 ||| (1 <<< (x4 &&& 31))) (fun x3_6 => fX3_onEachWay_48 (fX3_onEachWay_18 x0 x1 x2 n) x0 x1 x2 x3_6 x4) else fX3_onEachWay_48 (fX3_onEachWay_18 x0 x1 x2 n) x0 x1 x2 x3 x4)))
set_option maxRecDepth 20000 in
theorem bX3_onEachWay_18 {p : Program} {l : Launch} {e : Env} {s : State} {m : MethodId} {args : Array Value} {below : List Frame} {meth : Method} {c : Code} {Q : State → Prop} {D : va_G} {c3 : C3} {ad : Nat → Nat} {A : Nat → Prop} {r : Int32} {w : Mm} (X : Cx p s m args c cX3_onEachWay 5 RX3 wsX3_onEachWay D c3 (encC c3 ad) gC A) (hret : Ri p l e (rmX3_onEachWay) s m args below meth c Q cX3_onEachWay D (encC c3 ad) A r w) : ∀ (x0 : Int32) (x1 : Int32) (x2 : Int32) (n : Nat) (x3 : Int32) (x4 : Int32) (H : Heap) (locs : List Loc) (ls : Array Slot), va_P D vwCl ((encC c3 ad) w) H → va_S A s.heap H locs → lv_has ls 5 [(0, .int x0), (1, .int x1), (2, .int x2), (3, .int x3), (4, .int x4)] → fX3_onEachWay_18 x0 x1 x2 n x3 x4 = some r → W p l e (rmX3_onEachWay) s m args below meth c H locs 0 0 Q (F0 m 18 ls []) := by
  have hx := X.1
  have hb := X.2.1
  have hml := X.2.2.1
  have hown := X.2.2.2.1
  have hts := X.2.2.2.2.1
  intro x0 x1 x2 n
  induction n with
  | zero =>
    intro x3 x4 H locs ls hP hS hl h
    exact absurd h (by simp [fX3_onEachWay_18])
  | succ n ih =>
    intro x3 x4 H locs ls hP hS hl h
    rw [fX3_onEachWay_18] at h
    refine lv_iload hx hb dX3_onEachWay_18 (lv_at hl 4 rfl) ?_
    refine lv_bipush (v := 12) hx hb dX3_onEachWay_20 (by decide) ?_
    refine lv_icmp_ge (tgt := 54) hx hb dX3_onEachWay_22 (by decide) (fun c_1 => ?_) (fun c_1 => ?_)
    · replace h := it_p c_1 h
      refine lv_iload_n hx hb dX3_onEachWay_54 rfl (lv_at hl 3 rfl) ?_
      obtain rfl := Option.some.inj h
      exact hret _ _ _ _ hP hS dX3_onEachWay_55
    · replace h := it_n c_1 h
      refine lv_iload_n hx hb dX3_onEachWay_25 rfl (lv_at hl 0 rfl) ?_
      refine lv_iload_n hx hb dX3_onEachWay_26 rfl (lv_at hl 1 rfl) ?_
      refine lv_iload_n hx hb dX3_onEachWay_27 rfl (lv_at hl 2 rfl) ?_
      refine lv_iconst (v := 1) hx hb dX3_onEachWay_28 (by decide) ?_
      refine lv_iload hx hb dX3_onEachWay_29 (lv_at hl 4 rfl) ?_
      refine lv_ishl hx hb dX3_onEachWay_31 ?_
      refine lv_ior hx hb dX3_onEachWay_32 ?_
      obtain ⟨r_3, e_2, h⟩ := bo_s h
      refine x_goi X hS (x_runS (As := [.int x0, .int x1, .int (x2 ||| (1 <<< (x4 &&& 31)))]) (rest := []) X gC_ok hP hS (ctX3_steps l D c3 ad w _ x0 x1 (x2 ||| (1 <<< (x4 &&& 31))) _ e_2) (va_cwS 3 hts gX3_onEachWay_X3_steps rfl rfl rfl (by decide +kernel) ⟨by decide, by decide⟩) rfl hl.1 rfl (Nat.le_of_ble_eq_true rfl) dX3_onEachWay_33) (fun H locs hP hS => ?_)
      refine lv_bipush (v := (-9)) hx hb dX3_onEachWay_36 (by decide) ?_
      refine lv_icmp_ne (tgt := 48) hx hb dX3_onEachWay_38 (by decide) (fun c_5 => ?_) (fun c_5 => ?_)
      · replace h := it_n c_5 h
        exact bX3_onEachWay_48 (x0 := x0) (x1 := x1) (x2 := x2) (k18 := (fX3_onEachWay_18 x0 x1 x2 n)) X hret ih x3 x4 _ _ _ hP hS (lv_sub hl [0, 1, 2, 3, 4] rfl) h
      · replace h := it_p c_5 h
        refine lv_iload_n hx hb dX3_onEachWay_41 rfl (lv_at hl 3 rfl) ?_
        refine lv_iconst (v := 1) hx hb dX3_onEachWay_42 (by decide) ?_
        refine lv_iload hx hb dX3_onEachWay_43 (lv_at hl 4 rfl) ?_
        refine lv_ishl hx hb dX3_onEachWay_45 ?_
        refine lv_ior hx hb dX3_onEachWay_46 ?_
        refine x_nmi h (fun x3_6 h => ?_)
        refine lv_istore_n (lv' := [(3, .int x3_6), (0, .int x0), (1, .int x1), (2, .int x2), (4, .int x4)]) hx hb dX3_onEachWay_47 rfl hl (by decide) rfl (fun ls hl => ?_)
        exact bX3_onEachWay_48 (x0 := x0) (x1 := x1) (x2 := x2) (k18 := (fX3_onEachWay_18 x0 x1 x2 n)) X hret ih x3_6 x4 _ _ _ hP hS (lv_sub hl [1, 2, 3, 0, 4] rfl) h
def fX3_onEachWay_E (x0 : Int32) (x1 : Int32) (x2 : Int32) : Option (Int32) := bo (fX3_steps x0 x1 x2) (fun r_8 => (if r_8 = (-9) then some 0 else fX3_onEachWay_18 x0 x1 x2 FU 0 0))
set_option maxRecDepth 20000 in
theorem bX3_onEachWay_E {p : Program} {l : Launch} {e : Env} {s : State} {m : MethodId} {args : Array Value} {below : List Frame} {meth : Method} {c : Code} {Q : State → Prop} {D : va_G} {c3 : C3} {ad : Nat → Nat} {A : Nat → Prop} {r : Int32} {w : Mm} (X : Cx p s m args c cX3_onEachWay 5 RX3 wsX3_onEachWay D c3 (encC c3 ad) gC A) (hret : Ri p l e (rmX3_onEachWay) s m args below meth c Q cX3_onEachWay D (encC c3 ad) A r w) : ∀ (x0 : Int32) (x1 : Int32) (x2 : Int32) (H : Heap) (locs : List Loc) (ls : Array Slot), va_P D vwCl ((encC c3 ad) w) H → va_S A s.heap H locs → lv_has ls 5 [(0, .int x0), (1, .int x1), (2, .int x2)] → fX3_onEachWay_E x0 x1 x2 = some r → W p l e (rmX3_onEachWay) s m args below meth c H locs 0 0 Q (F0 m 0 ls []) := by
  have hx := X.1
  have hb := X.2.1
  have hml := X.2.2.1
  have hown := X.2.2.2.1
  have hts := X.2.2.2.2.1
  intro x0 x1 x2 H locs ls hP hS hl h
  unfold fX3_onEachWay_E at h
  refine lv_iload_n hx hb dX3_onEachWay_0 rfl (lv_at hl 0 rfl) ?_
  refine lv_iload_n hx hb dX3_onEachWay_1 rfl (lv_at hl 1 rfl) ?_
  refine lv_iload_n hx hb dX3_onEachWay_2 rfl (lv_at hl 2 rfl) ?_
  obtain ⟨r_8, e_7, h⟩ := bo_s h
  refine x_goi X hS (x_runS (As := [.int x0, .int x1, .int x2]) (rest := []) X gC_ok hP hS (ctX3_steps l D c3 ad w _ x0 x1 x2 _ e_7) (va_cwS 3 hts gX3_onEachWay_X3_steps rfl rfl rfl (by decide +kernel) ⟨by decide, by decide⟩) rfl hl.1 rfl (Nat.le_of_ble_eq_true rfl) dX3_onEachWay_3) (fun H locs hP hS => ?_)
  refine lv_bipush (v := (-9)) hx hb dX3_onEachWay_6 (by decide) ?_
  refine lv_icmp_ne (tgt := 13) hx hb dX3_onEachWay_8 (by decide) (fun c_10 => ?_) (fun c_10 => ?_)
  · replace h := it_n c_10 h
    refine lv_iconst (v := 0) hx hb dX3_onEachWay_13 (by decide) ?_
    refine lv_istore_n (lv' := [(3, .int 0), (0, .int x0), (1, .int x1), (2, .int x2)]) hx hb dX3_onEachWay_14 rfl hl (by decide) rfl (fun ls hl => ?_)
    refine lv_iconst (v := 0) hx hb dX3_onEachWay_15 (by decide) ?_
    refine lv_istore (lv' := [(4, .int 0), (3, .int 0), (0, .int x0), (1, .int x1), (2, .int x2)]) hx hb dX3_onEachWay_16 hl (by decide) rfl (fun ls hl => ?_)
    exact bX3_onEachWay_18 X hret x0 x1 x2 FU 0 0 _ _ _ hP hS (lv_sub hl [2, 3, 4, 1, 0] rfl) h
  · replace h := it_p c_10 h
    refine lv_iconst (v := 0) hx hb dX3_onEachWay_11 (by decide) ?_
    obtain rfl := Option.some.inj h
    exact hret _ _ _ _ hP hS dX3_onEachWay_12
def fX3_onEachWay (x0 : Int32) (x1 : Int32) (x2 : Int32) : Option (Int32) := fX3_onEachWay_E x0 x1 x2
theorem ctX3_onEachWay (l : Launch) (D : va_G) (c3 : C3) (ad : Nat → Nat) (w : Mm) (sz : Nat) (x0 : Int32) (x1 : Int32) (x2 : Int32) (r : Int32) (h : fX3_onEachWay x0 x1 x2 = some r) : Ci l yX3_onEachWay wsX3_onEachWay rmX3_onEachWay D c3 (encC c3 ad) gC [.int x0, .int x1, .int x2] w sz r w := by
  refine Ci.of (cc := cX3_onEachWay) (maxL := 5) (encC_ok c3 ad) (by decide) rfl (Nat.le_of_ble_eq_true rfl) ?_
  intro p e s m below meth c A Q ls X hret hP hS hl
  exact bX3_onEachWay_E X hret x0 x1 x2 _ _ ls hP hS hl h
theorem iwX7_cuts_X2 : ∀ w ∈ wsX20, w ∈ wsX7_cuts := fun _ h => List.mem_cons_of_mem _ (List.mem_append_right _ h)
theorem iwX7_cuts_X7 : ∀ w ∈ wsX70, w ∈ wsX7_cuts := fun _ h => List.mem_cons_of_mem _ (List.mem_append_left _ (List.mem_append_right _ h))
theorem lkX7_cuts_27 : Cond.fieldLink RX7 27 "StuckDoor" "family" "LStuckDoor$Family;" ∈ wsX7_cuts := by decide +kernel
theorem lkX7_cuts_226 : Cond.fieldLink RX7 226 "StuckDoor$Family" "stuckRooms" "I" ∈ wsX7_cuts := by decide +kernel
def rmX7_cuts : Room := { frames := 3, cells := 0, slots := 0, locals := 70 }
def fX7_cuts_E (x1 : Int32) (x2 : Int32) (w : Mm) : Option (Int32) := bo (fX3_hasRooms x1 x2) (fun r_2 => (if r_2 = 0 then some (-1) else bo (fX3_onEachWay x1 x2 (w.1 23 6)) (fun r_6 => some r_6)))
set_option maxRecDepth 20000 in
theorem bX7_cuts_E {p : Program} {l : Launch} {e : Env} {s : State} {m : MethodId} {args : Array Value} {below : List Frame} {meth : Method} {c : Code} {Q : State → Prop} {D : va_G} {c3 : C3} {ad : Nat → Nat} {A : Nat → Prop} {r : Int32} {w : Mm} (X : Cx p s m args c cX7_cuts 3 RX7 wsX7_cuts D c3 (encC c3 ad) gC A) (hret : Ri p l e (rmX7_cuts) s m args below meth c Q cX7_cuts D (encC c3 ad) A r w) : ∀ (x1 : Int32) (x2 : Int32) (H : Heap) (locs : List Loc) (ls : Array Slot), va_P D vwCl ((encC c3 ad) w) H → va_S A s.heap H locs → lv_has ls 3 [(0, .ref (ad 0)), (1, .int x1), (2, .int x2)] → fX7_cuts_E x1 x2 w = some r → W p l e (rmX7_cuts) s m args below meth c H locs 0 0 Q (F0 m 0 ls []) := by
  have hx := X.1
  have hb := X.2.1
  have hml := X.2.2.1
  have hown := X.2.2.2.1
  have hts := X.2.2.2.2.1
  intro x1 x2 H locs ls hP hS hl h
  unfold fX7_cuts_E at h
  refine lv_iload_n hx hb dX7_cuts_0 rfl (lv_at hl 1 rfl) ?_
  refine lv_iload_n hx hb dX7_cuts_1 rfl (lv_at hl 2 rfl) ?_
  obtain ⟨r_2, e_1, h⟩ := bo_s h
  refine x_goi X hS (x_runS (As := [.int x1, .int x2]) (rest := []) X gC_ok hP hS (ctX3_hasRooms l D c3 ad w _ x1 x2 _ e_1) (va_cwS 2 hts gX7_cuts_X3_hasRooms rfl rfl rfl (by decide +kernel) ⟨by decide, by decide⟩) rfl hl.1 rfl (Nat.le_of_ble_eq_true rfl) dX7_cuts_2) (fun H locs hP hS => ?_)
  refine lv_if_eq (tgt := 23) hx hb dX7_cuts_5 (by decide) (fun c_4 => ?_) (fun c_4 => ?_)
  · replace h := it_p c_4 h
    refine lv_iconst (v := (-1)) hx hb dX7_cuts_23 (by decide) ?_
    obtain rfl := Option.some.inj h
    exact hret _ _ _ _ hP hS dX7_cuts_24
  · replace h := it_n c_4 h
    refine lv_iload_n hx hb dX7_cuts_8 rfl (lv_at hl 1 rfl) ?_
    refine lv_iload_n hx hb dX7_cuts_9 rfl (lv_at hl 2 rfl) ?_
    refine lv_aload_n hx hb dX7_cuts_10 rfl (lv_at hl 0 rfl) ?_
    refine x_get (rest := [.int x2, .int x1]) X hP (gC0 c3 ad w) rfl iwX7_cuts_X7 3 (by decide) lkX7_cuts_27 rfl dX7_cuts_11 ?_
    refine x_get (rest := [.int x2, .int x1]) X hP (gC23 c3 ad w) rfl iwX7_cuts_X2 6 (by decide) lkX7_cuts_226 rfl dX7_cuts_14 ?_
    obtain ⟨r_6, e_5, h⟩ := bo_s h
    refine x_goi X hS (x_runS (As := [.int x1, .int x2, .int (w.1 23 6)]) (rest := []) X gC_ok hP hS (ctX3_onEachWay l D c3 ad w _ x1 x2 (w.1 23 6) _ e_5) (va_cwS 3 hts gX7_cuts_X3_onEachWay rfl rfl rfl (by decide +kernel) ⟨by decide, by decide⟩) rfl hl.1 rfl (Nat.le_of_ble_eq_true rfl) dX7_cuts_17) (fun H locs hP hS => ?_)
    refine lv_goto (tgt := 24) hx hb dX7_cuts_20 (by decide) ?_
    obtain rfl := Option.some.inj h
    exact hret _ _ _ _ hP hS dX7_cuts_24
def fX7_cuts (x1 : Int32) (x2 : Int32) (w : Mm) : Option (Int32) := fX7_cuts_E x1 x2 w
theorem ctX7_cuts (l : Launch) (D : va_G) (c3 : C3) (ad : Nat → Nat) (w : Mm) (sz : Nat) (x1 : Int32) (x2 : Int32) (r : Int32) (h : fX7_cuts x1 x2 w = some r) : Ci l yX7_cuts wsX7_cuts rmX7_cuts D c3 (encC c3 ad) gC [.ref (ad 0), .int x1, .int x2] w sz r w := by
  refine Ci.of (cc := cX7_cuts) (maxL := 3) (encC_ok c3 ad) (by decide) rfl (Nat.le_of_ble_eq_true rfl) ?_
  intro p e s m below meth c A Q ls X hret hP hS hl
  exact bX7_cuts_E X hret x1 x2 _ _ ls hP hS hl h
theorem iwX7_round_X2 : ∀ w ∈ wsX20, w ∈ wsX7_round := fun _ h => List.mem_cons_of_mem _ (List.mem_append_right _ h)
theorem iwX7_round_X7 : ∀ w ∈ wsX70, w ∈ wsX7_round := fun _ h => List.mem_cons_of_mem _ (List.mem_append_left _ (List.mem_append_right _ h))
theorem lkX7_round_27 : Cond.fieldLink RX7 27 "StuckDoor" "family" "LStuckDoor$Family;" ∈ wsX7_round := by decide +kernel
theorem lkX7_round_226 : Cond.fieldLink RX7 226 "StuckDoor$Family" "stuckRooms" "I" ∈ wsX7_round := by decide +kernel
def rmX7_round : Room := { frames := 2, cells := 0, slots := 0, locals := 46 }
def fX7_round_E (x1 : Int32) (x2 : Int32) (w : Mm) : Option (Int32) := bo (fX3_hasRooms x1 x2) (fun r_2 => (if r_2 = 0 then some (-1) else bo (fX3_steps x1 x2 (w.1 23 6)) (fun r_6 => (if r_6 = (-9) then some (-9) else bo (fX3_steps x1 x2 0) (fun r_10 => some (r_6 - r_10))))))
set_option maxRecDepth 20000 in
theorem bX7_round_E {p : Program} {l : Launch} {e : Env} {s : State} {m : MethodId} {args : Array Value} {below : List Frame} {meth : Method} {c : Code} {Q : State → Prop} {D : va_G} {c3 : C3} {ad : Nat → Nat} {A : Nat → Prop} {r : Int32} {w : Mm} (X : Cx p s m args c cX7_round 4 RX7 wsX7_round D c3 (encC c3 ad) gC A) (hret : Ri p l e (rmX7_round) s m args below meth c Q cX7_round D (encC c3 ad) A r w) : ∀ (x1 : Int32) (x2 : Int32) (H : Heap) (locs : List Loc) (ls : Array Slot), va_P D vwCl ((encC c3 ad) w) H → va_S A s.heap H locs → lv_has ls 4 [(0, .ref (ad 0)), (1, .int x1), (2, .int x2)] → fX7_round_E x1 x2 w = some r → W p l e (rmX7_round) s m args below meth c H locs 0 0 Q (F0 m 0 ls []) := by
  have hx := X.1
  have hb := X.2.1
  have hml := X.2.2.1
  have hown := X.2.2.2.1
  have hts := X.2.2.2.2.1
  intro x1 x2 H locs ls hP hS hl h
  unfold fX7_round_E at h
  refine lv_iload_n hx hb dX7_round_0 rfl (lv_at hl 1 rfl) ?_
  refine lv_iload_n hx hb dX7_round_1 rfl (lv_at hl 2 rfl) ?_
  obtain ⟨r_2, e_1, h⟩ := bo_s h
  refine x_goi X hS (x_runS (As := [.int x1, .int x2]) (rest := []) X gC_ok hP hS (ctX3_hasRooms l D c3 ad w _ x1 x2 _ e_1) (va_cwS 2 hts gX7_round_X3_hasRooms rfl rfl rfl (by decide +kernel) ⟨by decide, by decide⟩) rfl hl.1 rfl (Nat.le_of_ble_eq_true rfl) dX7_round_2) (fun H locs hP hS => ?_)
  refine lv_if_ne (tgt := 10) hx hb dX7_round_5 (by decide) (fun c_4 => ?_) (fun c_4 => ?_)
  · replace h := it_n c_4 h
    refine lv_iload_n hx hb dX7_round_10 rfl (lv_at hl 1 rfl) ?_
    refine lv_iload_n hx hb dX7_round_11 rfl (lv_at hl 2 rfl) ?_
    refine lv_aload_n hx hb dX7_round_12 rfl (lv_at hl 0 rfl) ?_
    refine x_get (rest := [.int x2, .int x1]) X hP (gC0 c3 ad w) rfl iwX7_round_X7 3 (by decide) lkX7_round_27 rfl dX7_round_13 ?_
    refine x_get (rest := [.int x2, .int x1]) X hP (gC23 c3 ad w) rfl iwX7_round_X2 6 (by decide) lkX7_round_226 rfl dX7_round_16 ?_
    obtain ⟨r_6, e_5, h⟩ := bo_s h
    refine x_goi X hS (x_runS (As := [.int x1, .int x2, .int (w.1 23 6)]) (rest := []) X gC_ok hP hS (ctX3_steps l D c3 ad w _ x1 x2 (w.1 23 6) _ e_5) (va_cwS 3 hts gX7_round_X3_steps rfl rfl rfl (by decide +kernel) ⟨by decide, by decide⟩) rfl hl.1 rfl (Nat.le_of_ble_eq_true rfl) dX7_round_19) (fun H locs hP hS => ?_)
    refine lv_istore_n (lv' := [(3, .int r_6), (0, .ref (ad 0)), (1, .int x1), (2, .int x2)]) hx hb dX7_round_22 rfl hl (by decide) rfl (fun ls hl => ?_)
    refine lv_iload_n hx hb dX7_round_23 rfl (lv_at hl 0 rfl) ?_
    refine lv_bipush (v := (-9)) hx hb dX7_round_24 (by decide) ?_
    refine lv_icmp_ne (tgt := 34) hx hb dX7_round_26 (by decide) (fun c_8 => ?_) (fun c_8 => ?_)
    · replace h := it_n c_8 h
      refine lv_iload_n hx hb dX7_round_34 rfl (lv_at hl 0 rfl) ?_
      refine lv_iload_n hx hb dX7_round_35 rfl (lv_at hl 2 rfl) ?_
      refine lv_iload_n hx hb dX7_round_36 rfl (lv_at hl 3 rfl) ?_
      refine lv_iconst (v := 0) hx hb dX7_round_37 (by decide) ?_
      obtain ⟨r_10, e_9, h⟩ := bo_s h
      refine x_goi X hS (x_runS (As := [.int x1, .int x2, .int 0]) (rest := [.int r_6]) X gC_ok hP hS (ctX3_steps l D c3 ad w _ x1 x2 0 _ e_9) (va_cwS 3 hts gX7_round_X3_steps rfl rfl rfl (by decide +kernel) ⟨by decide, by decide⟩) rfl hl.1 rfl (Nat.le_of_ble_eq_true rfl) dX7_round_38) (fun H locs hP hS => ?_)
      refine lv_isub hx hb dX7_round_41 ?_
      obtain rfl := Option.some.inj h
      exact hret _ _ _ _ hP hS dX7_round_42
    · replace h := it_p c_8 h
      refine lv_bipush (v := (-9)) hx hb dX7_round_29 (by decide) ?_
      refine lv_goto (tgt := 42) hx hb dX7_round_31 (by decide) ?_
      obtain rfl := Option.some.inj h
      exact hret _ _ _ _ hP hS dX7_round_42
  · replace h := it_p c_4 h
    refine lv_iconst (v := (-1)) hx hb dX7_round_8 (by decide) ?_
    obtain rfl := Option.some.inj h
    exact hret _ _ _ _ hP hS dX7_round_9
def fX7_round (x1 : Int32) (x2 : Int32) (w : Mm) : Option (Int32) := fX7_round_E x1 x2 w
theorem ctX7_round (l : Launch) (D : va_G) (c3 : C3) (ad : Nat → Nat) (w : Mm) (sz : Nat) (x1 : Int32) (x2 : Int32) (r : Int32) (h : fX7_round x1 x2 w = some r) : Ci l yX7_round wsX7_round rmX7_round D c3 (encC c3 ad) gC [.ref (ad 0), .int x1, .int x2] w sz r w := by
  refine Ci.of (cc := cX7_round) (maxL := 4) (encC_ok c3 ad) (by decide) rfl (Nat.le_of_ble_eq_true rfl) ?_
  intro p e s m below meth c A Q ls X hret hP hS hl
  exact bX7_round_E X hret x1 x2 _ _ ls hP hS hl h
theorem iwX7_refusalOfNamed_X5 : ∀ w ∈ wsX50, w ∈ wsX7_refusalOfNamed := fun _ h => List.mem_cons_of_mem _ (List.mem_append_left _ (List.mem_append_right _ h))
theorem iwX7_refusalOfNamed_X7 : ∀ w ∈ wsX70, w ∈ wsX7_refusalOfNamed := fun _ h => List.mem_cons_of_mem _ (List.mem_append_left _ (List.mem_append_left _ (List.mem_append_right _ h)))
theorem lkX7_refusalOfNamed_14 : Cond.fieldLink RX7 14 "StuckDoor" "ints" "LStuckDoor$Rows;" ∈ wsX7_refusalOfNamed := by decide +kernel
theorem lkX7_refusalOfNamed_27 : Cond.fieldLink RX7 27 "StuckDoor" "family" "LStuckDoor$Family;" ∈ wsX7_refusalOfNamed := by decide +kernel
theorem lkX7_refusalOfNamed_86 : Cond.fieldLink RX7 86 "StuckDoor$Rows" "places" "[[I" ∈ wsX7_refusalOfNamed := by decide +kernel
theorem lkX7_refusalOfNamed_94 : Cond.fieldLink RX7 94 "StuckDoor$Rows" "sizes" "[I" ∈ wsX7_refusalOfNamed := by decide +kernel
def rmX7_refusalOfNamed : Room := { frames := 3, cells := 0, slots := 0, locals := 64 }
def fX7_refusalOfNamed_38 (x1 : Int32) : Nat → Int32 → Mm → Option (Int32 × Mm)
  | 0, _, _ => none
  | n + 1, x3, w => gd (inb x1 6 = true) ((if (w.1 3 x1.toNatClampNeg) ≤ x3 then some (0, w) else gd (inb x3 40 = true) (bo (fX2_hasSaying_23 (w.1 (4 + x1.toNatClampNeg) x3.toNatClampNeg) w) (fun r_6 => (if r_6 = 0 then bd (fX7_refuse 3 w) (fun r_10 w_11 => some (r_10, w_11)) else fX7_refusalOfNamed_38 x1 n (x3 + 1) w)))))
set_option maxRecDepth 20000 in
theorem bX7_refusalOfNamed_38 {p : Program} {l : Launch} {e : Env} {s : State} {m : MethodId} {args : Array Value} {below : List Frame} {meth : Method} {c : Code} {Q : State → Prop} {D : va_G} {c3 : C3} {ad : Nat → Nat} {A : Nat → Prop} {r : Int32} {w' : Mm} (X : Cx p s m args c cX7_refusalOfNamed 4 RX7 wsX7_refusalOfNamed D c3 (encC c3 ad) gC A) (hret : Ri p l e (rmX7_refusalOfNamed) s m args below meth c Q cX7_refusalOfNamed D (encC c3 ad) A r w') : ∀ (x1 : Int32) (n : Nat) (x3 : Int32) (w : Mm) (H : Heap) (locs : List Loc) (ls : Array Slot), va_P D vwCl ((encC c3 ad) w) H → va_S A s.heap H locs → lv_has ls 4 [(0, .ref (ad 0)), (1, .int x1), (3, .int x3)] → fX7_refusalOfNamed_38 x1 n x3 w = some (r, w') → W p l e (rmX7_refusalOfNamed) s m args below meth c H locs 0 0 Q (F0 m 38 ls []) := by
  have hx := X.1
  have hb := X.2.1
  have hml := X.2.2.1
  have hown := X.2.2.2.1
  have hts := X.2.2.2.2.1
  intro x1 n
  induction n with
  | zero =>
    intro x3 w H locs ls hP hS hl h
    exact absurd h (by simp [fX7_refusalOfNamed_38])
  | succ n ih =>
    intro x3 w H locs ls hP hS hl h
    rw [fX7_refusalOfNamed_38] at h
    refine lv_iload_n hx hb dX7_refusalOfNamed_38 rfl (lv_at hl 2 rfl) ?_
    refine lv_aload_n hx hb dX7_refusalOfNamed_39 rfl (lv_at hl 0 rfl) ?_
    refine x_get (rest := [.int x3]) X hP (gC0 c3 ad w) rfl iwX7_refusalOfNamed_X7 0 (by decide) lkX7_refusalOfNamed_14 rfl dX7_refusalOfNamed_40 ?_
    refine x_get (rest := [.int x3]) X hP (gC1 c3 ad w) rfl iwX7_refusalOfNamed_X5 1 (by decide) lkX7_refusalOfNamed_94 rfl dX7_refusalOfNamed_43 ?_
    refine lv_iload_n hx hb dX7_refusalOfNamed_46 rfl (lv_at hl 1 rfl) ?_
    obtain ⟨g_1, h⟩ := gd_s h
    refine x_iald X hP (gC3 c3 ad w) g_1 dX7_refusalOfNamed_47 ?_
    refine lv_icmp_ge (tgt := 84) hx hb dX7_refusalOfNamed_48 (by decide) (fun c_2 => ?_) (fun c_2 => ?_)
    · replace h := it_p c_2 h
      refine lv_iconst (v := 0) hx hb dX7_refusalOfNamed_84 (by decide) ?_
      obtain ⟨rfl, rfl⟩ := Prod.mk.inj (Option.some.inj h)
      exact hret _ _ _ _ hP hS dX7_refusalOfNamed_85
    · replace h := it_n c_2 h
      refine lv_aload_n hx hb dX7_refusalOfNamed_51 rfl (lv_at hl 0 rfl) ?_
      refine x_get (rest := []) X hP (gC0 c3 ad w) rfl iwX7_refusalOfNamed_X7 3 (by decide) lkX7_refusalOfNamed_27 rfl dX7_refusalOfNamed_52 ?_
      refine lv_aload_n hx hb dX7_refusalOfNamed_55 rfl (lv_at hl 0 rfl) ?_
      refine x_get (rest := [.ref (ad 23)]) X hP (gC0 c3 ad w) rfl iwX7_refusalOfNamed_X7 0 (by decide) lkX7_refusalOfNamed_14 rfl dX7_refusalOfNamed_56 ?_
      refine x_get (rest := [.ref (ad 23)]) X hP (gC1 c3 ad w) rfl iwX7_refusalOfNamed_X5 0 (by decide) lkX7_refusalOfNamed_86 rfl dX7_refusalOfNamed_59 ?_
      refine lv_iload_n hx hb dX7_refusalOfNamed_62 rfl (lv_at hl 1 rfl) ?_
      have q_3 := rgn 4 g_1
      refine x_aald (z := ad (4 + x1.toNatClampNeg)) X hP (gC2 c3 ad w) g_1 rfl dX7_refusalOfNamed_63 ?_
      refine lv_iload_n hx hb dX7_refusalOfNamed_64 rfl (lv_at hl 2 rfl) ?_
      obtain ⟨g_4, h⟩ := gd_s h
      refine x_iald X hP (gCrI c3 ad w q_3) g_4 dX7_refusalOfNamed_65 ?_
      obtain ⟨r_6, e_5, h⟩ := bo_s h
      refine x_goi X hS (x_runV (As := [.int (w.1 (4 + x1.toNatClampNeg) x3.toNatClampNeg)]) (rest := []) X gC_ok hP hS (ctX2_hasSaying_23 l D c3 ad w _ (w.1 (4 + x1.toNatClampNeg) x3.toNatClampNeg) _ e_5) (cwV 1 hts gX7_refusalOfNamed_X2_hasSaying rfl rfl rfl (by decide +kernel) ⟨by decide, by decide⟩) (gC23 c3 ad w) rfl rfl rfl hl.1 rfl (Nat.le_of_ble_eq_true rfl) dX7_refusalOfNamed_66) (fun H locs hP hS => ?_)
      refine lv_if_ne (tgt := 78) hx hb dX7_refusalOfNamed_69 (by decide) (fun c_8 => ?_) (fun c_8 => ?_)
      · replace h := it_n c_8 h
        refine lv_iinc (v := (x3 + 1)) (lv' := [(3, .int (x3 + 1)), (0, .ref (ad 0)), (1, .int x1)]) hx hb dX7_refusalOfNamed_78 hl (k := 2) rfl rfl (by decide) rfl (fun ls hl => ?_)
        refine lv_goto (tgt := 38) hx hb dX7_refusalOfNamed_81 (by decide) ?_
        exact ih (x3 + 1) w _ _ _ hP hS (lv_sub hl [1, 2, 0] rfl) h
      · replace h := it_p c_8 h
        refine lv_aload_n hx hb dX7_refusalOfNamed_72 rfl (lv_at hl 0 rfl) ?_
        refine lv_iconst (v := 3) hx hb dX7_refusalOfNamed_73 (by decide) ?_
        obtain ⟨r_10, w_11, e_9, h⟩ := bd_s h
        refine x_goi X hS (x_runV (As := [.int 3]) (rest := []) X gC_ok hP hS (ctX7_refuse l D c3 ad w _ 3 _ _ e_9) (cwV 1 hts gX7_refusalOfNamed_X7_refuse rfl rfl rfl (by decide +kernel) ⟨by decide, by decide⟩) (gC0 c3 ad w) rfl rfl rfl hl.1 rfl (Nat.le_of_ble_eq_true rfl) dX7_refusalOfNamed_74) (fun H locs hP hS => ?_)
        obtain ⟨rfl, rfl⟩ := Prod.mk.inj (Option.some.inj h)
        exact hret _ _ _ _ hP hS dX7_refusalOfNamed_77
def fX7_refusalOfNamed_E (x1 : Int32) (w : Mm) : Option (Int32 × Mm) := bd (fX7_refusalOfRow_0_1 x1 w) (fun r_13 w_14 => (if r_13 = 0 then gd (inb x1 6 = true) ((if (w_14.1 3 x1.toNatClampNeg) ≤ 12 then fX7_refusalOfNamed_38 x1 FU 0 w_14 else bd (fX7_refuse 5 w_14) (fun r_19 w_20 => some (r_19, w_20)))) else some (r_13, w_14)))
set_option maxRecDepth 20000 in
theorem bX7_refusalOfNamed_E {p : Program} {l : Launch} {e : Env} {s : State} {m : MethodId} {args : Array Value} {below : List Frame} {meth : Method} {c : Code} {Q : State → Prop} {D : va_G} {c3 : C3} {ad : Nat → Nat} {A : Nat → Prop} {r : Int32} {w' : Mm} (X : Cx p s m args c cX7_refusalOfNamed 4 RX7 wsX7_refusalOfNamed D c3 (encC c3 ad) gC A) (hret : Ri p l e (rmX7_refusalOfNamed) s m args below meth c Q cX7_refusalOfNamed D (encC c3 ad) A r w') : ∀ (x1 : Int32) (w : Mm) (H : Heap) (locs : List Loc) (ls : Array Slot), va_P D vwCl ((encC c3 ad) w) H → va_S A s.heap H locs → lv_has ls 4 [(0, .ref (ad 0)), (1, .int x1)] → fX7_refusalOfNamed_E x1 w = some (r, w') → W p l e (rmX7_refusalOfNamed) s m args below meth c H locs 0 0 Q (F0 m 0 ls []) := by
  have hx := X.1
  have hb := X.2.1
  have hml := X.2.2.1
  have hown := X.2.2.2.1
  have hts := X.2.2.2.2.1
  intro x1 w H locs ls hP hS hl h
  unfold fX7_refusalOfNamed_E at h
  refine lv_aload_n hx hb dX7_refusalOfNamed_0 rfl (lv_at hl 0 rfl) ?_
  refine lv_aload_n hx hb dX7_refusalOfNamed_1 rfl (lv_at hl 0 rfl) ?_
  refine x_get (rest := [.ref (ad 0)]) X hP (gC0 c3 ad w) rfl iwX7_refusalOfNamed_X7 0 (by decide) lkX7_refusalOfNamed_14 rfl dX7_refusalOfNamed_2 ?_
  refine lv_iload_n hx hb dX7_refusalOfNamed_5 rfl (lv_at hl 1 rfl) ?_
  obtain ⟨r_13, w_14, e_12, h⟩ := bd_s h
  refine x_goi X hS (x_runV (As := [.ref (ad 1), .int x1]) (rest := []) X gC_ok hP hS (ctX7_refusalOfRow_0_1 l D c3 ad w _ x1 _ _ e_12) (cwV 2 hts gX7_refusalOfNamed_X7_refusalOfRow rfl rfl rfl (by decide +kernel) ⟨by decide, by decide⟩) (gC0 c3 ad w) rfl rfl rfl hl.1 rfl (Nat.le_of_ble_eq_true rfl) dX7_refusalOfNamed_6) (fun H locs hP hS => ?_)
  refine lv_istore_n (lv' := [(2, .int r_13), (0, .ref (ad 0)), (1, .int x1)]) hx hb dX7_refusalOfNamed_9 rfl hl (by decide) rfl (fun ls hl => ?_)
  refine lv_iload_n hx hb dX7_refusalOfNamed_10 rfl (lv_at hl 0 rfl) ?_
  refine lv_if_eq (tgt := 16) hx hb dX7_refusalOfNamed_11 (by decide) (fun c_15 => ?_) (fun c_15 => ?_)
  · replace h := it_p c_15 h
    refine lv_aload_n hx hb dX7_refusalOfNamed_16 rfl (lv_at hl 1 rfl) ?_
    refine x_get (rest := []) X hP (gC0 c3 ad w_14) rfl iwX7_refusalOfNamed_X7 0 (by decide) lkX7_refusalOfNamed_14 rfl dX7_refusalOfNamed_17 ?_
    refine x_get (rest := []) X hP (gC1 c3 ad w_14) rfl iwX7_refusalOfNamed_X5 1 (by decide) lkX7_refusalOfNamed_94 rfl dX7_refusalOfNamed_20 ?_
    refine lv_iload_n hx hb dX7_refusalOfNamed_23 rfl (lv_at hl 2 rfl) ?_
    obtain ⟨g_16, h⟩ := gd_s h
    refine x_iald X hP (gC3 c3 ad w_14) g_16 dX7_refusalOfNamed_24 ?_
    refine lv_bipush (v := 12) hx hb dX7_refusalOfNamed_25 (by decide) ?_
    refine lv_icmp_le (tgt := 36) hx hb dX7_refusalOfNamed_27 (by decide) (fun c_17 => ?_) (fun c_17 => ?_)
    · replace h := it_p c_17 h
      refine lv_iconst (v := 0) hx hb dX7_refusalOfNamed_36 (by decide) ?_
      refine lv_istore_n (lv' := [(3, .int 0), (2, .int r_13), (0, .ref (ad 0)), (1, .int x1)]) hx hb dX7_refusalOfNamed_37 rfl hl (by decide) rfl (fun ls hl => ?_)
      exact bX7_refusalOfNamed_38 X hret x1 FU 0 w_14 _ _ _ hP hS (lv_sub hl [2, 3, 0] rfl) h
    · replace h := it_n c_17 h
      refine lv_aload_n hx hb dX7_refusalOfNamed_30 rfl (lv_at hl 1 rfl) ?_
      refine lv_iconst (v := 5) hx hb dX7_refusalOfNamed_31 (by decide) ?_
      obtain ⟨r_19, w_20, e_18, h⟩ := bd_s h
      refine x_goi X hS (x_runV (As := [.int 5]) (rest := []) X gC_ok hP hS (ctX7_refuse l D c3 ad w_14 _ 5 _ _ e_18) (cwV 1 hts gX7_refusalOfNamed_X7_refuse rfl rfl rfl (by decide +kernel) ⟨by decide, by decide⟩) (gC0 c3 ad w_14) rfl rfl rfl hl.1 rfl (Nat.le_of_ble_eq_true rfl) dX7_refusalOfNamed_32) (fun H locs hP hS => ?_)
      obtain ⟨rfl, rfl⟩ := Prod.mk.inj (Option.some.inj h)
      exact hret _ _ _ _ hP hS dX7_refusalOfNamed_35
  · replace h := it_n c_15 h
    refine lv_iload_n hx hb dX7_refusalOfNamed_14 rfl (lv_at hl 0 rfl) ?_
    obtain ⟨rfl, rfl⟩ := Prod.mk.inj (Option.some.inj h)
    exact hret _ _ _ _ hP hS dX7_refusalOfNamed_15
def fX7_refusalOfNamed (x1 : Int32) (w : Mm) : Option (Int32 × Mm) := fX7_refusalOfNamed_E x1 w
theorem ctX7_refusalOfNamed (l : Launch) (D : va_G) (c3 : C3) (ad : Nat → Nat) (w : Mm) (sz : Nat) (x1 : Int32) (r : Int32) (w' : Mm) (h : fX7_refusalOfNamed x1 w = some (r, w')) : Ci l yX7_refusalOfNamed wsX7_refusalOfNamed rmX7_refusalOfNamed D c3 (encC c3 ad) gC [.ref (ad 0), .int x1] w sz r w' := by
  refine Ci.of (cc := cX7_refusalOfNamed) (maxL := 4) (encC_ok c3 ad) (by decide) rfl (Nat.le_of_ble_eq_true rfl) ?_
  intro p e s m below meth c A Q ls X hret hP hS hl
  exact bX7_refusalOfNamed_E X hret x1 w _ _ ls hP hS hl h
theorem iwX7_topicsOfNamed_X2 : ∀ w ∈ wsX20, w ∈ wsX7_topicsOfNamed := fun _ h => List.mem_cons_of_mem _ (List.mem_append_right _ h)
theorem iwX7_topicsOfNamed_X5 : ∀ w ∈ wsX50, w ∈ wsX7_topicsOfNamed := fun _ h => List.mem_cons_of_mem _ (List.mem_append_left _ (List.mem_append_right _ h))
theorem iwX7_topicsOfNamed_X7 : ∀ w ∈ wsX70, w ∈ wsX7_topicsOfNamed := fun _ h => List.mem_cons_of_mem _ (List.mem_append_left _ (List.mem_append_left _ (List.mem_append_right _ h)))
theorem lkX7_topicsOfNamed_14 : Cond.fieldLink RX7 14 "StuckDoor" "ints" "LStuckDoor$Rows;" ∈ wsX7_topicsOfNamed := by decide +kernel
theorem lkX7_topicsOfNamed_27 : Cond.fieldLink RX7 27 "StuckDoor" "family" "LStuckDoor$Family;" ∈ wsX7_topicsOfNamed := by decide +kernel
theorem lkX7_topicsOfNamed_86 : Cond.fieldLink RX7 86 "StuckDoor$Rows" "places" "[[I" ∈ wsX7_topicsOfNamed := by decide +kernel
theorem lkX7_topicsOfNamed_94 : Cond.fieldLink RX7 94 "StuckDoor$Rows" "sizes" "[I" ∈ wsX7_topicsOfNamed := by decide +kernel
theorem lkX7_topicsOfNamed_247 : Cond.fieldLink RX7 247 "StuckDoor$Family" "topics" "[I" ∈ wsX7_topicsOfNamed := by decide +kernel
def rmX7_topicsOfNamed : Room := { frames := 0, cells := 0, slots := 0, locals := 0 }
def fX7_topicsOfNamed_4 (x1 : Int32) (w : Mm) : Nat → Int32 → Int32 → Option (Int32)
  | 0, _, _ => none
  | n + 1, x2, x3 => gd (inb x1 6 = true) ((if (w.1 3 x1.toNatClampNeg) ≤ x3 then some x2 else gd (inb x3 40 = true) (gd (inb (w.1 (4 + x1.toNatClampNeg) x3.toNatClampNeg) 6 = true) (nm (x2 ||| (w.1 27 (w.1 (4 + x1.toNatClampNeg) x3.toNatClampNeg).toNatClampNeg)) (fun x2_6 => fX7_topicsOfNamed_4 x1 w n x2_6 (x3 + 1))))))
set_option maxRecDepth 20000 in
theorem bX7_topicsOfNamed_4 {p : Program} {l : Launch} {e : Env} {s : State} {m : MethodId} {args : Array Value} {below : List Frame} {meth : Method} {c : Code} {Q : State → Prop} {D : va_G} {c3 : C3} {ad : Nat → Nat} {A : Nat → Prop} {r : Int32} {w : Mm} (X : Cx p s m args c cX7_topicsOfNamed 4 RX7 wsX7_topicsOfNamed D c3 (encC c3 ad) gC A) (hret : Ri p l e (rmX7_topicsOfNamed) s m args below meth c Q cX7_topicsOfNamed D (encC c3 ad) A r w) : ∀ (x1 : Int32) (n : Nat) (x2 : Int32) (x3 : Int32) (H : Heap) (locs : List Loc) (ls : Array Slot), va_P D vwCl ((encC c3 ad) w) H → va_S A s.heap H locs → lv_has ls 4 [(0, .ref (ad 0)), (1, .int x1), (2, .int x2), (3, .int x3)] → fX7_topicsOfNamed_4 x1 w n x2 x3 = some r → W p l e (rmX7_topicsOfNamed) s m args below meth c H locs 0 0 Q (F0 m 4 ls []) := by
  have hx := X.1
  have hb := X.2.1
  have hml := X.2.2.1
  have hown := X.2.2.2.1
  have hts := X.2.2.2.2.1
  intro x1 n
  induction n with
  | zero =>
    intro x2 x3 H locs ls hP hS hl h
    exact absurd h (by simp [fX7_topicsOfNamed_4])
  | succ n ih =>
    intro x2 x3 H locs ls hP hS hl h
    rw [fX7_topicsOfNamed_4] at h
    refine lv_iload_n hx hb dX7_topicsOfNamed_4 rfl (lv_at hl 3 rfl) ?_
    refine lv_aload_n hx hb dX7_topicsOfNamed_5 rfl (lv_at hl 0 rfl) ?_
    refine x_get (rest := [.int x3]) X hP (gC0 c3 ad w) rfl iwX7_topicsOfNamed_X7 0 (by decide) lkX7_topicsOfNamed_14 rfl dX7_topicsOfNamed_6 ?_
    refine x_get (rest := [.int x3]) X hP (gC1 c3 ad w) rfl iwX7_topicsOfNamed_X5 1 (by decide) lkX7_topicsOfNamed_94 rfl dX7_topicsOfNamed_9 ?_
    refine lv_iload_n hx hb dX7_topicsOfNamed_12 rfl (lv_at hl 1 rfl) ?_
    obtain ⟨g_1, h⟩ := gd_s h
    refine x_iald X hP (gC3 c3 ad w) g_1 dX7_topicsOfNamed_13 ?_
    refine lv_icmp_ge (tgt := 45) hx hb dX7_topicsOfNamed_14 (by decide) (fun c_2 => ?_) (fun c_2 => ?_)
    · replace h := it_p c_2 h
      refine lv_iload_n hx hb dX7_topicsOfNamed_45 rfl (lv_at hl 2 rfl) ?_
      obtain rfl := Option.some.inj h
      exact hret _ _ _ _ hP hS dX7_topicsOfNamed_46
    · replace h := it_n c_2 h
      refine lv_iload_n hx hb dX7_topicsOfNamed_17 rfl (lv_at hl 2 rfl) ?_
      refine lv_aload_n hx hb dX7_topicsOfNamed_18 rfl (lv_at hl 0 rfl) ?_
      refine x_get (rest := [.int x2]) X hP (gC0 c3 ad w) rfl iwX7_topicsOfNamed_X7 3 (by decide) lkX7_topicsOfNamed_27 rfl dX7_topicsOfNamed_19 ?_
      refine x_get (rest := [.int x2]) X hP (gC23 c3 ad w) rfl iwX7_topicsOfNamed_X2 5 (by decide) lkX7_topicsOfNamed_247 rfl dX7_topicsOfNamed_22 ?_
      refine lv_aload_n hx hb dX7_topicsOfNamed_25 rfl (lv_at hl 0 rfl) ?_
      refine x_get (rest := [.ref (ad 27), .int x2]) X hP (gC0 c3 ad w) rfl iwX7_topicsOfNamed_X7 0 (by decide) lkX7_topicsOfNamed_14 rfl dX7_topicsOfNamed_26 ?_
      refine x_get (rest := [.ref (ad 27), .int x2]) X hP (gC1 c3 ad w) rfl iwX7_topicsOfNamed_X5 0 (by decide) lkX7_topicsOfNamed_86 rfl dX7_topicsOfNamed_29 ?_
      refine lv_iload_n hx hb dX7_topicsOfNamed_32 rfl (lv_at hl 1 rfl) ?_
      have q_3 := rgn 4 g_1
      refine x_aald (z := ad (4 + x1.toNatClampNeg)) X hP (gC2 c3 ad w) g_1 rfl dX7_topicsOfNamed_33 ?_
      refine lv_iload_n hx hb dX7_topicsOfNamed_34 rfl (lv_at hl 3 rfl) ?_
      obtain ⟨g_4, h⟩ := gd_s h
      refine x_iald X hP (gCrI c3 ad w q_3) g_4 dX7_topicsOfNamed_35 ?_
      obtain ⟨g_5, h⟩ := gd_s h
      refine x_iald X hP (gC27 c3 ad w) g_5 dX7_topicsOfNamed_36 ?_
      refine lv_ior hx hb dX7_topicsOfNamed_37 ?_
      refine x_nmi h (fun x2_6 h => ?_)
      refine lv_istore_n (lv' := [(2, .int x2_6), (0, .ref (ad 0)), (1, .int x1), (3, .int x3)]) hx hb dX7_topicsOfNamed_38 rfl hl (by decide) rfl (fun ls hl => ?_)
      refine lv_iinc (v := (x3 + 1)) (lv' := [(3, .int (x3 + 1)), (2, .int x2_6), (0, .ref (ad 0)), (1, .int x1)]) hx hb dX7_topicsOfNamed_39 hl (k := 3) rfl rfl (by decide) rfl (fun ls hl => ?_)
      refine lv_goto (tgt := 4) hx hb dX7_topicsOfNamed_42 (by decide) ?_
      exact ih x2_6 (x3 + 1) _ _ _ hP hS (lv_sub hl [2, 3, 1, 0] rfl) h
def fX7_topicsOfNamed_E (x1 : Int32) (w : Mm) : Option (Int32) := fX7_topicsOfNamed_4 x1 w FU 0 0
set_option maxRecDepth 20000 in
theorem bX7_topicsOfNamed_E {p : Program} {l : Launch} {e : Env} {s : State} {m : MethodId} {args : Array Value} {below : List Frame} {meth : Method} {c : Code} {Q : State → Prop} {D : va_G} {c3 : C3} {ad : Nat → Nat} {A : Nat → Prop} {r : Int32} {w : Mm} (X : Cx p s m args c cX7_topicsOfNamed 4 RX7 wsX7_topicsOfNamed D c3 (encC c3 ad) gC A) (hret : Ri p l e (rmX7_topicsOfNamed) s m args below meth c Q cX7_topicsOfNamed D (encC c3 ad) A r w) : ∀ (x1 : Int32) (H : Heap) (locs : List Loc) (ls : Array Slot), va_P D vwCl ((encC c3 ad) w) H → va_S A s.heap H locs → lv_has ls 4 [(0, .ref (ad 0)), (1, .int x1)] → fX7_topicsOfNamed_E x1 w = some r → W p l e (rmX7_topicsOfNamed) s m args below meth c H locs 0 0 Q (F0 m 0 ls []) := by
  have hx := X.1
  have hb := X.2.1
  have hml := X.2.2.1
  have hown := X.2.2.2.1
  have hts := X.2.2.2.2.1
  intro x1 H locs ls hP hS hl h
  unfold fX7_topicsOfNamed_E at h
  refine lv_iconst (v := 0) hx hb dX7_topicsOfNamed_0 (by decide) ?_
  refine lv_istore_n (lv' := [(2, .int 0), (0, .ref (ad 0)), (1, .int x1)]) hx hb dX7_topicsOfNamed_1 rfl hl (by decide) rfl (fun ls hl => ?_)
  refine lv_iconst (v := 0) hx hb dX7_topicsOfNamed_2 (by decide) ?_
  refine lv_istore_n (lv' := [(3, .int 0), (2, .int 0), (0, .ref (ad 0)), (1, .int x1)]) hx hb dX7_topicsOfNamed_3 rfl hl (by decide) rfl (fun ls hl => ?_)
  exact bX7_topicsOfNamed_4 X hret x1 FU 0 0 _ _ _ hP hS (lv_sub hl [2, 3, 1, 0] rfl) h
def fX7_topicsOfNamed (x1 : Int32) (w : Mm) : Option (Int32) := fX7_topicsOfNamed_E x1 w
theorem ctX7_topicsOfNamed (l : Launch) (D : va_G) (c3 : C3) (ad : Nat → Nat) (w : Mm) (sz : Nat) (x1 : Int32) (r : Int32) (h : fX7_topicsOfNamed x1 w = some r) : Ci l yX7_topicsOfNamed wsX7_topicsOfNamed rmX7_topicsOfNamed D c3 (encC c3 ad) gC [.ref (ad 0), .int x1] w sz r w := by
  refine Ci.of (cc := cX7_topicsOfNamed) (maxL := 4) (encC_ok c3 ad) (by decide) rfl (Nat.le_of_ble_eq_true rfl) ?_
  intro p e s m below meth c A Q ls X hret hP hS hl
  exact bX7_topicsOfNamed_E X hret x1 _ _ ls hP hS hl h
def rmX7_never : Room := { frames := 4, cells := 0, slots := 0, locals := 87 }
def fX7_never_E (x1 : Int32) (w : Mm) : Option (Int32 × Mm) := bd (fX7_refusalOfNamed x1 w) (fun r_2 w_3 => (if r_2 = 0 then bo (fX7_topicsOfNamed x1 w_3) (fun r_6 => some ((7 &&& (r_6 ^^^ (-1))), w_3)) else some (r_2, w_3)))
set_option maxRecDepth 20000 in
theorem bX7_never_E {p : Program} {l : Launch} {e : Env} {s : State} {m : MethodId} {args : Array Value} {below : List Frame} {meth : Method} {c : Code} {Q : State → Prop} {D : va_G} {c3 : C3} {ad : Nat → Nat} {A : Nat → Prop} {r : Int32} {w' : Mm} (X : Cx p s m args c cX7_never 3 RX7 wsX7_never D c3 (encC c3 ad) gC A) (hret : Ri p l e (rmX7_never) s m args below meth c Q cX7_never D (encC c3 ad) A r w') : ∀ (x1 : Int32) (w : Mm) (H : Heap) (locs : List Loc) (ls : Array Slot), va_P D vwCl ((encC c3 ad) w) H → va_S A s.heap H locs → lv_has ls 3 [(0, .ref (ad 0)), (1, .int x1)] → fX7_never_E x1 w = some (r, w') → W p l e (rmX7_never) s m args below meth c H locs 0 0 Q (F0 m 0 ls []) := by
  have hx := X.1
  have hb := X.2.1
  have hml := X.2.2.1
  have hown := X.2.2.2.1
  have hts := X.2.2.2.2.1
  intro x1 w H locs ls hP hS hl h
  unfold fX7_never_E at h
  refine lv_aload_n hx hb dX7_never_0 rfl (lv_at hl 0 rfl) ?_
  refine lv_iload_n hx hb dX7_never_1 rfl (lv_at hl 1 rfl) ?_
  obtain ⟨r_2, w_3, e_1, h⟩ := bd_s h
  refine x_goi X hS (x_runV (As := [.int x1]) (rest := []) X gC_ok hP hS (ctX7_refusalOfNamed l D c3 ad w _ x1 _ _ e_1) (cwV 1 hts gX7_never_X7_refusalOfNamed rfl rfl rfl (by decide +kernel) ⟨by decide, by decide⟩) (gC0 c3 ad w) rfl rfl rfl hl.1 rfl (Nat.le_of_ble_eq_true rfl) dX7_never_2) (fun H locs hP hS => ?_)
  refine lv_istore_n (lv' := [(2, .int r_2), (0, .ref (ad 0)), (1, .int x1)]) hx hb dX7_never_5 rfl hl (by decide) rfl (fun ls hl => ?_)
  refine lv_iload_n hx hb dX7_never_6 rfl (lv_at hl 0 rfl) ?_
  refine lv_if_eq (tgt := 14) hx hb dX7_never_7 (by decide) (fun c_4 => ?_) (fun c_4 => ?_)
  · replace h := it_p c_4 h
    refine lv_bipush (v := 7) hx hb dX7_never_14 (by decide) ?_
    refine lv_aload_n hx hb dX7_never_16 rfl (lv_at hl 1 rfl) ?_
    refine lv_iload_n hx hb dX7_never_17 rfl (lv_at hl 2 rfl) ?_
    obtain ⟨r_6, e_5, h⟩ := bo_s h
    refine x_goi X hS (x_runV (As := [.int x1]) (rest := [.int 7]) X gC_ok hP hS (ctX7_topicsOfNamed l D c3 ad w_3 _ x1 _ e_5) (cwV 1 hts gX7_never_X7_topicsOfNamed rfl rfl rfl (by decide +kernel) ⟨by decide, by decide⟩) (gC0 c3 ad w_3) rfl rfl rfl hl.1 rfl (Nat.le_of_ble_eq_true rfl) dX7_never_18) (fun H locs hP hS => ?_)
    refine lv_iconst (v := (-1)) hx hb dX7_never_21 (by decide) ?_
    refine lv_ixor hx hb dX7_never_22 ?_
    refine lv_iand hx hb dX7_never_23 ?_
    obtain ⟨rfl, rfl⟩ := Prod.mk.inj (Option.some.inj h)
    exact hret _ _ _ _ hP hS dX7_never_24
  · replace h := it_n c_4 h
    refine lv_iload_n hx hb dX7_never_10 rfl (lv_at hl 0 rfl) ?_
    refine lv_goto (tgt := 24) hx hb dX7_never_11 (by decide) ?_
    obtain ⟨rfl, rfl⟩ := Prod.mk.inj (Option.some.inj h)
    exact hret _ _ _ _ hP hS dX7_never_24
def fX7_never (x1 : Int32) (w : Mm) : Option (Int32 × Mm) := fX7_never_E x1 w
theorem ctX7_never (l : Launch) (D : va_G) (c3 : C3) (ad : Nat → Nat) (w : Mm) (sz : Nat) (x1 : Int32) (r : Int32) (w' : Mm) (h : fX7_never x1 w = some (r, w')) : Ci l yX7_never wsX7_never rmX7_never D c3 (encC c3 ad) gC [.ref (ad 0), .int x1] w sz r w' := by
  refine Ci.of (cc := cX7_never) (maxL := 3) (encC_ok c3 ad) (by decide) rfl (Nat.le_of_ble_eq_true rfl) ?_
  intro p e s m below meth c A Q ls X hret hP hS hl
  exact bX7_never_E X hret x1 w _ _ ls hP hS hl h

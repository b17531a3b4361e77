theorem iwX8_take_X8 : ∀ w ∈ wsX80, w ∈ wsX8_take := fun _ h => List.mem_cons_of_mem _ (List.mem_append_right _ h)
theorem lkX8_take_65 : Cond.fieldLink RX8 65 "StuckDoorModel" "bests" "[I" ∈ wsX8_take := by decide +kernel
theorem lkX8_take_268 : Cond.fieldLink RX8 268 "StuckDoorModel" "opening" "I" ∈ wsX8_take := by decide +kernel
def rmX8_take : Room := { frames := 1, cells := 0, slots := 0, locals := 22 }
def fX8_take_29 (z0 : Int32) (w : Mm) : Option (Mm) := nm (sA w 0 31 z0) (fun w_1 => some w_1)
set_option maxRecDepth 20000 in
theorem bX8_take_29 {p : Program} {l : Launch} {e : Env} {s : State} {m : MethodId} {args : Array Value} {below : List Frame} {meth : Method} {c : Code} {Q : State → Prop} {D : va_G} {c3 : C3} {ad : Nat → Nat} {A : Nat → Prop} {w' : Mm} (X : Cx p s m args c cX8_take 4 RX8 wsX8_take D c3 (encM c3 ad) gM A) (hret : Rv p l e (rmX8_take) s m args below meth c Q cX8_take D (encM c3 ad) A w') : ∀ (z0 : Int32) (w : Mm) (H : Heap) (locs : List Loc) (ls : Array Slot), va_P D vwCl ((encM c3 ad) w) H → va_S A s.heap H locs → lv_has ls 4 [] → fX8_take_29 z0 w = some w' → W p l e (rmX8_take) s m args below meth c H locs 0 0 Q (F0 m 29 ls [.int z0, .ref (ad 0)]) := by
  have hx := X.1
  have hb := X.2.1
  have hml := X.2.2.1
  have hown := X.2.2.2.1
  have hts := X.2.2.2.2.1
  intro z0 w H locs ls hP hS hl h
  unfold fX8_take_29 at h
  refine x_put (v := .int z0) X hP hS (gM0 c3 ad w) rfl iwX8_take_X8 tyX8 tyX8_ok nmX8 31 (by decide) lkX8_take_268 rfl rfl rfl (Nat.le_of_ble_eq_true rfl) (pM0_31 c3 ad w z0) dX8_take_29 (fun H locs hP hS => ?_)
  refine x_nmw h hP (fun w_1 h hP => ?_)
  obtain rfl := Option.some.inj h
  exact hret _ _ _ _ hP hS dX8_take_32
def fX8_take_E (x1 : Int32) (x2 : Int32) (x3 : Int32) (w : Mm) : Option (Mm) := bo (fX8_isBetter x1 x3 w) (fun r_3 => (if r_3 = 0 then some w else gd (inb x1 7 = true) (nm (sA w 18 x1.toNatClampNeg x3) (fun w_7 => (if x1 = 0 then fX8_take_29 x2 w_7 else fX8_take_29 (w_7.1 0 31) w_7)))))
set_option maxRecDepth 20000 in
theorem bX8_take_E {p : Program} {l : Launch} {e : Env} {s : State} {m : MethodId} {args : Array Value} {below : List Frame} {meth : Method} {c : Code} {Q : State → Prop} {D : va_G} {c3 : C3} {ad : Nat → Nat} {A : Nat → Prop} {w' : Mm} (X : Cx p s m args c cX8_take 4 RX8 wsX8_take D c3 (encM c3 ad) gM A) (hret : Rv p l e (rmX8_take) s m args below meth c Q cX8_take D (encM c3 ad) A w') : ∀ (x1 : Int32) (x2 : Int32) (x3 : Int32) (w : Mm) (H : Heap) (locs : List Loc) (ls : Array Slot), va_P D vwCl ((encM c3 ad) w) H → va_S A s.heap H locs → lv_has ls 4 [(0, .ref (ad 0)), (1, .int x1), (2, .int x2), (3, .int x3)] → fX8_take_E x1 x2 x3 w = some w' → W p l e (rmX8_take) s m args below meth c H locs 0 0 Q (F0 m 0 ls []) := by
  have hx := X.1
  have hb := X.2.1
  have hml := X.2.2.1
  have hown := X.2.2.2.1
  have hts := X.2.2.2.2.1
  intro x1 x2 x3 w H locs ls hP hS hl h
  unfold fX8_take_E at h
  refine lv_aload_n hx hb dX8_take_0 rfl (lv_at hl 0 rfl) ?_
  refine lv_iload_n hx hb dX8_take_1 rfl (lv_at hl 1 rfl) ?_
  refine lv_iload_n hx hb dX8_take_2 rfl (lv_at hl 3 rfl) ?_
  obtain ⟨r_3, e_2, h⟩ := bo_s h
  refine x_goi X hS (x_runV (As := [.int x1, .int x3]) (rest := []) X gM_ok hP hS (ctX8_isBetter l D c3 ad w _ x1 x3 _ e_2) (cwV 2 hts gX8_take_X8_isBetter rfl rfl rfl (by decide +kernel) ⟨by decide, by decide⟩) (gM0 c3 ad w) rfl rfl rfl hl.1 rfl (Nat.le_of_ble_eq_true rfl) dX8_take_3) (fun H locs hP hS => ?_)
  refine lv_if_eq (tgt := 32) hx hb dX8_take_6 (by decide) (fun c_5 => ?_) (fun c_5 => ?_)
  · replace h := it_p c_5 h
    obtain rfl := Option.some.inj h
    exact hret _ _ _ _ hP hS dX8_take_32
  · replace h := it_n c_5 h
    refine lv_aload_n hx hb dX8_take_9 rfl (lv_at hl 0 rfl) ?_
    refine x_get (rest := []) X hP (gM0 c3 ad w) rfl iwX8_take_X8 30 (by decide) lkX8_take_65 rfl dX8_take_10 ?_
    refine lv_iload_n hx hb dX8_take_13 rfl (lv_at hl 1 rfl) ?_
    refine lv_iload_n hx hb dX8_take_14 rfl (lv_at hl 3 rfl) ?_
    obtain ⟨g_6, h⟩ := gd_s h
    refine x_iast X hP hS (gM18 c3 ad w) (sM18 c3 ad w _ _) g_6 dX8_take_15 (fun H locs hP hS => ?_)
    refine x_nmw h hP (fun w_7 h hP => ?_)
    refine lv_aload_n hx hb dX8_take_16 rfl (lv_at hl 0 rfl) ?_
    refine lv_iload_n hx hb dX8_take_17 rfl (lv_at hl 1 rfl) ?_
    refine lv_if_ne (tgt := 25) hx hb dX8_take_18 (by decide) (fun c_8 => ?_) (fun c_8 => ?_)
    · replace h := it_n c_8 h
      refine lv_aload_n hx hb dX8_take_25 rfl (lv_at hl 0 rfl) ?_
      refine x_get (rest := [.ref (ad 0)]) X hP (gM0 c3 ad w_7) rfl iwX8_take_X8 31 (by decide) lkX8_take_268 rfl dX8_take_26 ?_
      exact bX8_take_29 X hret (w_7.1 0 31) w_7 _ _ _ hP hS (lv_sub hl [] rfl) h
    · replace h := it_p c_8 h
      refine lv_iload_n hx hb dX8_take_21 rfl (lv_at hl 2 rfl) ?_
      refine lv_goto (tgt := 29) hx hb dX8_take_22 (by decide) ?_
      exact bX8_take_29 X hret x2 w_7 _ _ _ hP hS (lv_sub hl [] rfl) h
def fX8_take (x1 : Int32) (x2 : Int32) (x3 : Int32) (w : Mm) : Option (Mm) := fX8_take_E x1 x2 x3 w
theorem ctX8_take (l : Launch) (D : va_G) (c3 : C3) (ad : Nat → Nat) (w : Mm) (sz : Nat) (x1 : Int32) (x2 : Int32) (x3 : Int32) (w' : Mm) (h : fX8_take x1 x2 x3 w = some w') : Cv l yX8_take wsX8_take rmX8_take D c3 (encM c3 ad) gM [.ref (ad 0), .int x1, .int x2, .int x3] w sz w' := by
  refine Cv.of (cc := cX8_take) (maxL := 4) (encM_ok c3 ad) (by decide) rfl (Nat.le_of_ble_eq_true rfl) ?_
  intro p e s m below meth c A Q ls X hret hP hS hl
  exact bX8_take_E X hret x1 x2 x3 w _ _ ls hP hS hl h
theorem iwX8_beginTurn_X8 : ∀ w ∈ wsX80, w ∈ wsX8_beginTurn := fun _ h => List.mem_cons_of_mem _ (List.mem_append_right _ h)
theorem lkX8_beginTurn_53 : Cond.fieldLink RX8 53 "StuckDoorModel" "nextOne" "[I" ∈ wsX8_beginTurn := by decide +kernel
theorem lkX8_beginTurn_56 : Cond.fieldLink RX8 56 "StuckDoorModel" "strains" "[I" ∈ wsX8_beginTurn := by decide +kernel
theorem lkX8_beginTurn_59 : Cond.fieldLink RX8 59 "StuckDoorModel" "settled" "[I" ∈ wsX8_beginTurn := by decide +kernel
theorem lkX8_beginTurn_62 : Cond.fieldLink RX8 62 "StuckDoorModel" "saidBy" "[I" ∈ wsX8_beginTurn := by decide +kernel
theorem lkX8_beginTurn_65 : Cond.fieldLink RX8 65 "StuckDoorModel" "bests" "[I" ∈ wsX8_beginTurn := by decide +kernel
theorem lkX8_beginTurn_167 : Cond.fieldLink RX8 167 "StuckDoorModel" "sayings" "I" ∈ wsX8_beginTurn := by decide +kernel
def rmX8_beginTurn : Room := { frames := 0, cells := 0, slots := 0, locals := 0 }
def fX8_beginTurn_57 (z0 : Int32) (z1 : Int32) (w : Mm) : Option (Mm) := gd (inb z1 7 = true) (nm (sA w 18 z1.toNatClampNeg z0) (fun w_2 => some w_2))
set_option maxRecDepth 20000 in
theorem bX8_beginTurn_57 {p : Program} {l : Launch} {e : Env} {s : State} {m : MethodId} {args : Array Value} {below : List Frame} {meth : Method} {c : Code} {Q : State → Prop} {D : va_G} {c3 : C3} {ad : Nat → Nat} {A : Nat → Prop} {w' : Mm} (X : Cx p s m args c cX8_beginTurn 5 RX8 wsX8_beginTurn D c3 (encM c3 ad) gM A) (hret : Rv p l e (rmX8_beginTurn) s m args below meth c Q cX8_beginTurn D (encM c3 ad) A w') : ∀ (z0 : Int32) (z1 : Int32) (w : Mm) (H : Heap) (locs : List Loc) (ls : Array Slot), va_P D vwCl ((encM c3 ad) w) H → va_S A s.heap H locs → lv_has ls 5 [] → fX8_beginTurn_57 z0 z1 w = some w' → W p l e (rmX8_beginTurn) s m args below meth c H locs 0 0 Q (F0 m 57 ls [.int z0, .int z1, .ref (ad 18)]) := by
  have hx := X.1
  have hb := X.2.1
  have hml := X.2.2.1
  have hown := X.2.2.2.1
  have hts := X.2.2.2.2.1
  intro z0 z1 w H locs ls hP hS hl h
  unfold fX8_beginTurn_57 at h
  obtain ⟨g_1, h⟩ := gd_s h
  refine x_iast X hP hS (gM18 c3 ad w) (sM18 c3 ad w _ _) g_1 dX8_beginTurn_57 (fun H locs hP hS => ?_)
  refine x_nmw h hP (fun w_2 h hP => ?_)
  obtain rfl := Option.some.inj h
  exact hret _ _ _ _ hP hS dX8_beginTurn_58
def fX8_beginTurn_E (x1 : Int32) (x2 : Int32) (x3 : Int32) (x4 : Int32) (w : Mm) : Option (Mm) := gd (inb x1 7 = true) (nm (sA w 14 x1.toNatClampNeg 0) (fun w_4 => nm (sA w_4 15 x1.toNatClampNeg x2) (fun w_5 => nm (sA w_5 16 x1.toNatClampNeg x3) (fun w_6 => nm (sA w_6 17 x1.toNatClampNeg x4) (fun w_7 => (if x1 = (w_7.1 0 3) then fX8_beginTurn_57 1 x1 w_7 else (if (x1 - x1 / 2 * 2) = 0 then fX8_beginTurn_57 (-1) x1 w_7 else fX8_beginTurn_57 3 x1 w_7)))))))
set_option maxRecDepth 20000 in
theorem bX8_beginTurn_E {p : Program} {l : Launch} {e : Env} {s : State} {m : MethodId} {args : Array Value} {below : List Frame} {meth : Method} {c : Code} {Q : State → Prop} {D : va_G} {c3 : C3} {ad : Nat → Nat} {A : Nat → Prop} {w' : Mm} (X : Cx p s m args c cX8_beginTurn 5 RX8 wsX8_beginTurn D c3 (encM c3 ad) gM A) (hret : Rv p l e (rmX8_beginTurn) s m args below meth c Q cX8_beginTurn D (encM c3 ad) A w') : ∀ (x1 : Int32) (x2 : Int32) (x3 : Int32) (x4 : Int32) (w : Mm) (H : Heap) (locs : List Loc) (ls : Array Slot), va_P D vwCl ((encM c3 ad) w) H → va_S A s.heap H locs → lv_has ls 5 [(0, .ref (ad 0)), (1, .int x1), (2, .int x2), (3, .int x3), (4, .int x4)] → fX8_beginTurn_E x1 x2 x3 x4 w = some w' → W p l e (rmX8_beginTurn) s m args below meth c H locs 0 0 Q (F0 m 0 ls []) := by
  have hx := X.1
  have hb := X.2.1
  have hml := X.2.2.1
  have hown := X.2.2.2.1
  have hts := X.2.2.2.2.1
  intro x1 x2 x3 x4 w H locs ls hP hS hl h
  unfold fX8_beginTurn_E at h
  refine lv_aload_n hx hb dX8_beginTurn_0 rfl (lv_at hl 0 rfl) ?_
  refine x_get (rest := []) X hP (gM0 c3 ad w) rfl iwX8_beginTurn_X8 26 (by decide) lkX8_beginTurn_53 rfl dX8_beginTurn_1 ?_
  refine lv_iload_n hx hb dX8_beginTurn_4 rfl (lv_at hl 1 rfl) ?_
  refine lv_iconst (v := 0) hx hb dX8_beginTurn_5 (by decide) ?_
  obtain ⟨g_3, h⟩ := gd_s h
  refine x_iast X hP hS (gM14 c3 ad w) (sM14 c3 ad w _ _) g_3 dX8_beginTurn_6 (fun H locs hP hS => ?_)
  refine x_nmw h hP (fun w_4 h hP => ?_)
  refine lv_aload_n hx hb dX8_beginTurn_7 rfl (lv_at hl 0 rfl) ?_
  refine x_get (rest := []) X hP (gM0 c3 ad w_4) rfl iwX8_beginTurn_X8 27 (by decide) lkX8_beginTurn_56 rfl dX8_beginTurn_8 ?_
  refine lv_iload_n hx hb dX8_beginTurn_11 rfl (lv_at hl 1 rfl) ?_
  refine lv_iload_n hx hb dX8_beginTurn_12 rfl (lv_at hl 2 rfl) ?_
  refine x_iast X hP hS (gM15 c3 ad w_4) (sM15 c3 ad w_4 _ _) g_3 dX8_beginTurn_13 (fun H locs hP hS => ?_)
  refine x_nmw h hP (fun w_5 h hP => ?_)
  refine lv_aload_n hx hb dX8_beginTurn_14 rfl (lv_at hl 0 rfl) ?_
  refine x_get (rest := []) X hP (gM0 c3 ad w_5) rfl iwX8_beginTurn_X8 28 (by decide) lkX8_beginTurn_59 rfl dX8_beginTurn_15 ?_
  refine lv_iload_n hx hb dX8_beginTurn_18 rfl (lv_at hl 1 rfl) ?_
  refine lv_iload_n hx hb dX8_beginTurn_19 rfl (lv_at hl 3 rfl) ?_
  refine x_iast X hP hS (gM16 c3 ad w_5) (sM16 c3 ad w_5 _ _) g_3 dX8_beginTurn_20 (fun H locs hP hS => ?_)
  refine x_nmw h hP (fun w_6 h hP => ?_)
  refine lv_aload_n hx hb dX8_beginTurn_21 rfl (lv_at hl 0 rfl) ?_
  refine x_get (rest := []) X hP (gM0 c3 ad w_6) rfl iwX8_beginTurn_X8 29 (by decide) lkX8_beginTurn_62 rfl dX8_beginTurn_22 ?_
  refine lv_iload_n hx hb dX8_beginTurn_25 rfl (lv_at hl 1 rfl) ?_
  refine lv_iload hx hb dX8_beginTurn_26 (lv_at hl 4 rfl) ?_
  refine x_iast X hP hS (gM17 c3 ad w_6) (sM17 c3 ad w_6 _ _) g_3 dX8_beginTurn_28 (fun H locs hP hS => ?_)
  refine x_nmw h hP (fun w_7 h hP => ?_)
  refine lv_aload_n hx hb dX8_beginTurn_29 rfl (lv_at hl 0 rfl) ?_
  refine x_get (rest := []) X hP (gM0 c3 ad w_7) rfl iwX8_beginTurn_X8 30 (by decide) lkX8_beginTurn_65 rfl dX8_beginTurn_30 ?_
  refine lv_iload_n hx hb dX8_beginTurn_33 rfl (lv_at hl 1 rfl) ?_
  refine lv_iload_n hx hb dX8_beginTurn_34 rfl (lv_at hl 1 rfl) ?_
  refine lv_aload_n hx hb dX8_beginTurn_35 rfl (lv_at hl 0 rfl) ?_
  refine x_get (rest := [.int x1, .int x1, .ref (ad 18)]) X hP (gM0 c3 ad w_7) rfl iwX8_beginTurn_X8 3 (by decide) lkX8_beginTurn_167 rfl dX8_beginTurn_36 ?_
  refine lv_icmp_ne (tgt := 46) hx hb dX8_beginTurn_39 (by decide) (fun c_8 => ?_) (fun c_8 => ?_)
  · replace h := it_n c_8 h
    refine lv_iload_n hx hb dX8_beginTurn_46 rfl (lv_at hl 1 rfl) ?_
    refine lv_iconst (v := 2) hx hb dX8_beginTurn_47 (by decide) ?_
    refine lv_irem hx hb dX8_beginTurn_48 (by decide) ?_
    refine lv_if_ne (tgt := 56) hx hb dX8_beginTurn_49 (by decide) (fun c_9 => ?_) (fun c_9 => ?_)
    · replace h := it_n c_9 h
      refine lv_iconst (v := 3) hx hb dX8_beginTurn_56 (by decide) ?_
      exact bX8_beginTurn_57 X hret 3 x1 w_7 _ _ _ hP hS (lv_sub hl [] rfl) h
    · replace h := it_p c_9 h
      refine lv_iconst (v := (-1)) hx hb dX8_beginTurn_52 (by decide) ?_
      refine lv_goto (tgt := 57) hx hb dX8_beginTurn_53 (by decide) ?_
      exact bX8_beginTurn_57 X hret (-1) x1 w_7 _ _ _ hP hS (lv_sub hl [] rfl) h
  · replace h := it_p c_8 h
    refine lv_iconst (v := 1) hx hb dX8_beginTurn_42 (by decide) ?_
    refine lv_goto (tgt := 57) hx hb dX8_beginTurn_43 (by decide) ?_
    exact bX8_beginTurn_57 X hret 1 x1 w_7 _ _ _ hP hS (lv_sub hl [] rfl) h
def fX8_beginTurn (x1 : Int32) (x2 : Int32) (x3 : Int32) (x4 : Int32) (w : Mm) : Option (Mm) := fX8_beginTurn_E x1 x2 x3 x4 w
theorem ctX8_beginTurn (l : Launch) (D : va_G) (c3 : C3) (ad : Nat → Nat) (w : Mm) (sz : Nat) (x1 : Int32) (x2 : Int32) (x3 : Int32) (x4 : Int32) (w' : Mm) (h : fX8_beginTurn x1 x2 x3 x4 w = some w') : Cv l yX8_beginTurn wsX8_beginTurn rmX8_beginTurn D c3 (encM c3 ad) gM [.ref (ad 0), .int x1, .int x2, .int x3, .int x4] w sz w' := by
  refine Cv.of (cc := cX8_beginTurn) (maxL := 5) (encM_ok c3 ad) (by decide) rfl (Nat.le_of_ble_eq_true rfl) ?_
  intro p e s m below meth c A Q ls X hret hP hS hl
  exact bX8_beginTurn_E X hret x1 x2 x3 x4 w _ _ ls hP hS hl h
theorem iwX8_play_X8 : ∀ w ∈ wsX80, w ∈ wsX8_play := fun _ h => List.mem_cons_of_mem _ (List.mem_append_right _ h)
theorem lkX8_play_7 : Cond.fieldLink RX8 7 "StuckDoorModel" "row" "[I" ∈ wsX8_play := by decide +kernel
theorem lkX8_play_13 : Cond.fieldLink RX8 13 "StuckDoorModel" "bears" "[I" ∈ wsX8_play := by decide +kernel
theorem lkX8_play_16 : Cond.fieldLink RX8 16 "StuckDoorModel" "kinds" "[I" ∈ wsX8_play := by decide +kernel
theorem lkX8_play_19 : Cond.fieldLink RX8 19 "StuckDoorModel" "nears" "[I" ∈ wsX8_play := by decide +kernel
theorem lkX8_play_22 : Cond.fieldLink RX8 22 "StuckDoorModel" "topics" "[I" ∈ wsX8_play := by decide +kernel
theorem lkX8_play_53 : Cond.fieldLink RX8 53 "StuckDoorModel" "nextOne" "[I" ∈ wsX8_play := by decide +kernel
theorem lkX8_play_56 : Cond.fieldLink RX8 56 "StuckDoorModel" "strains" "[I" ∈ wsX8_play := by decide +kernel
theorem lkX8_play_59 : Cond.fieldLink RX8 59 "StuckDoorModel" "settled" "[I" ∈ wsX8_play := by decide +kernel
theorem lkX8_play_62 : Cond.fieldLink RX8 62 "StuckDoorModel" "saidBy" "[I" ∈ wsX8_play := by decide +kernel
theorem lkX8_play_65 : Cond.fieldLink RX8 65 "StuckDoorModel" "bests" "[I" ∈ wsX8_play := by decide +kernel
theorem lkX8_play_167 : Cond.fieldLink RX8 167 "StuckDoorModel" "sayings" "I" ∈ wsX8_play := by decide +kernel
def rmX8_play : Room := { frames := 2, cells := 0, slots := 0, locals := 45 }
def fX8_play_227 (k20 : Int32 → Mm → Option (Int32 × Mm)) (x1 : Int32) (x2 : Int32) (x3 : Int32) (w : Mm) : Option (Int32 × Mm) := k20 x3 w
set_option maxRecDepth 20000 in
theorem bX8_play_227 {p : Program} {l : Launch} {e : Env} {s : State} {m : MethodId} {args : Array Value} {below : List Frame} {meth : Method} {c : Code} {Q : State → Prop} {D : va_G} {c3 : C3} {ad : Nat → Nat} {A : Nat → Prop} {r : Int32} {w' : Mm} (X : Cx p s m args c cX8_play 6 RX8 wsX8_play D c3 (encM c3 ad) gM A) (hret : Ri p l e (rmX8_play) s m args below meth c Q cX8_play D (encM c3 ad) A r w') {x1 : Int32} {x2 : Int32} {k20 : Int32 → Mm → Option (Int32 × Mm)} (hk20 : ∀ (x3 : Int32) (w : Mm) (H : Heap) (locs : List Loc) (ls : Array Slot), va_P D vwCl ((encM c3 ad) w) H → va_S A s.heap H locs → lv_has ls 6 [(0, .ref (ad 0)), (1, .int x1), (2, .int x2), (3, .int x3)] → k20 x3 w = some (r, w') → W p l e (rmX8_play) s m args below meth c H locs 0 0 Q (F0 m 20 ls [])) : ∀ (x3 : Int32) (w : Mm) (H : Heap) (locs : List Loc) (ls : Array Slot), va_P D vwCl ((encM c3 ad) w) H → va_S A s.heap H locs → lv_has ls 6 [(0, .ref (ad 0)), (1, .int x1), (2, .int x2), (3, .int x3)] → fX8_play_227 k20 x1 x2 x3 w = some (r, w') → W p l e (rmX8_play) s m args below meth c H locs 0 0 Q (F0 m 227 ls []) := by
  have hx := X.1
  have hb := X.2.1
  have hml := X.2.2.1
  have hown := X.2.2.2.1
  have hts := X.2.2.2.2.1
  intro x3 w H locs ls hP hS hl h
  unfold fX8_play_227 at h
  refine lv_goto (tgt := 20) hx hb dX8_play_227 (by decide) ?_
  exact hk20 x3 w _ _ _ hP hS (lv_sub hl [0, 1, 2, 3] rfl) h
def fX8_play_184 (k20 : Int32 → Mm → Option (Int32 × Mm)) (x1 : Int32) (x2 : Int32) (x3 : Int32) (z0 : Int32) (z1 : Int32) (z2 : Int32) (w : Mm) : Option (Int32 × Mm) := bo (fX8_take z2 z1 z0 w) (fun w_3 => fX8_play_227 k20 x1 x2 x3 w_3)
set_option maxRecDepth 20000 in
theorem bX8_play_184 {p : Program} {l : Launch} {e : Env} {s : State} {m : MethodId} {args : Array Value} {below : List Frame} {meth : Method} {c : Code} {Q : State → Prop} {D : va_G} {c3 : C3} {ad : Nat → Nat} {A : Nat → Prop} {r : Int32} {w' : Mm} (X : Cx p s m args c cX8_play 6 RX8 wsX8_play D c3 (encM c3 ad) gM A) (hret : Ri p l e (rmX8_play) s m args below meth c Q cX8_play D (encM c3 ad) A r w') {x1 : Int32} {x2 : Int32} {k20 : Int32 → Mm → Option (Int32 × Mm)} (hk20 : ∀ (x3 : Int32) (w : Mm) (H : Heap) (locs : List Loc) (ls : Array Slot), va_P D vwCl ((encM c3 ad) w) H → va_S A s.heap H locs → lv_has ls 6 [(0, .ref (ad 0)), (1, .int x1), (2, .int x2), (3, .int x3)] → k20 x3 w = some (r, w') → W p l e (rmX8_play) s m args below meth c H locs 0 0 Q (F0 m 20 ls [])) : ∀ (x3 : Int32) (z0 : Int32) (z1 : Int32) (z2 : Int32) (w : Mm) (H : Heap) (locs : List Loc) (ls : Array Slot), va_P D vwCl ((encM c3 ad) w) H → va_S A s.heap H locs → lv_has ls 6 [(0, .ref (ad 0)), (1, .int x1), (2, .int x2), (3, .int x3)] → fX8_play_184 k20 x1 x2 x3 z0 z1 z2 w = some (r, w') → W p l e (rmX8_play) s m args below meth c H locs 0 0 Q (F0 m 184 ls [.int z0, .int z1, .int z2, .ref (ad 0)]) := by
  have hx := X.1
  have hb := X.2.1
  have hml := X.2.2.1
  have hown := X.2.2.2.1
  have hts := X.2.2.2.2.1
  intro x3 z0 z1 z2 w H locs ls hP hS hl h
  unfold fX8_play_184 at h
  obtain ⟨w_3, e_1, h⟩ := bo_s h
  refine x_gov X hS (x_runV (As := [.int z2, .int z1, .int z0]) (rest := []) X gM_ok hP hS (ctX8_take l D c3 ad w _ z2 z1 z0 _ e_1) (cwV 3 hts gX8_play_X8_take rfl rfl rfl (by decide +kernel) ⟨by decide, by decide⟩) (gM0 c3 ad w) rfl rfl rfl hl.1 rfl (Nat.le_of_ble_eq_true rfl) dX8_play_184) (fun H locs hP hS => ?_)
  refine lv_goto (tgt := 227) hx hb dX8_play_187 (by decide) ?_
  exact bX8_play_227 (x1 := x1) (x2 := x2) (k20 := k20) X hret hk20 x3 w_3 _ _ _ hP hS (lv_sub hl [0, 1, 2, 3] rfl) h
def fX8_play_165 (k20 : Int32 → Mm → Option (Int32 × Mm)) (x1 : Int32) (x2 : Int32) (x3 : Int32) (x4 : Int32) (x5 : Int32) (z0 : Int32) (z2 : Int32) (w : Mm) : Option (Int32 × Mm) := gd (inb z0 4 = true) ((if z2 ≤ (w.1 2 z0.toNatClampNeg) then gd (inb x3 7 = true) (gd (inb x4 6 = true) (bo (fX8_beginTurn (x3 + 1) x5 ((w.1 16 x3.toNatClampNeg) ||| (w.1 5 x4.toNatClampNeg)) ((w.1 17 x3.toNatClampNeg) ||| (1 <<< (x4 &&& 31))) w) (fun w_10 => fX8_play_227 k20 x1 x2 (x3 + 1) w_10))) else (if (x3 - x3 / 2 * 2) = 0 then fX8_play_184 k20 x1 x2 x3 0 x4 x3 w else fX8_play_184 k20 x1 x2 x3 2 x4 x3 w)))
set_option maxRecDepth 20000 in
theorem bX8_play_165 {p : Program} {l : Launch} {e : Env} {s : State} {m : MethodId} {args : Array Value} {below : List Frame} {meth : Method} {c : Code} {Q : State → Prop} {D : va_G} {c3 : C3} {ad : Nat → Nat} {A : Nat → Prop} {r : Int32} {w' : Mm} (X : Cx p s m args c cX8_play 6 RX8 wsX8_play D c3 (encM c3 ad) gM A) (hret : Ri p l e (rmX8_play) s m args below meth c Q cX8_play D (encM c3 ad) A r w') {x1 : Int32} {x2 : Int32} {k20 : Int32 → Mm → Option (Int32 × Mm)} (hk20 : ∀ (x3 : Int32) (w : Mm) (H : Heap) (locs : List Loc) (ls : Array Slot), va_P D vwCl ((encM c3 ad) w) H → va_S A s.heap H locs → lv_has ls 6 [(0, .ref (ad 0)), (1, .int x1), (2, .int x2), (3, .int x3)] → k20 x3 w = some (r, w') → W p l e (rmX8_play) s m args below meth c H locs 0 0 Q (F0 m 20 ls [])) : ∀ (x3 : Int32) (x4 : Int32) (x5 : Int32) (z0 : Int32) (z2 : Int32) (w : Mm) (H : Heap) (locs : List Loc) (ls : Array Slot), va_P D vwCl ((encM c3 ad) w) H → va_S A s.heap H locs → lv_has ls 6 [(0, .ref (ad 0)), (1, .int x1), (2, .int x2), (3, .int x3), (4, .int x4), (5, .int x5)] → fX8_play_165 k20 x1 x2 x3 x4 x5 z0 z2 w = some (r, w') → W p l e (rmX8_play) s m args below meth c H locs 0 0 Q (F0 m 165 ls [.int z0, .ref (ad 2), .int z2]) := by
  have hx := X.1
  have hb := X.2.1
  have hml := X.2.2.1
  have hown := X.2.2.2.1
  have hts := X.2.2.2.2.1
  intro x3 x4 x5 z0 z2 w H locs ls hP hS hl h
  unfold fX8_play_165 at h
  obtain ⟨g_4, h⟩ := gd_s h
  refine x_iald X hP (gM2 c3 ad w) g_4 dX8_play_165 ?_
  refine lv_icmp_le (tgt := 190) hx hb dX8_play_166 (by decide) (fun c_5 => ?_) (fun c_5 => ?_)
  · replace h := it_p c_5 h
    refine lv_aload_n hx hb dX8_play_190 rfl (lv_at hl 0 rfl) ?_
    refine lv_iload_n hx hb dX8_play_191 rfl (lv_at hl 3 rfl) ?_
    refine lv_iconst (v := 1) hx hb dX8_play_192 (by decide) ?_
    refine lv_iadd hx hb dX8_play_193 ?_
    refine lv_iload hx hb dX8_play_194 (lv_at hl 5 rfl) ?_
    refine lv_aload_n hx hb dX8_play_196 rfl (lv_at hl 0 rfl) ?_
    refine x_get (rest := [.int x5, .int (x3 + 1), .ref (ad 0)]) X hP (gM0 c3 ad w) rfl iwX8_play_X8 28 (by decide) lkX8_play_59 rfl dX8_play_197 ?_
    refine lv_iload_n hx hb dX8_play_200 rfl (lv_at hl 3 rfl) ?_
    obtain ⟨g_6, h⟩ := gd_s h
    refine x_iald X hP (gM16 c3 ad w) g_6 dX8_play_201 ?_
    refine lv_aload_n hx hb dX8_play_202 rfl (lv_at hl 0 rfl) ?_
    refine x_get (rest := [.int (w.1 16 x3.toNatClampNeg), .int x5, .int (x3 + 1), .ref (ad 0)]) X hP (gM0 c3 ad w) rfl iwX8_play_X8 6 (by decide) lkX8_play_22 rfl dX8_play_203 ?_
    refine lv_iload hx hb dX8_play_206 (lv_at hl 4 rfl) ?_
    obtain ⟨g_7, h⟩ := gd_s h
    refine x_iald X hP (gM5 c3 ad w) g_7 dX8_play_208 ?_
    refine lv_ior hx hb dX8_play_209 ?_
    refine lv_aload_n hx hb dX8_play_210 rfl (lv_at hl 0 rfl) ?_
    refine x_get (rest := [.int ((w.1 16 x3.toNatClampNeg) ||| (w.1 5 x4.toNatClampNeg)), .int x5, .int (x3 + 1), .ref (ad 0)]) X hP (gM0 c3 ad w) rfl iwX8_play_X8 29 (by decide) lkX8_play_62 rfl dX8_play_211 ?_
    refine lv_iload_n hx hb dX8_play_214 rfl (lv_at hl 3 rfl) ?_
    refine x_iald X hP (gM17 c3 ad w) g_6 dX8_play_215 ?_
    refine lv_iconst (v := 1) hx hb dX8_play_216 (by decide) ?_
    refine lv_iload hx hb dX8_play_217 (lv_at hl 4 rfl) ?_
    refine lv_ishl hx hb dX8_play_219 ?_
    refine lv_ior hx hb dX8_play_220 ?_
    obtain ⟨w_10, e_8, h⟩ := bo_s h
    refine x_gov X hS (x_runV (As := [.int (x3 + 1), .int x5, .int ((w.1 16 x3.toNatClampNeg) ||| (w.1 5 x4.toNatClampNeg)), .int ((w.1 17 x3.toNatClampNeg) ||| (1 <<< (x4 &&& 31)))]) (rest := []) X gM_ok hP hS (ctX8_beginTurn l D c3 ad w _ (x3 + 1) x5 ((w.1 16 x3.toNatClampNeg) ||| (w.1 5 x4.toNatClampNeg)) ((w.1 17 x3.toNatClampNeg) ||| (1 <<< (x4 &&& 31))) _ e_8) (cwV 4 hts gX8_play_X8_beginTurn rfl rfl rfl (by decide +kernel) ⟨by decide, by decide⟩) (gM0 c3 ad w) rfl rfl rfl hl.1 rfl (Nat.le_of_ble_eq_true rfl) dX8_play_221) (fun H locs hP hS => ?_)
    refine lv_iinc (v := (x3 + 1)) (lv' := [(3, .int (x3 + 1)), (0, .ref (ad 0)), (1, .int x1), (2, .int x2), (4, .int x4), (5, .int x5)]) hx hb dX8_play_224 hl (k := 3) rfl rfl (by decide) rfl (fun ls hl => ?_)
    exact bX8_play_227 (x1 := x1) (x2 := x2) (k20 := k20) X hret hk20 (x3 + 1) w_10 _ _ _ hP hS (lv_sub hl [1, 2, 3, 0] rfl) h
  · replace h := it_n c_5 h
    refine lv_aload_n hx hb dX8_play_169 rfl (lv_at hl 0 rfl) ?_
    refine lv_iload_n hx hb dX8_play_170 rfl (lv_at hl 3 rfl) ?_
    refine lv_iload hx hb dX8_play_171 (lv_at hl 4 rfl) ?_
    refine lv_iload_n hx hb dX8_play_173 rfl (lv_at hl 3 rfl) ?_
    refine lv_iconst (v := 2) hx hb dX8_play_174 (by decide) ?_
    refine lv_irem hx hb dX8_play_175 (by decide) ?_
    refine lv_if_ne (tgt := 183) hx hb dX8_play_176 (by decide) (fun c_11 => ?_) (fun c_11 => ?_)
    · replace h := it_n c_11 h
      refine lv_iconst (v := 2) hx hb dX8_play_183 (by decide) ?_
      exact bX8_play_184 (x1 := x1) (x2 := x2) (k20 := k20) X hret hk20 x3 2 x4 x3 w _ _ _ hP hS (lv_sub hl [0, 1, 2, 3] rfl) h
    · replace h := it_p c_11 h
      refine lv_iconst (v := 0) hx hb dX8_play_179 (by decide) ?_
      refine lv_goto (tgt := 184) hx hb dX8_play_180 (by decide) ?_
      exact bX8_play_184 (x1 := x1) (x2 := x2) (k20 := k20) X hret hk20 x3 0 x4 x3 w _ _ _ hP hS (lv_sub hl [0, 1, 2, 3] rfl) h
def fX8_play_49 (k20 : Int32 → Mm → Option (Int32 × Mm)) (x1 : Int32) (x2 : Int32) (x3 : Int32) (w : Mm) : Option (Int32 × Mm) := (if (x3 + (-1)) < 0 then fX8_play_227 k20 x1 x2 (x3 + (-1)) w else gd (inb (x3 + (-1)) 7 = true) (gd (inb ((x3 + (-1)) + 1) 7 = true) (bo (fX8_take (x3 + (-1)) ((w.1 14 (x3 + (-1)).toNatClampNeg) - 1) (w.1 18 ((x3 + (-1)) + 1).toNatClampNeg) w) (fun w_17 => fX8_play_227 k20 x1 x2 (x3 + (-1)) w_17))))
set_option maxRecDepth 20000 in
theorem bX8_play_49 {p : Program} {l : Launch} {e : Env} {s : State} {m : MethodId} {args : Array Value} {below : List Frame} {meth : Method} {c : Code} {Q : State → Prop} {D : va_G} {c3 : C3} {ad : Nat → Nat} {A : Nat → Prop} {r : Int32} {w' : Mm} (X : Cx p s m args c cX8_play 6 RX8 wsX8_play D c3 (encM c3 ad) gM A) (hret : Ri p l e (rmX8_play) s m args below meth c Q cX8_play D (encM c3 ad) A r w') {x1 : Int32} {x2 : Int32} {k20 : Int32 → Mm → Option (Int32 × Mm)} (hk20 : ∀ (x3 : Int32) (w : Mm) (H : Heap) (locs : List Loc) (ls : Array Slot), va_P D vwCl ((encM c3 ad) w) H → va_S A s.heap H locs → lv_has ls 6 [(0, .ref (ad 0)), (1, .int x1), (2, .int x2), (3, .int x3)] → k20 x3 w = some (r, w') → W p l e (rmX8_play) s m args below meth c H locs 0 0 Q (F0 m 20 ls [])) : ∀ (x3 : Int32) (w : Mm) (H : Heap) (locs : List Loc) (ls : Array Slot), va_P D vwCl ((encM c3 ad) w) H → va_S A s.heap H locs → lv_has ls 6 [(0, .ref (ad 0)), (1, .int x1), (2, .int x2), (3, .int x3)] → fX8_play_49 k20 x1 x2 x3 w = some (r, w') → W p l e (rmX8_play) s m args below meth c H locs 0 0 Q (F0 m 49 ls []) := by
  have hx := X.1
  have hb := X.2.1
  have hml := X.2.2.1
  have hown := X.2.2.2.1
  have hts := X.2.2.2.2.1
  intro x3 w H locs ls hP hS hl h
  unfold fX8_play_49 at h
  refine lv_iinc (v := (x3 + (-1))) (lv' := [(3, .int (x3 + (-1))), (0, .ref (ad 0)), (1, .int x1), (2, .int x2)]) hx hb dX8_play_49 hl (k := 3) rfl rfl (by decide) rfl (fun ls hl => ?_)
  refine lv_iload_n hx hb dX8_play_52 rfl (lv_at hl 0 rfl) ?_
  refine lv_if_lt (tgt := 227) hx hb dX8_play_53 (by decide) (fun c_12 => ?_) (fun c_12 => ?_)
  · replace h := it_p c_12 h
    exact bX8_play_227 (x1 := x1) (x2 := x2) (k20 := k20) X hret hk20 (x3 + (-1)) w _ _ _ hP hS (lv_sub hl [1, 2, 3, 0] rfl) h
  · replace h := it_n c_12 h
    refine lv_aload_n hx hb dX8_play_56 rfl (lv_at hl 1 rfl) ?_
    refine lv_iload_n hx hb dX8_play_57 rfl (lv_at hl 0 rfl) ?_
    refine lv_aload_n hx hb dX8_play_58 rfl (lv_at hl 1 rfl) ?_
    refine x_get (rest := [.int (x3 + (-1)), .ref (ad 0)]) X hP (gM0 c3 ad w) rfl iwX8_play_X8 26 (by decide) lkX8_play_53 rfl dX8_play_59 ?_
    refine lv_iload_n hx hb dX8_play_62 rfl (lv_at hl 0 rfl) ?_
    obtain ⟨g_13, h⟩ := gd_s h
    refine x_iald X hP (gM14 c3 ad w) g_13 dX8_play_63 ?_
    refine lv_iconst (v := 1) hx hb dX8_play_64 (by decide) ?_
    refine lv_isub hx hb dX8_play_65 ?_
    refine lv_aload_n hx hb dX8_play_66 rfl (lv_at hl 1 rfl) ?_
    refine x_get (rest := [.int ((w.1 14 (x3 + (-1)).toNatClampNeg) - 1), .int (x3 + (-1)), .ref (ad 0)]) X hP (gM0 c3 ad w) rfl iwX8_play_X8 30 (by decide) lkX8_play_65 rfl dX8_play_67 ?_
    refine lv_iload_n hx hb dX8_play_70 rfl (lv_at hl 0 rfl) ?_
    refine lv_iconst (v := 1) hx hb dX8_play_71 (by decide) ?_
    refine lv_iadd hx hb dX8_play_72 ?_
    obtain ⟨g_14, h⟩ := gd_s h
    refine x_iald X hP (gM18 c3 ad w) g_14 dX8_play_73 ?_
    obtain ⟨w_17, e_15, h⟩ := bo_s h
    refine x_gov X hS (x_runV (As := [.int (x3 + (-1)), .int ((w.1 14 (x3 + (-1)).toNatClampNeg) - 1), .int (w.1 18 ((x3 + (-1)) + 1).toNatClampNeg)]) (rest := []) X gM_ok hP hS (ctX8_take l D c3 ad w _ (x3 + (-1)) ((w.1 14 (x3 + (-1)).toNatClampNeg) - 1) (w.1 18 ((x3 + (-1)) + 1).toNatClampNeg) _ e_15) (cwV 3 hts gX8_play_X8_take rfl rfl rfl (by decide +kernel) ⟨by decide, by decide⟩) (gM0 c3 ad w) rfl rfl rfl hl.1 rfl (Nat.le_of_ble_eq_true rfl) dX8_play_74) (fun H locs hP hS => ?_)
    refine lv_goto (tgt := 227) hx hb dX8_play_77 (by decide) ?_
    exact bX8_play_227 (x1 := x1) (x2 := x2) (k20 := k20) X hret hk20 (x3 + (-1)) w_17 _ _ _ hP hS (lv_sub hl [1, 2, 3, 0] rfl) h
def fX8_play_20 (x1 : Int32) (x2 : Int32) : Nat → Int32 → Mm → Option (Int32 × Mm)
  | 0, _, _ => none
  | n + 1, x3, w => (if x3 < 0 then some ((w.1 18 0), w) else gd (inb x3 7 = true) (nm (w.1 14 x3.toNatClampNeg) (fun x4_20 => (if x4_20 = (w.1 0 3) then fX8_play_49 (fX8_play_20 x1 x2 n) x1 x2 x3 w else (if x3 = (w.1 0 3) then fX8_play_49 (fX8_play_20 x1 x2 n) x1 x2 x3 w else nm (sA w 14 x3.toNatClampNeg ((w.1 14 x3.toNatClampNeg) + 1)) (fun w_23 => bo (fX8_has (w_23.1 17 x3.toNatClampNeg) x4_20) (fun r_25 => (if r_25 = 0 then gd (inb x4_20 6 = true) (gd (inb (5 + x4_20) 1655 = true) (bo (fX8_openOf (w_23.1 16 x3.toNatClampNeg)) (fun r_31 => bo (fX8_nearBy (w_23.1 3 x4_20.toNatClampNeg) (w_23.1 4 x4_20.toNatClampNeg) (w_23.1 1 (5 + x4_20).toNatClampNeg) r_31) (fun r_34 => nm ((w_23.1 15 x3.toNatClampNeg) + r_34) (fun x5_36 => (if (x3 - x3 / 2 * 2) = 0 then fX8_play_165 (fX8_play_20 x1 x2 n) x1 x2 x3 x4_20 x5_36 x1 x5_36 w_23 else fX8_play_165 (fX8_play_20 x1 x2 n) x1 x2 x3 x4_20 x5_36 x2 x5_36 w_23)))))) else fX8_play_227 (fX8_play_20 x1 x2 n) x1 x2 x3 w_23))))))))
set_option maxRecDepth 20000 in
theorem bX8_play_20 {p : Program} {l : Launch} {e : Env} {s : State} {m : MethodId} {args : Array Value} {below : List Frame} {meth : Method} {c : Code} {Q : State → Prop} {D : va_G} {c3 : C3} {ad : Nat → Nat} {A : Nat → Prop} {r : Int32} {w' : Mm} (X : Cx p s m args c cX8_play 6 RX8 wsX8_play D c3 (encM c3 ad) gM A) (hret : Ri p l e (rmX8_play) s m args below meth c Q cX8_play D (encM c3 ad) A r w') : ∀ (x1 : Int32) (x2 : Int32) (n : Nat) (x3 : Int32) (w : Mm) (H : Heap) (locs : List Loc) (ls : Array Slot), va_P D vwCl ((encM c3 ad) w) H → va_S A s.heap H locs → lv_has ls 6 [(0, .ref (ad 0)), (1, .int x1), (2, .int x2), (3, .int x3)] → fX8_play_20 x1 x2 n x3 w = some (r, w') → W p l e (rmX8_play) s m args below meth c H locs 0 0 Q (F0 m 20 ls []) := by
  have hx := X.1
  have hb := X.2.1
  have hml := X.2.2.1
  have hown := X.2.2.2.1
  have hts := X.2.2.2.2.1
  intro x1 x2 n
  induction n with
  | zero =>
    intro x3 w H locs ls hP hS hl h
    exact absurd h (by simp [fX8_play_20])
  | succ n ih =>
    intro x3 w H locs ls hP hS hl h
    rw [fX8_play_20] at h
    refine lv_iload_n hx hb dX8_play_20 rfl (lv_at hl 3 rfl) ?_
    refine lv_if_lt (tgt := 230) hx hb dX8_play_21 (by decide) (fun c_18 => ?_) (fun c_18 => ?_)
    · replace h := it_p c_18 h
      refine lv_aload_n hx hb dX8_play_230 rfl (lv_at hl 0 rfl) ?_
      refine x_get (rest := []) X hP (gM0 c3 ad w) rfl iwX8_play_X8 30 (by decide) lkX8_play_65 rfl dX8_play_231 ?_
      refine lv_iconst (v := 0) hx hb dX8_play_234 (by decide) ?_
      refine x_ialdL (j := 0) X hP (gM18 c3 ad w) (by decide) rfl dX8_play_235 ?_
      obtain ⟨rfl, rfl⟩ := Prod.mk.inj (Option.some.inj h)
      exact hret _ _ _ _ hP hS dX8_play_236
    · replace h := it_n c_18 h
      refine lv_aload_n hx hb dX8_play_24 rfl (lv_at hl 0 rfl) ?_
      refine x_get (rest := []) X hP (gM0 c3 ad w) rfl iwX8_play_X8 26 (by decide) lkX8_play_53 rfl dX8_play_25 ?_
      refine lv_iload_n hx hb dX8_play_28 rfl (lv_at hl 3 rfl) ?_
      obtain ⟨g_19, h⟩ := gd_s h
      refine x_iald X hP (gM14 c3 ad w) g_19 dX8_play_29 ?_
      refine x_nmi h (fun x4_20 h => ?_)
      refine lv_istore (lv' := [(4, .int x4_20), (0, .ref (ad 0)), (1, .int x1), (2, .int x2), (3, .int x3)]) hx hb dX8_play_30 hl (by decide) rfl (fun ls hl => ?_)
      refine lv_iload hx hb dX8_play_32 (lv_at hl 0 rfl) ?_
      refine lv_aload_n hx hb dX8_play_34 rfl (lv_at hl 1 rfl) ?_
      refine x_get (rest := [.int x4_20]) X hP (gM0 c3 ad w) rfl iwX8_play_X8 3 (by decide) lkX8_play_167 rfl dX8_play_35 ?_
      refine lv_icmp_eq (tgt := 49) hx hb dX8_play_38 (by decide) (fun c_21 => ?_) (fun c_21 => ?_)
      · replace h := it_p c_21 h
        exact bX8_play_49 (x1 := x1) (x2 := x2) (k20 := (fX8_play_20 x1 x2 n)) X hret ih x3 w _ _ _ hP hS (lv_sub hl [1, 2, 3, 4] rfl) h
      · replace h := it_n c_21 h
        refine lv_iload_n hx hb dX8_play_41 rfl (lv_at hl 4 rfl) ?_
        refine lv_aload_n hx hb dX8_play_42 rfl (lv_at hl 1 rfl) ?_
        refine x_get (rest := [.int x3]) X hP (gM0 c3 ad w) rfl iwX8_play_X8 3 (by decide) lkX8_play_167 rfl dX8_play_43 ?_
        refine lv_icmp_ne (tgt := 80) hx hb dX8_play_46 (by decide) (fun c_22 => ?_) (fun c_22 => ?_)
        · replace h := it_n c_22 h
          refine lv_aload_n hx hb dX8_play_80 rfl (lv_at hl 1 rfl) ?_
          refine x_get (rest := []) X hP (gM0 c3 ad w) rfl iwX8_play_X8 26 (by decide) lkX8_play_53 rfl dX8_play_81 ?_
          refine lv_iload_n hx hb dX8_play_84 rfl (lv_at hl 4 rfl) ?_
          refine lv_dup2_11 hx hb dX8_play_85 rfl rfl ?_
          refine x_iald X hP (gM14 c3 ad w) g_19 dX8_play_86 ?_
          refine lv_iconst (v := 1) hx hb dX8_play_87 (by decide) ?_
          refine lv_iadd hx hb dX8_play_88 ?_
          refine x_iast X hP hS (gM14 c3 ad w) (sM14 c3 ad w _ _) g_19 dX8_play_89 (fun H locs hP hS => ?_)
          refine x_nmw h hP (fun w_23 h hP => ?_)
          refine lv_aload_n hx hb dX8_play_90 rfl (lv_at hl 1 rfl) ?_
          refine x_get (rest := []) X hP (gM0 c3 ad w_23) rfl iwX8_play_X8 29 (by decide) lkX8_play_62 rfl dX8_play_91 ?_
          refine lv_iload_n hx hb dX8_play_94 rfl (lv_at hl 4 rfl) ?_
          refine x_iald X hP (gM17 c3 ad w_23) g_19 dX8_play_95 ?_
          refine lv_iload hx hb dX8_play_96 (lv_at hl 0 rfl) ?_
          obtain ⟨r_25, e_24, h⟩ := bo_s h
          refine x_goi X hS (x_runS (As := [.int (w_23.1 17 x3.toNatClampNeg), .int x4_20]) (rest := []) X gM_ok hP hS (ctX8_has l D c3 ad w_23 _ (w_23.1 17 x3.toNatClampNeg) x4_20 _ e_24) (va_cwS 2 hts gX8_play_X8_has rfl rfl rfl (by decide +kernel) ⟨by decide, by decide⟩) rfl hl.1 rfl (Nat.le_of_ble_eq_true rfl) dX8_play_98) (fun H locs hP hS => ?_)
          refine lv_if_ne (tgt := 227) hx hb dX8_play_101 (by decide) (fun c_27 => ?_) (fun c_27 => ?_)
          · replace h := it_n c_27 h
            exact bX8_play_227 (x1 := x1) (x2 := x2) (k20 := (fX8_play_20 x1 x2 n)) X hret ih x3 w_23 _ _ _ hP hS (lv_sub hl [1, 2, 3, 4] rfl) h
          · replace h := it_p c_27 h
            refine lv_aload_n hx hb dX8_play_104 rfl (lv_at hl 1 rfl) ?_
            refine x_get (rest := []) X hP (gM0 c3 ad w_23) rfl iwX8_play_X8 27 (by decide) lkX8_play_56 rfl dX8_play_105 ?_
            refine lv_iload_n hx hb dX8_play_108 rfl (lv_at hl 4 rfl) ?_
            refine x_iald X hP (gM15 c3 ad w_23) g_19 dX8_play_109 ?_
            refine lv_aload_n hx hb dX8_play_110 rfl (lv_at hl 1 rfl) ?_
            refine x_get (rest := [.int (w_23.1 15 x3.toNatClampNeg)]) X hP (gM0 c3 ad w_23) rfl iwX8_play_X8 4 (by decide) lkX8_play_16 rfl dX8_play_111 ?_
            refine lv_iload hx hb dX8_play_114 (lv_at hl 0 rfl) ?_
            obtain ⟨g_28, h⟩ := gd_s h
            refine x_iald X hP (gM3 c3 ad w_23) g_28 dX8_play_116 ?_
            refine lv_aload_n hx hb dX8_play_117 rfl (lv_at hl 1 rfl) ?_
            refine x_get (rest := [.int (w_23.1 3 x4_20.toNatClampNeg), .int (w_23.1 15 x3.toNatClampNeg)]) X hP (gM0 c3 ad w_23) rfl iwX8_play_X8 5 (by decide) lkX8_play_19 rfl dX8_play_118 ?_
            refine lv_iload hx hb dX8_play_121 (lv_at hl 0 rfl) ?_
            refine x_iald X hP (gM4 c3 ad w_23) g_28 dX8_play_123 ?_
            refine lv_aload_n hx hb dX8_play_124 rfl (lv_at hl 1 rfl) ?_
            refine x_get (rest := [.int (w_23.1 4 x4_20.toNatClampNeg), .int (w_23.1 3 x4_20.toNatClampNeg), .int (w_23.1 15 x3.toNatClampNeg)]) X hP (gM0 c3 ad w_23) rfl iwX8_play_X8 0 (by decide) lkX8_play_7 rfl dX8_play_125 ?_
            refine lv_iconst (v := 5) hx hb dX8_play_128 (by decide) ?_
            refine lv_iload hx hb dX8_play_129 (lv_at hl 0 rfl) ?_
            refine lv_iadd hx hb dX8_play_131 ?_
            obtain ⟨g_29, h⟩ := gd_s h
            refine x_iald X hP (gM1 c3 ad w_23) g_29 dX8_play_132 ?_
            refine lv_aload_n hx hb dX8_play_133 rfl (lv_at hl 1 rfl) ?_
            refine x_get (rest := [.int (w_23.1 1 (5 + x4_20).toNatClampNeg), .int (w_23.1 4 x4_20.toNatClampNeg), .int (w_23.1 3 x4_20.toNatClampNeg), .int (w_23.1 15 x3.toNatClampNeg)]) X hP (gM0 c3 ad w_23) rfl iwX8_play_X8 28 (by decide) lkX8_play_59 rfl dX8_play_134 ?_
            refine lv_iload_n hx hb dX8_play_137 rfl (lv_at hl 4 rfl) ?_
            refine x_iald X hP (gM16 c3 ad w_23) g_19 dX8_play_138 ?_
            obtain ⟨r_31, e_30, h⟩ := bo_s h
            refine x_goi X hS (x_runS (As := [.int (w_23.1 16 x3.toNatClampNeg)]) (rest := [.int (w_23.1 1 (5 + x4_20).toNatClampNeg), .int (w_23.1 4 x4_20.toNatClampNeg), .int (w_23.1 3 x4_20.toNatClampNeg), .int (w_23.1 15 x3.toNatClampNeg)]) X gM_ok hP hS (ctX8_openOf l D c3 ad w_23 _ (w_23.1 16 x3.toNatClampNeg) _ e_30) (va_cwS 1 hts gX8_play_X8_openOf rfl rfl rfl (by decide +kernel) ⟨by decide, by decide⟩) rfl hl.1 rfl (Nat.le_of_ble_eq_true rfl) dX8_play_139) (fun H locs hP hS => ?_)
            obtain ⟨r_34, e_33, h⟩ := bo_s h
            refine x_goi X hS (x_runS (As := [.int (w_23.1 3 x4_20.toNatClampNeg), .int (w_23.1 4 x4_20.toNatClampNeg), .int (w_23.1 1 (5 + x4_20).toNatClampNeg), .int r_31]) (rest := [.int (w_23.1 15 x3.toNatClampNeg)]) X gM_ok hP hS (ctX8_nearBy l D c3 ad w_23 _ (w_23.1 3 x4_20.toNatClampNeg) (w_23.1 4 x4_20.toNatClampNeg) (w_23.1 1 (5 + x4_20).toNatClampNeg) r_31 _ e_33) (va_cwS 4 hts gX8_play_X8_nearBy rfl rfl rfl (by decide +kernel) ⟨by decide, by decide⟩) rfl hl.1 rfl (Nat.le_of_ble_eq_true rfl) dX8_play_142) (fun H locs hP hS => ?_)
            refine lv_iadd hx hb dX8_play_145 ?_
            refine x_nmi h (fun x5_36 h => ?_)
            refine lv_istore (lv' := [(5, .int x5_36), (4, .int x4_20), (0, .ref (ad 0)), (1, .int x1), (2, .int x2), (3, .int x3)]) hx hb dX8_play_146 hl (by decide) rfl (fun ls hl => ?_)
            refine lv_iload hx hb dX8_play_148 (lv_at hl 0 rfl) ?_
            refine lv_aload_n hx hb dX8_play_150 rfl (lv_at hl 2 rfl) ?_
            refine x_get (rest := [.int x5_36]) X hP (gM0 c3 ad w_23) rfl iwX8_play_X8 2 (by decide) lkX8_play_13 rfl dX8_play_151 ?_
            refine lv_iload_n hx hb dX8_play_154 rfl (lv_at hl 5 rfl) ?_
            refine lv_iconst (v := 2) hx hb dX8_play_155 (by decide) ?_
            refine lv_irem hx hb dX8_play_156 (by decide) ?_
            refine lv_if_ne (tgt := 164) hx hb dX8_play_157 (by decide) (fun c_37 => ?_) (fun c_37 => ?_)
            · replace h := it_n c_37 h
              refine lv_iload_n hx hb dX8_play_164 rfl (lv_at hl 4 rfl) ?_
              exact bX8_play_165 (x1 := x1) (x2 := x2) (k20 := (fX8_play_20 x1 x2 n)) X hret ih x3 x4_20 x5_36 x2 x5_36 w_23 _ _ _ hP hS (lv_sub hl [2, 3, 4, 5, 1, 0] rfl) h
            · replace h := it_p c_37 h
              refine lv_iload_n hx hb dX8_play_160 rfl (lv_at hl 3 rfl) ?_
              refine lv_goto (tgt := 165) hx hb dX8_play_161 (by decide) ?_
              exact bX8_play_165 (x1 := x1) (x2 := x2) (k20 := (fX8_play_20 x1 x2 n)) X hret ih x3 x4_20 x5_36 x1 x5_36 w_23 _ _ _ hP hS (lv_sub hl [2, 3, 4, 5, 1, 0] rfl) h
        · replace h := it_p c_22 h
          exact bX8_play_49 (x1 := x1) (x2 := x2) (k20 := (fX8_play_20 x1 x2 n)) X hret ih x3 w _ _ _ hP hS (lv_sub hl [1, 2, 3, 4] rfl) h
def fX8_play_E (x1 : Int32) (x2 : Int32) (w : Mm) : Option (Int32 × Mm) := bo (fX8_beginTurn 0 (w.1 1 2) (w.1 1 3) 0 w) (fun w_40 => fX8_play_20 x1 x2 FU 0 w_40)
set_option maxRecDepth 20000 in
theorem bX8_play_E {p : Program} {l : Launch} {e : Env} {s : State} {m : MethodId} {args : Array Value} {below : List Frame} {meth : Method} {c : Code} {Q : State → Prop} {D : va_G} {c3 : C3} {ad : Nat → Nat} {A : Nat → Prop} {r : Int32} {w' : Mm} (X : Cx p s m args c cX8_play 6 RX8 wsX8_play D c3 (encM c3 ad) gM A) (hret : Ri p l e (rmX8_play) s m args below meth c Q cX8_play D (encM c3 ad) A r w') : ∀ (x1 : Int32) (x2 : Int32) (w : Mm) (H : Heap) (locs : List Loc) (ls : Array Slot), va_P D vwCl ((encM c3 ad) w) H → va_S A s.heap H locs → lv_has ls 6 [(0, .ref (ad 0)), (1, .int x1), (2, .int x2)] → fX8_play_E x1 x2 w = some (r, w') → W p l e (rmX8_play) s m args below meth c H locs 0 0 Q (F0 m 0 ls []) := by
  have hx := X.1
  have hb := X.2.1
  have hml := X.2.2.1
  have hown := X.2.2.2.1
  have hts := X.2.2.2.2.1
  intro x1 x2 w H locs ls hP hS hl h
  unfold fX8_play_E at h
  refine lv_iconst (v := 0) hx hb dX8_play_0 (by decide) ?_
  refine lv_istore_n (lv' := [(3, .int 0), (0, .ref (ad 0)), (1, .int x1), (2, .int x2)]) hx hb dX8_play_1 rfl hl (by decide) rfl (fun ls hl => ?_)
  refine lv_aload_n hx hb dX8_play_2 rfl (lv_at hl 1 rfl) ?_
  refine lv_iconst (v := 0) hx hb dX8_play_3 (by decide) ?_
  refine lv_aload_n hx hb dX8_play_4 rfl (lv_at hl 1 rfl) ?_
  refine x_get (rest := [.int 0, .ref (ad 0)]) X hP (gM0 c3 ad w) rfl iwX8_play_X8 0 (by decide) lkX8_play_7 rfl dX8_play_5 ?_
  refine lv_iconst (v := 2) hx hb dX8_play_8 (by decide) ?_
  refine x_ialdL (j := 2) X hP (gM1 c3 ad w) (by decide) rfl dX8_play_9 ?_
  refine lv_aload_n hx hb dX8_play_10 rfl (lv_at hl 1 rfl) ?_
  refine x_get (rest := [.int (w.1 1 2), .int 0, .ref (ad 0)]) X hP (gM0 c3 ad w) rfl iwX8_play_X8 0 (by decide) lkX8_play_7 rfl dX8_play_11 ?_
  refine lv_iconst (v := 3) hx hb dX8_play_14 (by decide) ?_
  refine x_ialdL (j := 3) X hP (gM1 c3 ad w) (by decide) rfl dX8_play_15 ?_
  refine lv_iconst (v := 0) hx hb dX8_play_16 (by decide) ?_
  obtain ⟨w_40, e_38, h⟩ := bo_s h
  refine x_gov X hS (x_runV (As := [.int 0, .int (w.1 1 2), .int (w.1 1 3), .int 0]) (rest := []) X gM_ok hP hS (ctX8_beginTurn l D c3 ad w _ 0 (w.1 1 2) (w.1 1 3) 0 _ e_38) (cwV 4 hts gX8_play_X8_beginTurn rfl rfl rfl (by decide +kernel) ⟨by decide, by decide⟩) (gM0 c3 ad w) rfl rfl rfl hl.1 rfl (Nat.le_of_ble_eq_true rfl) dX8_play_17) (fun H locs hP hS => ?_)
  exact bX8_play_20 X hret x1 x2 FU 0 w_40 _ _ _ hP hS (lv_sub hl [1, 2, 3, 0] rfl) h
def fX8_play (x1 : Int32) (x2 : Int32) (w : Mm) : Option (Int32 × Mm) := fX8_play_E x1 x2 w
theorem ctX8_play (l : Launch) (D : va_G) (c3 : C3) (ad : Nat → Nat) (w : Mm) (sz : Nat) (x1 : Int32) (x2 : Int32) (r : Int32) (w' : Mm) (h : fX8_play x1 x2 w = some (r, w')) : Ci l yX8_play wsX8_play rmX8_play D c3 (encM c3 ad) gM [.ref (ad 0), .int x1, .int x2] w sz r w' := by
  refine Ci.of (cc := cX8_play) (maxL := 6) (encM_ok c3 ad) (by decide) rfl (Nat.le_of_ble_eq_true rfl) ?_
  intro p e s m below meth c A Q ls X hret hP hS hl
  exact bX8_play_E X hret x1 x2 w _ _ ls hP hS hl h
def rmX8_duel : Room := { frames := 3, cells := 0, slots := 0, locals := 70 }
def fX8_duel_E (x1 : Int32) (x2 : Int32) (w : Mm) : Option (Int32 × Mm) := bo (fX8_noDuel x1 x2 w) (fun r_2 => (if r_2 = 0 then bd (fX8_play x1 x2 w) (fun r_6 w_7 => (if r_6 = 1 then some ((-9), w_7) else (if r_6 = 0 then some (0, w_7) else some (1, w_7)))) else some (r_2, w)))
set_option maxRecDepth 20000 in
theorem bX8_duel_E {p : Program} {l : Launch} {e : Env} {s : State} {m : MethodId} {args : Array Value} {below : List Frame} {meth : Method} {c : Code} {Q : State → Prop} {D : va_G} {c3 : C3} {ad : Nat → Nat} {A : Nat → Prop} {r : Int32} {w' : Mm} (X : Cx p s m args c cX8_duel 5 RX8 wsX8_duel D c3 (encM c3 ad) gM A) (hret : Ri p l e (rmX8_duel) s m args below meth c Q cX8_duel D (encM c3 ad) A r w') : ∀ (x1 : Int32) (x2 : Int32) (w : Mm) (H : Heap) (locs : List Loc) (ls : Array Slot), va_P D vwCl ((encM c3 ad) w) H → va_S A s.heap H locs → lv_has ls 5 [(0, .ref (ad 0)), (1, .int x1), (2, .int x2)] → fX8_duel_E x1 x2 w = some (r, w') → W p l e (rmX8_duel) s m args below meth c H locs 0 0 Q (F0 m 0 ls []) := by
  have hx := X.1
  have hb := X.2.1
  have hml := X.2.2.1
  have hown := X.2.2.2.1
  have hts := X.2.2.2.2.1
  intro x1 x2 w H locs ls hP hS hl h
  unfold fX8_duel_E at h
  refine lv_aload_n hx hb dX8_duel_0 rfl (lv_at hl 0 rfl) ?_
  refine lv_iload_n hx hb dX8_duel_1 rfl (lv_at hl 1 rfl) ?_
  refine lv_iload_n hx hb dX8_duel_2 rfl (lv_at hl 2 rfl) ?_
  obtain ⟨r_2, e_1, h⟩ := bo_s h
  refine x_goi X hS (x_runV (As := [.int x1, .int x2]) (rest := []) X gM_ok hP hS (ctX8_noDuel l D c3 ad w _ x1 x2 _ e_1) (cwV 2 hts gX8_duel_X8_noDuel rfl rfl rfl (by decide +kernel) ⟨by decide, by decide⟩) (gM0 c3 ad w) rfl rfl rfl hl.1 rfl (Nat.le_of_ble_eq_true rfl) dX8_duel_3) (fun H locs hP hS => ?_)
  refine lv_istore_n (lv' := [(3, .int r_2), (0, .ref (ad 0)), (1, .int x1), (2, .int x2)]) hx hb dX8_duel_6 rfl hl (by decide) rfl (fun ls hl => ?_)
  refine lv_iload_n hx hb dX8_duel_7 rfl (lv_at hl 0 rfl) ?_
  refine lv_if_eq (tgt := 13) hx hb dX8_duel_8 (by decide) (fun c_4 => ?_) (fun c_4 => ?_)
  · replace h := it_p c_4 h
    refine lv_aload_n hx hb dX8_duel_13 rfl (lv_at hl 1 rfl) ?_
    refine lv_iload_n hx hb dX8_duel_14 rfl (lv_at hl 2 rfl) ?_
    refine lv_iload_n hx hb dX8_duel_15 rfl (lv_at hl 3 rfl) ?_
    obtain ⟨r_6, w_7, e_5, h⟩ := bd_s h
    refine x_goi X hS (x_runV (As := [.int x1, .int x2]) (rest := []) X gM_ok hP hS (ctX8_play l D c3 ad w _ x1 x2 _ _ e_5) (cwV 2 hts gX8_duel_X8_play rfl rfl rfl (by decide +kernel) ⟨by decide, by decide⟩) (gM0 c3 ad w) rfl rfl rfl hl.1 rfl (Nat.le_of_ble_eq_true rfl) dX8_duel_16) (fun H locs hP hS => ?_)
    refine lv_istore (lv' := [(4, .int r_6), (3, .int r_2), (0, .ref (ad 0)), (1, .int x1), (2, .int x2)]) hx hb dX8_duel_19 hl (by decide) rfl (fun ls hl => ?_)
    refine lv_iload hx hb dX8_duel_21 (lv_at hl 0 rfl) ?_
    refine lv_iconst (v := 1) hx hb dX8_duel_23 (by decide) ?_
    refine lv_icmp_ne (tgt := 32) hx hb dX8_duel_24 (by decide) (fun c_8 => ?_) (fun c_8 => ?_)
    · replace h := it_n c_8 h
      refine lv_iload hx hb dX8_duel_32 (lv_at hl 0 rfl) ?_
      refine lv_if_ne (tgt := 41) hx hb dX8_duel_34 (by decide) (fun c_9 => ?_) (fun c_9 => ?_)
      · replace h := it_n c_9 h
        refine lv_iconst (v := 1) hx hb dX8_duel_41 (by decide) ?_
        obtain ⟨rfl, rfl⟩ := Prod.mk.inj (Option.some.inj h)
        exact hret _ _ _ _ hP hS dX8_duel_42
      · replace h := it_p c_9 h
        refine lv_iconst (v := 0) hx hb dX8_duel_37 (by decide) ?_
        refine lv_goto (tgt := 42) hx hb dX8_duel_38 (by decide) ?_
        obtain ⟨rfl, rfl⟩ := Prod.mk.inj (Option.some.inj h)
        exact hret _ _ _ _ hP hS dX8_duel_42
    · replace h := it_p c_8 h
      refine lv_bipush (v := (-9)) hx hb dX8_duel_27 (by decide) ?_
      refine lv_goto (tgt := 42) hx hb dX8_duel_29 (by decide) ?_
      obtain ⟨rfl, rfl⟩ := Prod.mk.inj (Option.some.inj h)
      exact hret _ _ _ _ hP hS dX8_duel_42
  · replace h := it_n c_4 h
    refine lv_iload_n hx hb dX8_duel_11 rfl (lv_at hl 0 rfl) ?_
    obtain ⟨rfl, rfl⟩ := Prod.mk.inj (Option.some.inj h)
    exact hret _ _ _ _ hP hS dX8_duel_12
def fX8_duel (x1 : Int32) (x2 : Int32) (w : Mm) : Option (Int32 × Mm) := fX8_duel_E x1 x2 w
theorem ctX8_duel (l : Launch) (D : va_G) (c3 : C3) (ad : Nat → Nat) (w : Mm) (sz : Nat) (x1 : Int32) (x2 : Int32) (r : Int32) (w' : Mm) (h : fX8_duel x1 x2 w = some (r, w')) : Ci l yX8_duel wsX8_duel rmX8_duel D c3 (encM c3 ad) gM [.ref (ad 0), .int x1, .int x2] w sz r w' := by
  refine Ci.of (cc := cX8_duel) (maxL := 5) (encM_ok c3 ad) (by decide) rfl (Nat.le_of_ble_eq_true rfl) ?_
  intro p e s m below meth c A Q ls X hret hP hS hl
  exact bX8_duel_E X hret x1 x2 w _ _ ls hP hS hl h
theorem iwX8_opens_X8 : ∀ w ∈ wsX80, w ∈ wsX8_opens := fun _ h => List.mem_cons_of_mem _ (List.mem_append_right _ h)
theorem lkX8_opens_268 : Cond.fieldLink RX8 268 "StuckDoorModel" "opening" "I" ∈ wsX8_opens := by decide +kernel
def rmX8_opens : Room := { frames := 3, cells := 0, slots := 0, locals := 70 }
def fX8_opens_E (x1 : Int32) (x2 : Int32) (w : Mm) : Option (Int32 × Mm) := bo (fX8_noDuel x1 x2 w) (fun r_2 => (if r_2 = 0 then bd (fX8_play x1 x2 w) (fun r_6 w_7 => some ((w_7.1 0 31), w_7)) else some (r_2, w)))
set_option maxRecDepth 20000 in
theorem bX8_opens_E {p : Program} {l : Launch} {e : Env} {s : State} {m : MethodId} {args : Array Value} {below : List Frame} {meth : Method} {c : Code} {Q : State → Prop} {D : va_G} {c3 : C3} {ad : Nat → Nat} {A : Nat → Prop} {r : Int32} {w' : Mm} (X : Cx p s m args c cX8_opens 4 RX8 wsX8_opens D c3 (encM c3 ad) gM A) (hret : Ri p l e (rmX8_opens) s m args below meth c Q cX8_opens D (encM c3 ad) A r w') : ∀ (x1 : Int32) (x2 : Int32) (w : Mm) (H : Heap) (locs : List Loc) (ls : Array Slot), va_P D vwCl ((encM c3 ad) w) H → va_S A s.heap H locs → lv_has ls 4 [(0, .ref (ad 0)), (1, .int x1), (2, .int x2)] → fX8_opens_E x1 x2 w = some (r, w') → W p l e (rmX8_opens) s m args below meth c H locs 0 0 Q (F0 m 0 ls []) := by
  have hx := X.1
  have hb := X.2.1
  have hml := X.2.2.1
  have hown := X.2.2.2.1
  have hts := X.2.2.2.2.1
  intro x1 x2 w H locs ls hP hS hl h
  unfold fX8_opens_E at h
  refine lv_aload_n hx hb dX8_opens_0 rfl (lv_at hl 0 rfl) ?_
  refine lv_iload_n hx hb dX8_opens_1 rfl (lv_at hl 1 rfl) ?_
  refine lv_iload_n hx hb dX8_opens_2 rfl (lv_at hl 2 rfl) ?_
  obtain ⟨r_2, e_1, h⟩ := bo_s h
  refine x_goi X hS (x_runV (As := [.int x1, .int x2]) (rest := []) X gM_ok hP hS (ctX8_noDuel l D c3 ad w _ x1 x2 _ e_1) (cwV 2 hts gX8_opens_X8_noDuel rfl rfl rfl (by decide +kernel) ⟨by decide, by decide⟩) (gM0 c3 ad w) rfl rfl rfl hl.1 rfl (Nat.le_of_ble_eq_true rfl) dX8_opens_3) (fun H locs hP hS => ?_)
  refine lv_istore_n (lv' := [(3, .int r_2), (0, .ref (ad 0)), (1, .int x1), (2, .int x2)]) hx hb dX8_opens_6 rfl hl (by decide) rfl (fun ls hl => ?_)
  refine lv_iload_n hx hb dX8_opens_7 rfl (lv_at hl 0 rfl) ?_
  refine lv_if_eq (tgt := 13) hx hb dX8_opens_8 (by decide) (fun c_4 => ?_) (fun c_4 => ?_)
  · replace h := it_p c_4 h
    refine lv_aload_n hx hb dX8_opens_13 rfl (lv_at hl 1 rfl) ?_
    refine lv_iload_n hx hb dX8_opens_14 rfl (lv_at hl 2 rfl) ?_
    refine lv_iload_n hx hb dX8_opens_15 rfl (lv_at hl 3 rfl) ?_
    obtain ⟨r_6, w_7, e_5, h⟩ := bd_s h
    refine x_goi X hS (x_runV (As := [.int x1, .int x2]) (rest := []) X gM_ok hP hS (ctX8_play l D c3 ad w _ x1 x2 _ _ e_5) (cwV 2 hts gX8_opens_X8_play rfl rfl rfl (by decide +kernel) ⟨by decide, by decide⟩) (gM0 c3 ad w) rfl rfl rfl hl.1 rfl (Nat.le_of_ble_eq_true rfl) dX8_opens_16) (fun H locs hP hS => ?_)
    refine lv_pop hx hb dX8_opens_19 rfl ?_
    refine lv_aload_n hx hb dX8_opens_20 rfl (lv_at hl 1 rfl) ?_
    refine x_get (rest := []) X hP (gM0 c3 ad w_7) rfl iwX8_opens_X8 31 (by decide) lkX8_opens_268 rfl dX8_opens_21 ?_
    obtain ⟨rfl, rfl⟩ := Prod.mk.inj (Option.some.inj h)
    exact hret _ _ _ _ hP hS dX8_opens_24
  · replace h := it_n c_4 h
    refine lv_iload_n hx hb dX8_opens_11 rfl (lv_at hl 0 rfl) ?_
    obtain ⟨rfl, rfl⟩ := Prod.mk.inj (Option.some.inj h)
    exact hret _ _ _ _ hP hS dX8_opens_12
def fX8_opens (x1 : Int32) (x2 : Int32) (w : Mm) : Option (Int32 × Mm) := fX8_opens_E x1 x2 w
theorem ctX8_opens (l : Launch) (D : va_G) (c3 : C3) (ad : Nat → Nat) (w : Mm) (sz : Nat) (x1 : Int32) (x2 : Int32) (r : Int32) (w' : Mm) (h : fX8_opens x1 x2 w = some (r, w')) : Ci l yX8_opens wsX8_opens rmX8_opens D c3 (encM c3 ad) gM [.ref (ad 0), .int x1, .int x2] w sz r w' := by
  refine Ci.of (cc := cX8_opens) (maxL := 4) (encM_ok c3 ad) (by decide) rfl (Nat.le_of_ble_eq_true rfl) ?_
  intro p e s m below meth c A Q ls X hret hP hS hl
  exact bX8_opens_E X hret x1 x2 w _ _ ls hP hS hl h
theorem iwX8_tellParts_X8 : ∀ w ∈ wsX80, w ∈ wsX8_tellParts := fun _ h => List.mem_cons_of_mem _ (List.mem_append_right _ h)
theorem lkX8_tellParts_37 : Cond.fieldLink RX8 37 "StuckDoorModel" "lower" "J" ∈ wsX8_tellParts := by decide +kernel
theorem lkX8_tellParts_240 : Cond.fieldLink RX8 240 "StuckDoorModel" "upper" "J" ∈ wsX8_tellParts := by decide +kernel
def rmX8_tellParts : Room := { frames := 0, cells := 0, slots := 0, locals := 0 }
def fX8_tellParts_6 (y1 : Int64) (y3 : Int64) : Nat → Int64 → Int64 → Mm → Option (Int32 × Mm)
  | 0, _, _, _ => none
  | n + 1, y5, y7, w => (if (lg_cmp y7 0) = 0 then gd (¬ y5 = 0) (nm (sL w 0 13 (y1 / y5)) (fun w_3 => nm (sL w_3 0 14 (y3 / y5)) (fun w_4 => some (1, w_4)))) else gd (¬ y7 = 0) (nm (y5 - y5 / y7 * y7) (fun y9_6 => fX8_tellParts_6 y1 y3 n y7 y9_6 w)))
set_option maxRecDepth 20000 in
theorem bX8_tellParts_6 {p : Program} {l : Launch} {e : Env} {s : State} {m : MethodId} {args : Array Value} {below : List Frame} {meth : Method} {c : Code} {Q : State → Prop} {D : va_G} {c3 : C3} {ad : Nat → Nat} {A : Nat → Prop} {r : Int32} {w' : Mm} (X : Cx p s m args c cX8_tellParts 11 RX8 wsX8_tellParts D c3 (encM c3 ad) gM A) (hret : Ri p l e (rmX8_tellParts) s m args below meth c Q cX8_tellParts D (encM c3 ad) A r w') : ∀ (y1 : Int64) (y3 : Int64) (n : Nat) (y5 : Int64) (y7 : Int64) (w : Mm) (H : Heap) (locs : List Loc) (ls : Array Slot), va_P D vwCl ((encM c3 ad) w) H → va_S A s.heap H locs → lv_has ls 11 [(0, .ref (ad 0)), (1, .long y1), (3, .long y3), (5, .long y5), (7, .long y7)] → fX8_tellParts_6 y1 y3 n y5 y7 w = some (r, w') → W p l e (rmX8_tellParts) s m args below meth c H locs 0 0 Q (F0 m 6 ls []) := by
  have hx := X.1
  have hb := X.2.1
  have hml := X.2.2.1
  have hown := X.2.2.2.1
  have hts := X.2.2.2.2.1
  intro y1 y3 n
  induction n with
  | zero =>
    intro y5 y7 w H locs ls hP hS hl h
    exact absurd h (by simp [fX8_tellParts_6])
  | succ n ih =>
    intro y5 y7 w H locs ls hP hS hl h
    rw [fX8_tellParts_6] at h
    refine lv_lload hx hb dX8_tellParts_6 (lv_at hl 4 rfl) ?_
    refine lv_lconst (v := 0) hx hb dX8_tellParts_8 (by decide) ?_
    refine W.lcmp hx hb dX8_tellParts_9 ?_
    refine lv_if_eq (tgt := 31) hx hb dX8_tellParts_10 (by decide) (fun c_1 => ?_) (fun c_1 => ?_)
    · replace h := it_p c_1 h
      refine lv_aload_n hx hb dX8_tellParts_31 rfl (lv_at hl 0 rfl) ?_
      refine lv_lload_n hx hb dX8_tellParts_32 rfl (lv_at hl 1 rfl) ?_
      refine lv_lload hx hb dX8_tellParts_33 (lv_at hl 3 rfl) ?_
      obtain ⟨g_2, h⟩ := gd_s h
      refine lv_ldiv hx hb dX8_tellParts_35 g_2 ?_
      refine x_put (v := .long (y1 / y5)) X hP hS (gM0 c3 ad w) rfl iwX8_tellParts_X8 tyX8 tyX8_ok nmX8 13 (by decide) lkX8_tellParts_240 rfl rfl rfl (Nat.le_of_ble_eq_true rfl) (pM0_13 c3 ad w (y1 / y5)) dX8_tellParts_36 (fun H locs hP hS => ?_)
      refine x_nmw h hP (fun w_3 h hP => ?_)
      refine lv_aload_n hx hb dX8_tellParts_39 rfl (lv_at hl 0 rfl) ?_
      refine lv_lload_n hx hb dX8_tellParts_40 rfl (lv_at hl 2 rfl) ?_
      refine lv_lload hx hb dX8_tellParts_41 (lv_at hl 3 rfl) ?_
      refine lv_ldiv hx hb dX8_tellParts_43 g_2 ?_
      refine x_put (v := .long (y3 / y5)) X hP hS (gM0 c3 ad w_3) rfl iwX8_tellParts_X8 tyX8 tyX8_ok nmX8 14 (by decide) lkX8_tellParts_37 rfl rfl rfl (Nat.le_of_ble_eq_true rfl) (pM0_14 c3 ad w_3 (y3 / y5)) dX8_tellParts_44 (fun H locs hP hS => ?_)
      refine x_nmw h hP (fun w_4 h hP => ?_)
      refine lv_iconst (v := 1) hx hb dX8_tellParts_47 (by decide) ?_
      obtain ⟨rfl, rfl⟩ := Prod.mk.inj (Option.some.inj h)
      exact hret _ _ _ _ hP hS dX8_tellParts_48
    · replace h := it_n c_1 h
      refine lv_lload hx hb dX8_tellParts_13 (lv_at hl 3 rfl) ?_
      refine lv_lload hx hb dX8_tellParts_15 (lv_at hl 4 rfl) ?_
      obtain ⟨g_5, h⟩ := gd_s h
      refine lv_lrem hx hb dX8_tellParts_17 g_5 ?_
      refine x_nml h (fun y9_6 h => ?_)
      refine lv_lstore (lv' := [(9, .long y9_6), (0, .ref (ad 0)), (1, .long y1), (3, .long y3), (5, .long y5), (7, .long y7)]) hx hb dX8_tellParts_18 hl (by decide) rfl (fun ls hl => ?_)
      refine lv_lload hx hb dX8_tellParts_20 (lv_at hl 5 rfl) ?_
      refine lv_lstore (lv' := [(5, .long y7), (9, .long y9_6), (0, .ref (ad 0)), (1, .long y1), (3, .long y3), (7, .long y7)]) hx hb dX8_tellParts_22 hl (by decide) rfl (fun ls hl => ?_)
      refine lv_lload hx hb dX8_tellParts_24 (lv_at hl 1 rfl) ?_
      refine lv_lstore (lv' := [(7, .long y9_6), (5, .long y7), (9, .long y9_6), (0, .ref (ad 0)), (1, .long y1), (3, .long y3)]) hx hb dX8_tellParts_26 hl (by decide) rfl (fun ls hl => ?_)
      refine lv_goto (tgt := 6) hx hb dX8_tellParts_28 (by decide) ?_
      exact ih y7 y9_6 w _ _ _ hP hS (lv_sub hl [3, 4, 5, 1, 0] rfl) h
def fX8_tellParts_E (y1 : Int64) (y3 : Int64) (w : Mm) : Option (Int32 × Mm) := fX8_tellParts_6 y1 y3 FU y1 y3 w
set_option maxRecDepth 20000 in
theorem bX8_tellParts_E {p : Program} {l : Launch} {e : Env} {s : State} {m : MethodId} {args : Array Value} {below : List Frame} {meth : Method} {c : Code} {Q : State → Prop} {D : va_G} {c3 : C3} {ad : Nat → Nat} {A : Nat → Prop} {r : Int32} {w' : Mm} (X : Cx p s m args c cX8_tellParts 11 RX8 wsX8_tellParts D c3 (encM c3 ad) gM A) (hret : Ri p l e (rmX8_tellParts) s m args below meth c Q cX8_tellParts D (encM c3 ad) A r w') : ∀ (y1 : Int64) (y3 : Int64) (w : Mm) (H : Heap) (locs : List Loc) (ls : Array Slot), va_P D vwCl ((encM c3 ad) w) H → va_S A s.heap H locs → lv_has ls 11 [(0, .ref (ad 0)), (1, .long y1), (3, .long y3)] → fX8_tellParts_E y1 y3 w = some (r, w') → W p l e (rmX8_tellParts) s m args below meth c H locs 0 0 Q (F0 m 0 ls []) := by
  have hx := X.1
  have hb := X.2.1
  have hml := X.2.2.1
  have hown := X.2.2.2.1
  have hts := X.2.2.2.2.1
  intro y1 y3 w H locs ls hP hS hl h
  unfold fX8_tellParts_E at h
  refine lv_lload_n hx hb dX8_tellParts_0 rfl (lv_at hl 1 rfl) ?_
  refine lv_lstore (lv' := [(5, .long y1), (0, .ref (ad 0)), (1, .long y1), (3, .long y3)]) hx hb dX8_tellParts_1 hl (by decide) rfl (fun ls hl => ?_)
  refine lv_lload_n hx hb dX8_tellParts_3 rfl (lv_at hl 3 rfl) ?_
  refine lv_lstore (lv' := [(7, .long y3), (5, .long y1), (0, .ref (ad 0)), (1, .long y1), (3, .long y3)]) hx hb dX8_tellParts_4 hl (by decide) rfl (fun ls hl => ?_)
  exact bX8_tellParts_6 X hret y1 y3 FU y1 y3 w _ _ _ hP hS (lv_sub hl [2, 3, 4, 1, 0] rfl) h
def fX8_tellParts (y1 : Int64) (y3 : Int64) (w : Mm) : Option (Int32 × Mm) := fX8_tellParts_E y1 y3 w
theorem ctX8_tellParts (l : Launch) (D : va_G) (c3 : C3) (ad : Nat → Nat) (w : Mm) (sz : Nat) (y1 : Int64) (y3 : Int64) (r : Int32) (w' : Mm) (h : fX8_tellParts y1 y3 w = some (r, w')) : Ci l yX8_tellParts wsX8_tellParts rmX8_tellParts D c3 (encM c3 ad) gM [.ref (ad 0), .long y1, .long y3] w sz r w' := by
  refine Ci.of (cc := cX8_tellParts) (maxL := 11) (encM_ok c3 ad) (by decide) rfl (Nat.le_of_ble_eq_true rfl) ?_
  intro p e s m below meth c A Q ls X hret hP hS hl
  exact bX8_tellParts_E X hret y1 y3 w _ _ ls hP hS hl h
theorem iwX8_strainBehind_X8 : ∀ w ∈ wsX80, w ∈ wsX8_strainBehind := fun _ h => List.mem_cons_of_mem _ (List.mem_append_right _ h)
theorem lkX8_strainBehind_7 : Cond.fieldLink RX8 7 "StuckDoorModel" "row" "[I" ∈ wsX8_strainBehind := by decide +kernel
def rmX8_strainBehind : Room := { frames := 0, cells := 0, slots := 0, locals := 0 }
def fX8_strainBehind_E (x1 : Int32) (w : Mm) : Option (Int32) := (if (w.1 1 2) ≤ x1 then some 0 else some ((w.1 1 2) - x1))
set_option maxRecDepth 20000 in
theorem bX8_strainBehind_E {p : Program} {l : Launch} {e : Env} {s : State} {m : MethodId} {args : Array Value} {below : List Frame} {meth : Method} {c : Code} {Q : State → Prop} {D : va_G} {c3 : C3} {ad : Nat → Nat} {A : Nat → Prop} {r : Int32} {w : Mm} (X : Cx p s m args c cX8_strainBehind 2 RX8 wsX8_strainBehind D c3 (encM c3 ad) gM A) (hret : Ri p l e (rmX8_strainBehind) s m args below meth c Q cX8_strainBehind D (encM c3 ad) A r w) : ∀ (x1 : Int32) (H : Heap) (locs : List Loc) (ls : Array Slot), va_P D vwCl ((encM c3 ad) w) H → va_S A s.heap H locs → lv_has ls 2 [(0, .ref (ad 0)), (1, .int x1)] → fX8_strainBehind_E x1 w = some r → W p l e (rmX8_strainBehind) s m args below meth c H locs 0 0 Q (F0 m 0 ls []) := by
  have hx := X.1
  have hb := X.2.1
  have hml := X.2.2.1
  have hown := X.2.2.2.1
  have hts := X.2.2.2.2.1
  intro x1 H locs ls hP hS hl h
  unfold fX8_strainBehind_E at h
  refine lv_aload_n hx hb dX8_strainBehind_0 rfl (lv_at hl 0 rfl) ?_
  refine x_get (rest := []) X hP (gM0 c3 ad w) rfl iwX8_strainBehind_X8 0 (by decide) lkX8_strainBehind_7 rfl dX8_strainBehind_1 ?_
  refine lv_iconst (v := 2) hx hb dX8_strainBehind_4 (by decide) ?_
  refine x_ialdL (j := 2) X hP (gM1 c3 ad w) (by decide) rfl dX8_strainBehind_5 ?_
  refine lv_iload_n hx hb dX8_strainBehind_6 rfl (lv_at hl 1 rfl) ?_
  refine lv_icmp_le (tgt := 21) hx hb dX8_strainBehind_7 (by decide) (fun c_1 => ?_) (fun c_1 => ?_)
  · replace h := it_p c_1 h
    refine lv_iconst (v := 0) hx hb dX8_strainBehind_21 (by decide) ?_
    obtain rfl := Option.some.inj h
    exact hret _ _ _ _ hP hS dX8_strainBehind_22
  · replace h := it_n c_1 h
    refine lv_aload_n hx hb dX8_strainBehind_10 rfl (lv_at hl 0 rfl) ?_
    refine x_get (rest := []) X hP (gM0 c3 ad w) rfl iwX8_strainBehind_X8 0 (by decide) lkX8_strainBehind_7 rfl dX8_strainBehind_11 ?_
    refine lv_iconst (v := 2) hx hb dX8_strainBehind_14 (by decide) ?_
    refine x_ialdL (j := 2) X hP (gM1 c3 ad w) (by decide) rfl dX8_strainBehind_15 ?_
    refine lv_iload_n hx hb dX8_strainBehind_16 rfl (lv_at hl 1 rfl) ?_
    refine lv_isub hx hb dX8_strainBehind_17 ?_
    refine lv_goto (tgt := 22) hx hb dX8_strainBehind_18 (by decide) ?_
    obtain rfl := Option.some.inj h
    exact hret _ _ _ _ hP hS dX8_strainBehind_22
def fX8_strainBehind (x1 : Int32) (w : Mm) : Option (Int32) := fX8_strainBehind_E x1 w
theorem ctX8_strainBehind (l : Launch) (D : va_G) (c3 : C3) (ad : Nat → Nat) (w : Mm) (sz : Nat) (x1 : Int32) (r : Int32) (h : fX8_strainBehind x1 w = some r) : Ci l yX8_strainBehind wsX8_strainBehind rmX8_strainBehind D c3 (encM c3 ad) gM [.ref (ad 0), .int x1] w sz r w := by
  refine Ci.of (cc := cX8_strainBehind) (maxL := 2) (encM_ok c3 ad) (by decide) rfl (Nat.le_of_ble_eq_true rfl) ?_
  intro p e s m below meth c A Q ls X hret hP hS hl
  exact bX8_strainBehind_E X hret x1 _ _ ls hP hS hl h
theorem iwX8_layWays_X8 : ∀ w ∈ wsX80, w ∈ wsX8_layWays := fun _ h => List.mem_cons_of_mem _ (List.mem_append_right _ h)
theorem lkX8_layWays_68 : Cond.fieldLink RX8 68 "StuckDoorModel" "ways" "[J" ∈ wsX8_layWays := by decide +kernel
def rmX8_layWays : Room := { frames := 0, cells := 0, slots := 0, locals := 0 }
def fX8_layWays_85 (k31 : Int32 → Mm → Option (Mm)) (k40 : Int32 → Mm → Option (Mm)) (x1 : Int32) (x2 : Int32) (x3 : Int32) (x4 : Int32) (u0 : Int64) (u1 : Int64) (z2 : Int32) (w : Mm) : Option (Mm) := gd (inb z2 13 = true) (nm (sL w 19 z2.toNatClampNeg (u1 + u0)) (fun w_2 => k40 (x4 + (-1)) w_2))
set_option maxRecDepth 20000 in
theorem bX8_layWays_85 {p : Program} {l : Launch} {e : Env} {s : State} {m : MethodId} {args : Array Value} {below : List Frame} {meth : Method} {c : Code} {Q : State → Prop} {D : va_G} {c3 : C3} {ad : Nat → Nat} {A : Nat → Prop} {w' : Mm} (X : Cx p s m args c cX8_layWays 5 RX8 wsX8_layWays D c3 (encM c3 ad) gM A) (hret : Rv p l e (rmX8_layWays) s m args below meth c Q cX8_layWays D (encM c3 ad) A w') {x1 : Int32} {x2 : Int32} {x3 : Int32} {k31 : Int32 → Mm → Option (Mm)} {k40 : Int32 → Mm → Option (Mm)} (hk31 : ∀ (x3 : Int32) (w : Mm) (H : Heap) (locs : List Loc) (ls : Array Slot), va_P D vwCl ((encM c3 ad) w) H → va_S A s.heap H locs → lv_has ls 5 [(0, .ref (ad 0)), (1, .int x1), (2, .int x2), (3, .int x3)] → k31 x3 w = some w' → W p l e (rmX8_layWays) s m args below meth c H locs 0 0 Q (F0 m 31 ls [])) (hk40 : ∀ (x4 : Int32) (w : Mm) (H : Heap) (locs : List Loc) (ls : Array Slot), va_P D vwCl ((encM c3 ad) w) H → va_S A s.heap H locs → lv_has ls 5 [(0, .ref (ad 0)), (1, .int x1), (2, .int x2), (3, .int x3), (4, .int x4)] → k40 x4 w = some w' → W p l e (rmX8_layWays) s m args below meth c H locs 0 0 Q (F0 m 40 ls [])) : ∀ (x4 : Int32) (u0 : Int64) (u1 : Int64) (z2 : Int32) (w : Mm) (H : Heap) (locs : List Loc) (ls : Array Slot), va_P D vwCl ((encM c3 ad) w) H → va_S A s.heap H locs → lv_has ls 5 [(0, .ref (ad 0)), (1, .int x1), (2, .int x2), (3, .int x3), (4, .int x4)] → fX8_layWays_85 k31 k40 x1 x2 x3 x4 u0 u1 z2 w = some w' → W p l e (rmX8_layWays) s m args below meth c H locs 0 0 Q (F0 m 85 ls [.long u0, .long u1, .int z2, .ref (ad 19)]) := by
  have hx := X.1
  have hb := X.2.1
  have hml := X.2.2.1
  have hown := X.2.2.2.1
  have hts := X.2.2.2.2.1
  intro x4 u0 u1 z2 w H locs ls hP hS hl h
  unfold fX8_layWays_85 at h
  refine lv_ladd hx hb dX8_layWays_85 ?_
  obtain ⟨g_1, h⟩ := gd_s h
  refine x_last X hP hS (gM19 c3 ad w) (sM19 c3 ad w _ _) g_1 dX8_layWays_86 (fun H locs hP hS => ?_)
  refine x_nmw h hP (fun w_2 h hP => ?_)
  refine lv_iinc (v := (x4 + (-1))) (lv' := [(4, .int (x4 + (-1))), (0, .ref (ad 0)), (1, .int x1), (2, .int x2), (3, .int x3)]) hx hb dX8_layWays_87 hl (k := 4) rfl rfl (by decide) rfl (fun ls hl => ?_)
  refine lv_goto (tgt := 40) hx hb dX8_layWays_90 (by decide) ?_
  exact hk40 (x4 + (-1)) w_2 _ _ _ hP hS (lv_sub hl [1, 2, 3, 4, 0] rfl) h
def fX8_layWays_40 (k31 : Int32 → Mm → Option (Mm)) (x1 : Int32) (x2 : Int32) (x3 : Int32) : Nat → Int32 → Mm → Option (Mm)
  | 0, _, _ => none
  | n + 1, x4, w => (if x4 < 0 then k31 (x3 + 1) w else gd (inb x4 13 = true) ((if x4 ≤ 0 then fX8_layWays_85 k31 (fX8_layWays_40 k31 x1 x2 x3 n) x1 x2 x3 x4 0 ((w.2.1 19 x4.toNatClampNeg) * x2.toInt64) x4 w else gd (inb (x4 - 1) 13 = true) (fX8_layWays_85 k31 (fX8_layWays_40 k31 x1 x2 x3 n) x1 x2 x3 x4 ((w.2.1 19 (x4 - 1).toNatClampNeg) * ((12 - x2).toInt64)) ((w.2.1 19 x4.toNatClampNeg) * x2.toInt64) x4 w))))
set_option maxRecDepth 20000 in
theorem bX8_layWays_40 {p : Program} {l : Launch} {e : Env} {s : State} {m : MethodId} {args : Array Value} {below : List Frame} {meth : Method} {c : Code} {Q : State → Prop} {D : va_G} {c3 : C3} {ad : Nat → Nat} {A : Nat → Prop} {w' : Mm} (X : Cx p s m args c cX8_layWays 5 RX8 wsX8_layWays D c3 (encM c3 ad) gM A) (hret : Rv p l e (rmX8_layWays) s m args below meth c Q cX8_layWays D (encM c3 ad) A w') {x1 : Int32} {x2 : Int32} {k31 : Int32 → Mm → Option (Mm)} (hk31 : ∀ (x3 : Int32) (w : Mm) (H : Heap) (locs : List Loc) (ls : Array Slot), va_P D vwCl ((encM c3 ad) w) H → va_S A s.heap H locs → lv_has ls 5 [(0, .ref (ad 0)), (1, .int x1), (2, .int x2), (3, .int x3)] → k31 x3 w = some w' → W p l e (rmX8_layWays) s m args below meth c H locs 0 0 Q (F0 m 31 ls [])) : ∀ (x3 : Int32) (n : Nat) (x4 : Int32) (w : Mm) (H : Heap) (locs : List Loc) (ls : Array Slot), va_P D vwCl ((encM c3 ad) w) H → va_S A s.heap H locs → lv_has ls 5 [(0, .ref (ad 0)), (1, .int x1), (2, .int x2), (3, .int x3), (4, .int x4)] → fX8_layWays_40 k31 x1 x2 x3 n x4 w = some w' → W p l e (rmX8_layWays) s m args below meth c H locs 0 0 Q (F0 m 40 ls []) := by
  have hx := X.1
  have hb := X.2.1
  have hml := X.2.2.1
  have hown := X.2.2.2.1
  have hts := X.2.2.2.2.1
  intro x3 n
  induction n with
  | zero =>
    intro x4 w H locs ls hP hS hl h
    exact absurd h (by simp [fX8_layWays_40])
  | succ n ih =>
    intro x4 w H locs ls hP hS hl h
    rw [fX8_layWays_40] at h
    refine lv_iload hx hb dX8_layWays_40 (lv_at hl 4 rfl) ?_
    refine lv_if_lt (tgt := 93) hx hb dX8_layWays_42 (by decide) (fun c_3 => ?_) (fun c_3 => ?_)
    · replace h := it_p c_3 h
      refine lv_iinc (v := (x3 + 1)) (lv' := [(3, .int (x3 + 1)), (0, .ref (ad 0)), (1, .int x1), (2, .int x2), (4, .int x4)]) hx hb dX8_layWays_93 hl (k := 3) rfl rfl (by decide) rfl (fun ls hl => ?_)
      refine lv_goto (tgt := 31) hx hb dX8_layWays_96 (by decide) ?_
      exact hk31 (x3 + 1) w _ _ _ hP hS (lv_sub hl [1, 2, 3, 0] rfl) h
    · replace h := it_n c_3 h
      refine lv_aload_n hx hb dX8_layWays_45 rfl (lv_at hl 0 rfl) ?_
      refine x_get (rest := []) X hP (gM0 c3 ad w) rfl iwX8_layWays_X8 32 (by decide) lkX8_layWays_68 rfl dX8_layWays_46 ?_
      refine lv_iload hx hb dX8_layWays_49 (lv_at hl 4 rfl) ?_
      refine lv_aload_n hx hb dX8_layWays_51 rfl (lv_at hl 0 rfl) ?_
      refine x_get (rest := [.int x4, .ref (ad 19)]) X hP (gM0 c3 ad w) rfl iwX8_layWays_X8 32 (by decide) lkX8_layWays_68 rfl dX8_layWays_52 ?_
      refine lv_iload hx hb dX8_layWays_55 (lv_at hl 4 rfl) ?_
      obtain ⟨g_4, h⟩ := gd_s h
      refine x_lald X hP (gM19 c3 ad w) g_4 dX8_layWays_57 ?_
      refine lv_iload_n hx hb dX8_layWays_58 rfl (lv_at hl 2 rfl) ?_
      refine lv_i2l (v := x2.toInt64) hx hb dX8_layWays_59 rfl ?_
      refine lv_lmul hx hb dX8_layWays_60 ?_
      refine lv_iload hx hb dX8_layWays_61 (lv_at hl 4 rfl) ?_
      refine lv_if_le (tgt := 84) hx hb dX8_layWays_63 (by decide) (fun c_5 => ?_) (fun c_5 => ?_)
      · replace h := it_p c_5 h
        refine lv_lconst (v := 0) hx hb dX8_layWays_84 (by decide) ?_
        exact bX8_layWays_85 (x1 := x1) (x2 := x2) (x3 := x3) (k31 := k31) (k40 := (fX8_layWays_40 k31 x1 x2 x3 n)) X hret hk31 ih x4 0 ((w.2.1 19 x4.toNatClampNeg) * x2.toInt64) x4 w _ _ _ hP hS (lv_sub hl [0, 1, 2, 3, 4] rfl) h
      · replace h := it_n c_5 h
        refine lv_aload_n hx hb dX8_layWays_66 rfl (lv_at hl 0 rfl) ?_
        refine x_get (rest := [.long ((w.2.1 19 x4.toNatClampNeg) * x2.toInt64), .int x4, .ref (ad 19)]) X hP (gM0 c3 ad w) rfl iwX8_layWays_X8 32 (by decide) lkX8_layWays_68 rfl dX8_layWays_67 ?_
        refine lv_iload hx hb dX8_layWays_70 (lv_at hl 4 rfl) ?_
        refine lv_iconst (v := 1) hx hb dX8_layWays_72 (by decide) ?_
        refine lv_isub hx hb dX8_layWays_73 ?_
        obtain ⟨g_6, h⟩ := gd_s h
        refine x_lald X hP (gM19 c3 ad w) g_6 dX8_layWays_74 ?_
        refine lv_bipush (v := 12) hx hb dX8_layWays_75 (by decide) ?_
        refine lv_iload_n hx hb dX8_layWays_77 rfl (lv_at hl 2 rfl) ?_
        refine lv_isub hx hb dX8_layWays_78 ?_
        refine lv_i2l (v := (12 - x2).toInt64) hx hb dX8_layWays_79 rfl ?_
        refine lv_lmul hx hb dX8_layWays_80 ?_
        refine lv_goto (tgt := 85) hx hb dX8_layWays_81 (by decide) ?_
        exact bX8_layWays_85 (x1 := x1) (x2 := x2) (x3 := x3) (k31 := k31) (k40 := (fX8_layWays_40 k31 x1 x2 x3 n)) X hret hk31 ih x4 ((w.2.1 19 (x4 - 1).toNatClampNeg) * ((12 - x2).toInt64)) ((w.2.1 19 x4.toNatClampNeg) * x2.toInt64) x4 w _ _ _ hP hS (lv_sub hl [0, 1, 2, 3, 4] rfl) h
def fX8_layWays_31 (x1 : Int32) (x2 : Int32) : Nat → Int32 → Mm → Option (Mm)
  | 0, _, _ => none
  | n + 1, x3, w => (if x1 ≤ x3 then some w else fX8_layWays_40 (fX8_layWays_31 x1 x2 n) x1 x2 x3 FU 12 w)
set_option maxRecDepth 20000 in
theorem bX8_layWays_31 {p : Program} {l : Launch} {e : Env} {s : State} {m : MethodId} {args : Array Value} {below : List Frame} {meth : Method} {c : Code} {Q : State → Prop} {D : va_G} {c3 : C3} {ad : Nat → Nat} {A : Nat → Prop} {w' : Mm} (X : Cx p s m args c cX8_layWays 5 RX8 wsX8_layWays D c3 (encM c3 ad) gM A) (hret : Rv p l e (rmX8_layWays) s m args below meth c Q cX8_layWays D (encM c3 ad) A w') : ∀ (x1 : Int32) (x2 : Int32) (n : Nat) (x3 : Int32) (w : Mm) (H : Heap) (locs : List Loc) (ls : Array Slot), va_P D vwCl ((encM c3 ad) w) H → va_S A s.heap H locs → lv_has ls 5 [(0, .ref (ad 0)), (1, .int x1), (2, .int x2), (3, .int x3)] → fX8_layWays_31 x1 x2 n x3 w = some w' → W p l e (rmX8_layWays) s m args below meth c H locs 0 0 Q (F0 m 31 ls []) := by
  have hx := X.1
  have hb := X.2.1
  have hml := X.2.2.1
  have hown := X.2.2.2.1
  have hts := X.2.2.2.2.1
  intro x1 x2 n
  induction n with
  | zero =>
    intro x3 w H locs ls hP hS hl h
    exact absurd h (by simp [fX8_layWays_31])
  | succ n ih =>
    intro x3 w H locs ls hP hS hl h
    rw [fX8_layWays_31] at h
    refine lv_iload_n hx hb dX8_layWays_31 rfl (lv_at hl 3 rfl) ?_
    refine lv_iload_n hx hb dX8_layWays_32 rfl (lv_at hl 1 rfl) ?_
    refine lv_icmp_ge (tgt := 99) hx hb dX8_layWays_33 (by decide) (fun c_7 => ?_) (fun c_7 => ?_)
    · replace h := it_p c_7 h
      obtain rfl := Option.some.inj h
      exact hret _ _ _ _ hP hS dX8_layWays_99
    · replace h := it_n c_7 h
      refine lv_bipush (v := 12) hx hb dX8_layWays_36 (by decide) ?_
      refine lv_istore (lv' := [(4, .int 12), (0, .ref (ad 0)), (1, .int x1), (2, .int x2), (3, .int x3)]) hx hb dX8_layWays_38 hl (by decide) rfl (fun ls hl => ?_)
      exact bX8_layWays_40 (x1 := x1) (x2 := x2) (k31 := (fX8_layWays_31 x1 x2 n)) X hret ih x3 FU 12 w _ _ _ hP hS (lv_sub hl [1, 2, 3, 4, 0] rfl) h
def fX8_layWays_22 (k2 : Int32 → Mm → Option (Mm)) (x1 : Int32) (x2 : Int32) (x3 : Int32) (u0 : Int64) (z1 : Int32) (w : Mm) : Option (Mm) := gd (inb z1 13 = true) (nm (sL w 19 z1.toNatClampNeg u0) (fun w_9 => k2 (x3 + 1) w_9))
set_option maxRecDepth 20000 in
theorem bX8_layWays_22 {p : Program} {l : Launch} {e : Env} {s : State} {m : MethodId} {args : Array Value} {below : List Frame} {meth : Method} {c : Code} {Q : State → Prop} {D : va_G} {c3 : C3} {ad : Nat → Nat} {A : Nat → Prop} {w' : Mm} (X : Cx p s m args c cX8_layWays 5 RX8 wsX8_layWays D c3 (encM c3 ad) gM A) (hret : Rv p l e (rmX8_layWays) s m args below meth c Q cX8_layWays D (encM c3 ad) A w') {x1 : Int32} {x2 : Int32} {k2 : Int32 → Mm → Option (Mm)} (hk2 : ∀ (x3 : Int32) (w : Mm) (H : Heap) (locs : List Loc) (ls : Array Slot), va_P D vwCl ((encM c3 ad) w) H → va_S A s.heap H locs → lv_has ls 5 [(0, .ref (ad 0)), (1, .int x1), (2, .int x2), (3, .int x3)] → k2 x3 w = some w' → W p l e (rmX8_layWays) s m args below meth c H locs 0 0 Q (F0 m 2 ls [])) : ∀ (x3 : Int32) (u0 : Int64) (z1 : Int32) (w : Mm) (H : Heap) (locs : List Loc) (ls : Array Slot), va_P D vwCl ((encM c3 ad) w) H → va_S A s.heap H locs → lv_has ls 5 [(0, .ref (ad 0)), (1, .int x1), (2, .int x2), (3, .int x3)] → fX8_layWays_22 k2 x1 x2 x3 u0 z1 w = some w' → W p l e (rmX8_layWays) s m args below meth c H locs 0 0 Q (F0 m 22 ls [.long u0, .int z1, .ref (ad 19)]) := by
  have hx := X.1
  have hb := X.2.1
  have hml := X.2.2.1
  have hown := X.2.2.2.1
  have hts := X.2.2.2.2.1
  intro x3 u0 z1 w H locs ls hP hS hl h
  unfold fX8_layWays_22 at h
  obtain ⟨g_8, h⟩ := gd_s h
  refine x_last X hP hS (gM19 c3 ad w) (sM19 c3 ad w _ _) g_8 dX8_layWays_22 (fun H locs hP hS => ?_)
  refine x_nmw h hP (fun w_9 h hP => ?_)
  refine lv_iinc (v := (x3 + 1)) (lv' := [(3, .int (x3 + 1)), (0, .ref (ad 0)), (1, .int x1), (2, .int x2)]) hx hb dX8_layWays_23 hl (k := 3) rfl rfl (by decide) rfl (fun ls hl => ?_)
  refine lv_goto (tgt := 2) hx hb dX8_layWays_26 (by decide) ?_
  exact hk2 (x3 + 1) w_9 _ _ _ hP hS (lv_sub hl [1, 2, 3, 0] rfl) h
def fX8_layWays_2 (x1 : Int32) (x2 : Int32) : Nat → Int32 → Mm → Option (Mm)
  | 0, _, _ => none
  | n + 1, x3, w => (if 13 ≤ x3 then fX8_layWays_31 x1 x2 FU 0 w else (if x3 = 0 then fX8_layWays_22 (fX8_layWays_2 x1 x2 n) x1 x2 x3 1 x3 w else fX8_layWays_22 (fX8_layWays_2 x1 x2 n) x1 x2 x3 0 x3 w))
set_option maxRecDepth 20000 in
theorem bX8_layWays_2 {p : Program} {l : Launch} {e : Env} {s : State} {m : MethodId} {args : Array Value} {below : List Frame} {meth : Method} {c : Code} {Q : State → Prop} {D : va_G} {c3 : C3} {ad : Nat → Nat} {A : Nat → Prop} {w' : Mm} (X : Cx p s m args c cX8_layWays 5 RX8 wsX8_layWays D c3 (encM c3 ad) gM A) (hret : Rv p l e (rmX8_layWays) s m args below meth c Q cX8_layWays D (encM c3 ad) A w') : ∀ (x1 : Int32) (x2 : Int32) (n : Nat) (x3 : Int32) (w : Mm) (H : Heap) (locs : List Loc) (ls : Array Slot), va_P D vwCl ((encM c3 ad) w) H → va_S A s.heap H locs → lv_has ls 5 [(0, .ref (ad 0)), (1, .int x1), (2, .int x2), (3, .int x3)] → fX8_layWays_2 x1 x2 n x3 w = some w' → W p l e (rmX8_layWays) s m args below meth c H locs 0 0 Q (F0 m 2 ls []) := by
  have hx := X.1
  have hb := X.2.1
  have hml := X.2.2.1
  have hown := X.2.2.2.1
  have hts := X.2.2.2.2.1
  intro x1 x2 n
  induction n with
  | zero =>
    intro x3 w H locs ls hP hS hl h
    exact absurd h (by simp [fX8_layWays_2])
  | succ n ih =>
    intro x3 w H locs ls hP hS hl h
    rw [fX8_layWays_2] at h
    refine lv_iload_n hx hb dX8_layWays_2 rfl (lv_at hl 3 rfl) ?_
    refine lv_bipush (v := 13) hx hb dX8_layWays_3 (by decide) ?_
    refine lv_icmp_ge (tgt := 29) hx hb dX8_layWays_5 (by decide) (fun c_10 => ?_) (fun c_10 => ?_)
    · replace h := it_p c_10 h
      refine lv_iconst (v := 0) hx hb dX8_layWays_29 (by decide) ?_
      refine lv_istore_n (lv' := [(3, .int 0), (0, .ref (ad 0)), (1, .int x1), (2, .int x2)]) hx hb dX8_layWays_30 rfl hl (by decide) rfl (fun ls hl => ?_)
      exact bX8_layWays_31 X hret x1 x2 FU 0 w _ _ _ hP hS (lv_sub hl [1, 2, 3, 0] rfl) h
    · replace h := it_n c_10 h
      refine lv_aload_n hx hb dX8_layWays_8 rfl (lv_at hl 0 rfl) ?_
      refine x_get (rest := []) X hP (gM0 c3 ad w) rfl iwX8_layWays_X8 32 (by decide) lkX8_layWays_68 rfl dX8_layWays_9 ?_
      refine lv_iload_n hx hb dX8_layWays_12 rfl (lv_at hl 3 rfl) ?_
      refine lv_iload_n hx hb dX8_layWays_13 rfl (lv_at hl 3 rfl) ?_
      refine lv_if_ne (tgt := 21) hx hb dX8_layWays_14 (by decide) (fun c_11 => ?_) (fun c_11 => ?_)
      · replace h := it_n c_11 h
        refine lv_lconst (v := 0) hx hb dX8_layWays_21 (by decide) ?_
        exact bX8_layWays_22 (x1 := x1) (x2 := x2) (k2 := (fX8_layWays_2 x1 x2 n)) X hret ih x3 0 x3 w _ _ _ hP hS (lv_sub hl [0, 1, 2, 3] rfl) h
      · replace h := it_p c_11 h
        refine lv_lconst (v := 1) hx hb dX8_layWays_17 (by decide) ?_
        refine lv_goto (tgt := 22) hx hb dX8_layWays_18 (by decide) ?_
        exact bX8_layWays_22 (x1 := x1) (x2 := x2) (k2 := (fX8_layWays_2 x1 x2 n)) X hret ih x3 1 x3 w _ _ _ hP hS (lv_sub hl [0, 1, 2, 3] rfl) h
def fX8_layWays_E (x1 : Int32) (x2 : Int32) (w : Mm) : Option (Mm) := fX8_layWays_2 x1 x2 FU 0 w
set_option maxRecDepth 20000 in
theorem bX8_layWays_E {p : Program} {l : Launch} {e : Env} {s : State} {m : MethodId} {args : Array Value} {below : List Frame} {meth : Method} {c : Code} {Q : State → Prop} {D : va_G} {c3 : C3} {ad : Nat → Nat} {A : Nat → Prop} {w' : Mm} (X : Cx p s m args c cX8_layWays 5 RX8 wsX8_layWays D c3 (encM c3 ad) gM A) (hret : Rv p l e (rmX8_layWays) s m args below meth c Q cX8_layWays D (encM c3 ad) A w') : ∀ (x1 : Int32) (x2 : Int32) (w : Mm) (H : Heap) (locs : List Loc) (ls : Array Slot), va_P D vwCl ((encM c3 ad) w) H → va_S A s.heap H locs → lv_has ls 5 [(0, .ref (ad 0)), (1, .int x1), (2, .int x2)] → fX8_layWays_E x1 x2 w = some w' → W p l e (rmX8_layWays) s m args below meth c H locs 0 0 Q (F0 m 0 ls []) := by
  have hx := X.1
  have hb := X.2.1
  have hml := X.2.2.1
  have hown := X.2.2.2.1
  have hts := X.2.2.2.2.1
  intro x1 x2 w H locs ls hP hS hl h
  unfold fX8_layWays_E at h
  refine lv_iconst (v := 0) hx hb dX8_layWays_0 (by decide) ?_
  refine lv_istore_n (lv' := [(3, .int 0), (0, .ref (ad 0)), (1, .int x1), (2, .int x2)]) hx hb dX8_layWays_1 rfl hl (by decide) rfl (fun ls hl => ?_)
  exact bX8_layWays_2 X hret x1 x2 FU 0 w _ _ _ hP hS (lv_sub hl [1, 2, 3, 0] rfl) h
def fX8_layWays (x1 : Int32) (x2 : Int32) (w : Mm) : Option (Mm) := fX8_layWays_E x1 x2 w
theorem ctX8_layWays (l : Launch) (D : va_G) (c3 : C3) (ad : Nat → Nat) (w : Mm) (sz : Nat) (x1 : Int32) (x2 : Int32) (w' : Mm) (h : fX8_layWays x1 x2 w = some w') : Cv l yX8_layWays wsX8_layWays rmX8_layWays D c3 (encM c3 ad) gM [.ref (ad 0), .int x1, .int x2] w sz w' := by
  refine Cv.of (cc := cX8_layWays) (maxL := 5) (encM_ok c3 ad) (by decide) rfl (Nat.le_of_ble_eq_true rfl) ?_
  intro p e s m below meth c A Q ls X hret hP hS hl
  exact bX8_layWays_E X hret x1 x2 w _ _ ls hP hS hl h
theorem iwX8_mid_X8 : ∀ w ∈ wsX80, w ∈ wsX8_mid := fun _ h => List.mem_cons_of_mem _ (List.mem_append_right _ h)
theorem lkX8_mid_68 : Cond.fieldLink RX8 68 "StuckDoorModel" "ways" "[J" ∈ wsX8_mid := by decide +kernel
theorem lkX8_mid_167 : Cond.fieldLink RX8 167 "StuckDoorModel" "sayings" "I" ∈ wsX8_mid := by decide +kernel
def rmX8_mid : Room := { frames := 1, cells := 0, slots := 0, locals := 30 }
def fX8_mid_50 : Nat → Int64 → Int64 → Int32 → Mm → Option (Int32 × Mm)
  | 0, _, _, _, _ => none
  | n + 1, y3, y5, x7, w => (if 13 ≤ x7 then bd (fX8_tellParts y3 y5 w) (fun r_3 w_4 => some (r_3, w_4)) else gd (inb x7 13 = true) (bo (fX8_strainBehind x7 w) (fun r_7 => nm (y3 + ((w.2.1 19 x7.toNatClampNeg) * r_7.toInt64)) (fun y3_9 => nm (y5 + (w.2.1 19 x7.toNatClampNeg)) (fun y5_10 => fX8_mid_50 n y3_9 y5_10 (x7 + 1) w)))))
set_option maxRecDepth 20000 in
theorem bX8_mid_50 {p : Program} {l : Launch} {e : Env} {s : State} {m : MethodId} {args : Array Value} {below : List Frame} {meth : Method} {c : Code} {Q : State → Prop} {D : va_G} {c3 : C3} {ad : Nat → Nat} {A : Nat → Prop} {r : Int32} {w' : Mm} (X : Cx p s m args c cX8_mid 8 RX8 wsX8_mid D c3 (encM c3 ad) gM A) (hret : Ri p l e (rmX8_mid) s m args below meth c Q cX8_mid D (encM c3 ad) A r w') : ∀ (n : Nat) (y3 : Int64) (y5 : Int64) (x7 : Int32) (w : Mm) (H : Heap) (locs : List Loc) (ls : Array Slot), va_P D vwCl ((encM c3 ad) w) H → va_S A s.heap H locs → lv_has ls 8 [(0, .ref (ad 0)), (3, .long y3), (5, .long y5), (7, .int x7)] → fX8_mid_50 n y3 y5 x7 w = some (r, w') → W p l e (rmX8_mid) s m args below meth c H locs 0 0 Q (F0 m 50 ls []) := by
  have hx := X.1
  have hb := X.2.1
  have hml := X.2.2.1
  have hown := X.2.2.2.1
  have hts := X.2.2.2.2.1
  intro n
  induction n with
  | zero =>
    intro y3 y5 x7 w H locs ls hP hS hl h
    exact absurd h (by simp [fX8_mid_50])
  | succ n ih =>
    intro y3 y5 x7 w H locs ls hP hS hl h
    rw [fX8_mid_50] at h
    refine lv_iload hx hb dX8_mid_50 (lv_at hl 3 rfl) ?_
    refine lv_bipush (v := 13) hx hb dX8_mid_52 (by decide) ?_
    refine lv_icmp_ge (tgt := 93) hx hb dX8_mid_54 (by decide) (fun c_1 => ?_) (fun c_1 => ?_)
    · replace h := it_p c_1 h
      refine lv_aload_n hx hb dX8_mid_93 rfl (lv_at hl 0 rfl) ?_
      refine lv_lload_n hx hb dX8_mid_94 rfl (lv_at hl 1 rfl) ?_
      refine lv_lload hx hb dX8_mid_95 (lv_at hl 2 rfl) ?_
      obtain ⟨r_3, w_4, e_2, h⟩ := bd_s h
      refine x_goi X hS (x_runV (As := [.long y3, .long y5]) (rest := []) X gM_ok hP hS (ctX8_tellParts l D c3 ad w _ y3 y5 _ _ e_2) (cwV 2 hts gX8_mid_X8_tellParts rfl rfl rfl (by decide +kernel) ⟨by decide, by decide⟩) (gM0 c3 ad w) rfl rfl rfl hl.1 rfl (Nat.le_of_ble_eq_true rfl) dX8_mid_97) (fun H locs hP hS => ?_)
      obtain ⟨rfl, rfl⟩ := Prod.mk.inj (Option.some.inj h)
      exact hret _ _ _ _ hP hS dX8_mid_100
    · replace h := it_n c_1 h
      refine lv_lload_n hx hb dX8_mid_57 rfl (lv_at hl 1 rfl) ?_
      refine lv_aload_n hx hb dX8_mid_58 rfl (lv_at hl 0 rfl) ?_
      refine x_get (rest := [.long y3]) X hP (gM0 c3 ad w) rfl iwX8_mid_X8 32 (by decide) lkX8_mid_68 rfl dX8_mid_59 ?_
      refine lv_iload hx hb dX8_mid_62 (lv_at hl 3 rfl) ?_
      obtain ⟨g_5, h⟩ := gd_s h
      refine x_lald X hP (gM19 c3 ad w) g_5 dX8_mid_64 ?_
      refine lv_aload_n hx hb dX8_mid_65 rfl (lv_at hl 0 rfl) ?_
      refine lv_iload hx hb dX8_mid_66 (lv_at hl 3 rfl) ?_
      obtain ⟨r_7, e_6, h⟩ := bo_s h
      refine x_goi X hS (x_runV (As := [.int x7]) (rest := [.long (w.2.1 19 x7.toNatClampNeg), .long y3]) X gM_ok hP hS (ctX8_strainBehind l D c3 ad w _ x7 _ e_6) (cwV 1 hts gX8_mid_X8_strainBehind rfl rfl rfl (by decide +kernel) ⟨by decide, by decide⟩) (gM0 c3 ad w) rfl rfl rfl hl.1 rfl (Nat.le_of_ble_eq_true rfl) dX8_mid_68) (fun H locs hP hS => ?_)
      refine lv_i2l (v := r_7.toInt64) hx hb dX8_mid_71 rfl ?_
      refine lv_lmul hx hb dX8_mid_72 ?_
      refine lv_ladd hx hb dX8_mid_73 ?_
      refine x_nml h (fun y3_9 h => ?_)
      refine lv_lstore_n (lv' := [(3, .long y3_9), (0, .ref (ad 0)), (5, .long y5), (7, .int x7)]) hx hb dX8_mid_74 rfl hl (by decide) rfl (fun ls hl => ?_)
      refine lv_lload hx hb dX8_mid_75 (lv_at hl 2 rfl) ?_
      refine lv_aload_n hx hb dX8_mid_77 rfl (lv_at hl 1 rfl) ?_
      refine x_get (rest := [.long y5]) X hP (gM0 c3 ad w) rfl iwX8_mid_X8 32 (by decide) lkX8_mid_68 rfl dX8_mid_78 ?_
      refine lv_iload hx hb dX8_mid_81 (lv_at hl 3 rfl) ?_
      refine x_lald X hP (gM19 c3 ad w) g_5 dX8_mid_83 ?_
      refine lv_ladd hx hb dX8_mid_84 ?_
      refine x_nml h (fun y5_10 h => ?_)
      refine lv_lstore (lv' := [(5, .long y5_10), (3, .long y3_9), (0, .ref (ad 0)), (7, .int x7)]) hx hb dX8_mid_85 hl (by decide) rfl (fun ls hl => ?_)
      refine lv_iinc (v := (x7 + 1)) (lv' := [(7, .int (x7 + 1)), (5, .long y5_10), (3, .long y3_9), (0, .ref (ad 0))]) hx hb dX8_mid_87 hl (k := 3) rfl rfl (by decide) rfl (fun ls hl => ?_)
      refine lv_goto (tgt := 50) hx hb dX8_mid_90 (by decide) ?_
      exact ih y3_9 y5_10 (x7 + 1) w _ _ _ hP hS (lv_sub hl [3, 2, 1, 0] rfl) h
def fX8_mid_E (x1 : Int32) (x2 : Int32) (w : Mm) : Option (Int32 × Mm) := bo (fX8_in x1.toInt64 0 12) (fun r_12 => (if r_12 = 0 then some ((-1), w) else bo (fX8_in x2.toInt64 0 12) (fun r_16 => (if r_16 = 0 then some ((-1), w) else (if (w.1 0 3) = 0 then some ((-4), w) else bo (fX8_layWays x1 x2 w) (fun w_22 => fX8_mid_50 FU 0 0 0 w_22))))))
set_option maxRecDepth 20000 in
theorem bX8_mid_E {p : Program} {l : Launch} {e : Env} {s : State} {m : MethodId} {args : Array Value} {below : List Frame} {meth : Method} {c : Code} {Q : State → Prop} {D : va_G} {c3 : C3} {ad : Nat → Nat} {A : Nat → Prop} {r : Int32} {w' : Mm} (X : Cx p s m args c cX8_mid 8 RX8 wsX8_mid D c3 (encM c3 ad) gM A) (hret : Ri p l e (rmX8_mid) s m args below meth c Q cX8_mid D (encM c3 ad) A r w') : ∀ (x1 : Int32) (x2 : Int32) (w : Mm) (H : Heap) (locs : List Loc) (ls : Array Slot), va_P D vwCl ((encM c3 ad) w) H → va_S A s.heap H locs → lv_has ls 8 [(0, .ref (ad 0)), (1, .int x1), (2, .int x2)] → fX8_mid_E x1 x2 w = some (r, w') → W p l e (rmX8_mid) s m args below meth c H locs 0 0 Q (F0 m 0 ls []) := by
  have hx := X.1
  have hb := X.2.1
  have hml := X.2.2.1
  have hown := X.2.2.2.1
  have hts := X.2.2.2.2.1
  intro x1 x2 w H locs ls hP hS hl h
  unfold fX8_mid_E at h
  refine lv_iload_n hx hb dX8_mid_0 rfl (lv_at hl 1 rfl) ?_
  refine lv_i2l (v := x1.toInt64) hx hb dX8_mid_1 rfl ?_
  refine lv_lconst (v := 0) hx hb dX8_mid_2 (by decide) ?_
  refine lv_ldc2 (v := 12) hx hb hown (hts (.constantLong RX8 284 (12)) (by decide +kernel)) dX8_mid_3 ?_
  obtain ⟨r_12, e_11, h⟩ := bo_s h
  refine x_goi X hS (x_runS (As := [.long x1.toInt64, .long 0, .long 12]) (rest := []) X gM_ok hP hS (ctX8_in l D c3 ad w _ x1.toInt64 0 12 _ e_11) (va_cwS 3 hts gX8_mid_X8_in rfl rfl rfl (by decide +kernel) ⟨by decide, by decide⟩) rfl hl.1 rfl (Nat.le_of_ble_eq_true rfl) dX8_mid_6) (fun H locs hP hS => ?_)
  refine lv_if_eq (tgt := 24) hx hb dX8_mid_9 (by decide) (fun c_14 => ?_) (fun c_14 => ?_)
  · replace h := it_p c_14 h
    refine lv_iconst (v := (-1)) hx hb dX8_mid_24 (by decide) ?_
    obtain ⟨rfl, rfl⟩ := Prod.mk.inj (Option.some.inj h)
    exact hret _ _ _ _ hP hS dX8_mid_25
  · replace h := it_n c_14 h
    refine lv_iload_n hx hb dX8_mid_12 rfl (lv_at hl 2 rfl) ?_
    refine lv_i2l (v := x2.toInt64) hx hb dX8_mid_13 rfl ?_
    refine lv_lconst (v := 0) hx hb dX8_mid_14 (by decide) ?_
    refine lv_ldc2 (v := 12) hx hb hown (hts (.constantLong RX8 284 (12)) (by decide +kernel)) dX8_mid_15 ?_
    obtain ⟨r_16, e_15, h⟩ := bo_s h
    refine x_goi X hS (x_runS (As := [.long x2.toInt64, .long 0, .long 12]) (rest := []) X gM_ok hP hS (ctX8_in l D c3 ad w _ x2.toInt64 0 12 _ e_15) (va_cwS 3 hts gX8_mid_X8_in rfl rfl rfl (by decide +kernel) ⟨by decide, by decide⟩) rfl hl.1 rfl (Nat.le_of_ble_eq_true rfl) dX8_mid_18) (fun H locs hP hS => ?_)
    refine lv_if_ne (tgt := 26) hx hb dX8_mid_21 (by decide) (fun c_18 => ?_) (fun c_18 => ?_)
    · replace h := it_n c_18 h
      refine lv_aload_n hx hb dX8_mid_26 rfl (lv_at hl 0 rfl) ?_
      refine x_get (rest := []) X hP (gM0 c3 ad w) rfl iwX8_mid_X8 3 (by decide) lkX8_mid_167 rfl dX8_mid_27 ?_
      refine lv_if_ne (tgt := 36) hx hb dX8_mid_30 (by decide) (fun c_19 => ?_) (fun c_19 => ?_)
      · replace h := it_n c_19 h
        refine lv_aload_n hx hb dX8_mid_36 rfl (lv_at hl 0 rfl) ?_
        refine lv_iload_n hx hb dX8_mid_37 rfl (lv_at hl 1 rfl) ?_
        refine lv_iload_n hx hb dX8_mid_38 rfl (lv_at hl 2 rfl) ?_
        obtain ⟨w_22, e_20, h⟩ := bo_s h
        refine x_gov X hS (x_runV (As := [.int x1, .int x2]) (rest := []) X gM_ok hP hS (ctX8_layWays l D c3 ad w _ x1 x2 _ e_20) (cwV 2 hts gX8_mid_X8_layWays rfl rfl rfl (by decide +kernel) ⟨by decide, by decide⟩) (gM0 c3 ad w) rfl rfl rfl hl.1 rfl (Nat.le_of_ble_eq_true rfl) dX8_mid_39) (fun H locs hP hS => ?_)
        refine lv_lconst (v := 0) hx hb dX8_mid_42 (by decide) ?_
        refine lv_lstore_n (lv' := [(3, .long 0), (0, .ref (ad 0)), (1, .int x1), (2, .int x2)]) hx hb dX8_mid_43 rfl hl (by decide) rfl (fun ls hl => ?_)
        refine lv_lconst (v := 0) hx hb dX8_mid_44 (by decide) ?_
        refine lv_lstore (lv' := [(5, .long 0), (3, .long 0), (0, .ref (ad 0)), (1, .int x1), (2, .int x2)]) hx hb dX8_mid_45 hl (by decide) rfl (fun ls hl => ?_)
        refine lv_iconst (v := 0) hx hb dX8_mid_47 (by decide) ?_
        refine lv_istore (lv' := [(7, .int 0), (5, .long 0), (3, .long 0), (0, .ref (ad 0)), (1, .int x1), (2, .int x2)]) hx hb dX8_mid_48 hl (by decide) rfl (fun ls hl => ?_)
        exact bX8_mid_50 X hret FU 0 0 0 w_22 _ _ _ hP hS (lv_sub hl [3, 2, 1, 0] rfl) h
      · replace h := it_p c_19 h
        refine lv_bipush (v := (-4)) hx hb dX8_mid_33 (by decide) ?_
        obtain ⟨rfl, rfl⟩ := Prod.mk.inj (Option.some.inj h)
        exact hret _ _ _ _ hP hS dX8_mid_35
    · replace h := it_p c_18 h
      refine lv_iconst (v := (-1)) hx hb dX8_mid_24 (by decide) ?_
      obtain ⟨rfl, rfl⟩ := Prod.mk.inj (Option.some.inj h)
      exact hret _ _ _ _ hP hS dX8_mid_25
def fX8_mid (x1 : Int32) (x2 : Int32) (w : Mm) : Option (Int32 × Mm) := fX8_mid_E x1 x2 w
theorem ctX8_mid (l : Launch) (D : va_G) (c3 : C3) (ad : Nat → Nat) (w : Mm) (sz : Nat) (x1 : Int32) (x2 : Int32) (r : Int32) (w' : Mm) (h : fX8_mid x1 x2 w = some (r, w')) : Ci l yX8_mid wsX8_mid rmX8_mid D c3 (encM c3 ad) gM [.ref (ad 0), .int x1, .int x2] w sz r w' := by
  refine Ci.of (cc := cX8_mid) (maxL := 8) (encM_ok c3 ad) (by decide) rfl (Nat.le_of_ble_eq_true rfl) ?_
  intro p e s m below meth c A Q ls X hret hP hS hl
  exact bX8_mid_E X hret x1 x2 w _ _ ls hP hS hl h

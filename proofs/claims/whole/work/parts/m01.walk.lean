def rmX8_in : Room := { frames := 0, cells := 0, slots := 0, locals := 0 }
def fX8_in_E (y0 : Int64) (y2 : Int64) (y4 : Int64) : Option (Int32) := (if (lg_cmp y0 y2) < 0 then some 0 else (if 0 < (lg_cmp y0 y4) then some 0 else some 1))
set_option maxRecDepth 20000 in
theorem bX8_in_E {p : Program} {l : Launch} {e : Env} {s : State} {m : MethodId} {args : Array Value} {below : List Frame} {meth : Method} {c : Code} {Q : State → Prop} {D : va_G} {c3 : C3} {ad : Nat → Nat} {A : Nat → Prop} {r : Int32} {w : Mm} (X : Cx p s m args c cX8_in 6 RX8 wsX8_in D c3 (encM c3 ad) gM A) (hret : Rz p l e (rmX8_in) s m args below meth c Q cX8_in D (encM c3 ad) A r w) : ∀ (y0 : Int64) (y2 : Int64) (y4 : Int64) (H : Heap) (locs : List Loc) (ls : Array Slot), va_P D vwCl ((encM c3 ad) w) H → va_S A s.heap H locs → lv_has ls 6 [(0, .long y0), (2, .long y2), (4, .long y4)] → fX8_in_E y0 y2 y4 = some r → W p l e (rmX8_in) s m args below meth c H locs 0 0 Q (F0 m 0 ls []) := by
  have hx := X.1
  have hb := X.2.1
  have hml := X.2.2.1
  have hown := X.2.2.2.1
  have hts := X.2.2.2.2.1
  intro y0 y2 y4 H locs ls hP hS hl h
  unfold fX8_in_E at h
  refine lv_lload_n hx hb dX8_in_0 rfl (lv_at hl 0 rfl) ?_
  refine lv_lload_n hx hb dX8_in_1 rfl (lv_at hl 1 rfl) ?_
  refine W.lcmp hx hb dX8_in_2 ?_
  refine lv_if_lt (tgt := 17) hx hb dX8_in_3 (by decide) (fun c_1 => ?_) (fun c_1 => ?_)
  · replace h := it_p c_1 h
    refine lv_iconst (v := 0) hx hb dX8_in_17 (by decide) ?_
    obtain rfl := Option.some.inj h
    exact hret (Or.inl rfl) _ _ _ _ hP hS dX8_in_18
  · replace h := it_n c_1 h
    refine lv_lload_n hx hb dX8_in_6 rfl (lv_at hl 0 rfl) ?_
    refine lv_lload hx hb dX8_in_7 (lv_at hl 2 rfl) ?_
    refine W.lcmp hx hb dX8_in_9 ?_
    refine lv_if_gt (tgt := 17) hx hb dX8_in_10 (by decide) (fun c_2 => ?_) (fun c_2 => ?_)
    · replace h := it_p c_2 h
      refine lv_iconst (v := 0) hx hb dX8_in_17 (by decide) ?_
      obtain rfl := Option.some.inj h
      exact hret (Or.inl rfl) _ _ _ _ hP hS dX8_in_18
    · replace h := it_n c_2 h
      refine lv_iconst (v := 1) hx hb dX8_in_13 (by decide) ?_
      refine lv_goto (tgt := 18) hx hb dX8_in_14 (by decide) ?_
      obtain rfl := Option.some.inj h
      exact hret (Or.inr rfl) _ _ _ _ hP hS dX8_in_18
def fX8_in (y0 : Int64) (y2 : Int64) (y4 : Int64) : Option (Int32) := fX8_in_E y0 y2 y4
theorem ctX8_in (l : Launch) (D : va_G) (c3 : C3) (ad : Nat → Nat) (w : Mm) (sz : Nat) (y0 : Int64) (y2 : Int64) (y4 : Int64) (r : Int32) (h : fX8_in y0 y2 y4 = some r) : Ci l yX8_in wsX8_in rmX8_in D c3 (encM c3 ad) gM [.long y0, .long y2, .long y4] w sz r w := by
  refine Ci.ofz (cc := cX8_in) (maxL := 6) (encM_ok c3 ad) (by decide) rfl (Nat.le_of_ble_eq_true rfl) ?_
  intro p e s m below meth c A Q ls X hret hP hS hl
  exact bX8_in_E X hret y0 y2 y4 _ _ ls hP hS hl h
def rmX8_isRow : Room := { frames := 1, cells := 0, slots := 0, locals := 25 }
def fX8_isRow_E (x0 : Int32) : Option (Int32) := bo (fX8_in x0.toInt64 0 5) (fun r_2 => gd (r_2 = 0 ∨ r_2 = 1) (some r_2))
set_option maxRecDepth 20000 in
theorem bX8_isRow_E {p : Program} {l : Launch} {e : Env} {s : State} {m : MethodId} {args : Array Value} {below : List Frame} {meth : Method} {c : Code} {Q : State → Prop} {D : va_G} {c3 : C3} {ad : Nat → Nat} {A : Nat → Prop} {r : Int32} {w : Mm} (X : Cx p s m args c cX8_isRow 1 RX8 wsX8_isRow D c3 (encM c3 ad) gM A) (hret : Rz p l e (rmX8_isRow) s m args below meth c Q cX8_isRow D (encM c3 ad) A r w) : ∀ (x0 : Int32) (H : Heap) (locs : List Loc) (ls : Array Slot), va_P D vwCl ((encM c3 ad) w) H → va_S A s.heap H locs → lv_has ls 1 [(0, .int x0)] → fX8_isRow_E x0 = some r → W p l e (rmX8_isRow) s m args below meth c H locs 0 0 Q (F0 m 0 ls []) := by
  have hx := X.1
  have hb := X.2.1
  have hml := X.2.2.1
  have hown := X.2.2.2.1
  have hts := X.2.2.2.2.1
  intro x0 H locs ls hP hS hl h
  unfold fX8_isRow_E at h
  refine lv_iload_n hx hb dX8_isRow_0 rfl (lv_at hl 0 rfl) ?_
  refine lv_i2l (v := x0.toInt64) hx hb dX8_isRow_1 rfl ?_
  refine lv_lconst (v := 0) hx hb dX8_isRow_2 (by decide) ?_
  refine lv_ldc2 (v := 5) hx hb hown (hts (.constantLong RX8 79 (5)) (by decide +kernel)) dX8_isRow_3 ?_
  obtain ⟨r_2, e_1, h⟩ := bo_s h
  refine x_goi X hS (x_runS (As := [.long x0.toInt64, .long 0, .long 5]) (rest := []) X gM_ok hP hS (ctX8_in l D c3 ad w _ x0.toInt64 0 5 _ e_1) (va_cwS 3 hts gX8_isRow_X8_in rfl rfl rfl (by decide +kernel) ⟨by decide, by decide⟩) rfl hl.1 rfl (Nat.le_of_ble_eq_true rfl) dX8_isRow_6) (fun H locs hP hS => ?_)
  obtain ⟨g_4, h⟩ := gd_s h
  obtain rfl := Option.some.inj h
  exact hret g_4 _ _ _ _ hP hS dX8_isRow_9
def fX8_isRow (x0 : Int32) : Option (Int32) := fX8_isRow_E x0
theorem ctX8_isRow (l : Launch) (D : va_G) (c3 : C3) (ad : Nat → Nat) (w : Mm) (sz : Nat) (x0 : Int32) (r : Int32) (h : fX8_isRow x0 = some r) : Ci l yX8_isRow wsX8_isRow rmX8_isRow D c3 (encM c3 ad) gM [.int x0] w sz r w := by
  refine Ci.ofz (cc := cX8_isRow) (maxL := 1) (encM_ok c3 ad) (by decide) rfl (Nat.le_of_ble_eq_true rfl) ?_
  intro p e s m below meth c A Q ls X hret hP hS hl
  exact bX8_isRow_E X hret x0 _ _ ls hP hS hl h
theorem iwX8_makeRow_X8 : ∀ w ∈ wsX80, w ∈ wsX8_makeRow := fun _ h => List.mem_cons_of_mem _ (List.mem_append_right _ h)
theorem lkX8_makeRow_25 : Cond.fieldLink RX8 25 "StuckDoorModel" "sizes" "[I" ∈ wsX8_makeRow := by decide +kernel
theorem lkX8_makeRow_28 : Cond.fieldLink RX8 28 "StuckDoorModel" "items" "[I" ∈ wsX8_makeRow := by decide +kernel
def rmX8_makeRow : Room := { frames := 0, cells := 0, slots := 0, locals := 0 }
def fX8_makeRow_9 (x1 : Int32) : Nat → Int32 → Mm → Option (Mm)
  | 0, _, _ => none
  | n + 1, x3, w => (if 40 ≤ x3 then some w else gd (inb ((40 * x1) + x3) 240 = true) (nm (sA w 7 ((40 * x1) + x3).toNatClampNeg 0) (fun w_3 => fX8_makeRow_9 x1 n (x3 + 1) w_3)))
set_option maxRecDepth 20000 in
theorem bX8_makeRow_9 {p : Program} {l : Launch} {e : Env} {s : State} {m : MethodId} {args : Array Value} {below : List Frame} {meth : Method} {c : Code} {Q : State → Prop} {D : va_G} {c3 : C3} {ad : Nat → Nat} {A : Nat → Prop} {w' : Mm} (X : Cx p s m args c cX8_makeRow 4 RX8 wsX8_makeRow D c3 (encM c3 ad) gM A) (hret : Rv p l e (rmX8_makeRow) s m args below meth c Q cX8_makeRow D (encM c3 ad) A w') : ∀ (x1 : Int32) (n : Nat) (x3 : Int32) (w : Mm) (H : Heap) (locs : List Loc) (ls : Array Slot), va_P D vwCl ((encM c3 ad) w) H → va_S A s.heap H locs → lv_has ls 4 [(0, .ref (ad 0)), (1, .int x1), (3, .int x3)] → fX8_makeRow_9 x1 n x3 w = some w' → W p l e (rmX8_makeRow) s m args below meth c H locs 0 0 Q (F0 m 9 ls []) := by
  have hx := X.1
  have hb := X.2.1
  have hml := X.2.2.1
  have hown := X.2.2.2.1
  have hts := X.2.2.2.2.1
  intro x1 n
  induction n with
  | zero =>
    intro x3 w H locs ls hP hS hl h
    exact absurd h (by simp [fX8_makeRow_9])
  | succ n ih =>
    intro x3 w H locs ls hP hS hl h
    rw [fX8_makeRow_9] at h
    refine lv_iload_n hx hb dX8_makeRow_9 rfl (lv_at hl 2 rfl) ?_
    refine lv_bipush (v := 40) hx hb dX8_makeRow_10 (by decide) ?_
    refine lv_icmp_ge (tgt := 33) hx hb dX8_makeRow_12 (by decide) (fun c_1 => ?_) (fun c_1 => ?_)
    · replace h := it_p c_1 h
      obtain rfl := Option.some.inj h
      exact hret _ _ _ _ hP hS dX8_makeRow_33
    · replace h := it_n c_1 h
      refine lv_aload_n hx hb dX8_makeRow_15 rfl (lv_at hl 0 rfl) ?_
      refine x_get (rest := []) X hP (gM0 c3 ad w) rfl iwX8_makeRow_X8 9 (by decide) lkX8_makeRow_28 rfl dX8_makeRow_16 ?_
      refine lv_bipush (v := 40) hx hb dX8_makeRow_19 (by decide) ?_
      refine lv_iload_n hx hb dX8_makeRow_21 rfl (lv_at hl 1 rfl) ?_
      refine lv_imul hx hb dX8_makeRow_22 ?_
      refine lv_iload_n hx hb dX8_makeRow_23 rfl (lv_at hl 2 rfl) ?_
      refine lv_iadd hx hb dX8_makeRow_24 ?_
      refine lv_iconst (v := 0) hx hb dX8_makeRow_25 (by decide) ?_
      obtain ⟨g_2, h⟩ := gd_s h
      refine x_iast X hP hS (gM7 c3 ad w) (sM7 c3 ad w _ _) g_2 dX8_makeRow_26 (fun H locs hP hS => ?_)
      refine x_nmw h hP (fun w_3 h hP => ?_)
      refine lv_iinc (v := (x3 + 1)) (lv' := [(3, .int (x3 + 1)), (0, .ref (ad 0)), (1, .int x1)]) hx hb dX8_makeRow_27 hl (k := 2) rfl rfl (by decide) rfl (fun ls hl => ?_)
      refine lv_goto (tgt := 9) hx hb dX8_makeRow_30 (by decide) ?_
      exact ih (x3 + 1) w_3 _ _ _ hP hS (lv_sub hl [1, 2, 0] rfl) h
def fX8_makeRow_E (x1 : Int32) (x2 : Int32) (w : Mm) : Option (Mm) := gd (inb x1 6 = true) (nm (sA w 6 x1.toNatClampNeg x2) (fun w_5 => fX8_makeRow_9 x1 FU 0 w_5))
set_option maxRecDepth 20000 in
theorem bX8_makeRow_E {p : Program} {l : Launch} {e : Env} {s : State} {m : MethodId} {args : Array Value} {below : List Frame} {meth : Method} {c : Code} {Q : State → Prop} {D : va_G} {c3 : C3} {ad : Nat → Nat} {A : Nat → Prop} {w' : Mm} (X : Cx p s m args c cX8_makeRow 4 RX8 wsX8_makeRow D c3 (encM c3 ad) gM A) (hret : Rv p l e (rmX8_makeRow) s m args below meth c Q cX8_makeRow D (encM c3 ad) A w') : ∀ (x1 : Int32) (x2 : Int32) (w : Mm) (H : Heap) (locs : List Loc) (ls : Array Slot), va_P D vwCl ((encM c3 ad) w) H → va_S A s.heap H locs → lv_has ls 4 [(0, .ref (ad 0)), (1, .int x1), (2, .int x2)] → fX8_makeRow_E x1 x2 w = some w' → W p l e (rmX8_makeRow) s m args below meth c H locs 0 0 Q (F0 m 0 ls []) := by
  have hx := X.1
  have hb := X.2.1
  have hml := X.2.2.1
  have hown := X.2.2.2.1
  have hts := X.2.2.2.2.1
  intro x1 x2 w H locs ls hP hS hl h
  unfold fX8_makeRow_E at h
  refine lv_aload_n hx hb dX8_makeRow_0 rfl (lv_at hl 0 rfl) ?_
  refine x_get (rest := []) X hP (gM0 c3 ad w) rfl iwX8_makeRow_X8 8 (by decide) lkX8_makeRow_25 rfl dX8_makeRow_1 ?_
  refine lv_iload_n hx hb dX8_makeRow_4 rfl (lv_at hl 1 rfl) ?_
  refine lv_iload_n hx hb dX8_makeRow_5 rfl (lv_at hl 2 rfl) ?_
  obtain ⟨g_4, h⟩ := gd_s h
  refine x_iast X hP hS (gM6 c3 ad w) (sM6 c3 ad w _ _) g_4 dX8_makeRow_6 (fun H locs hP hS => ?_)
  refine x_nmw h hP (fun w_5 h hP => ?_)
  refine lv_iconst (v := 0) hx hb dX8_makeRow_7 (by decide) ?_
  refine lv_istore_n (lv' := [(3, .int 0), (0, .ref (ad 0)), (1, .int x1), (2, .int x2)]) hx hb dX8_makeRow_8 rfl hl (by decide) rfl (fun ls hl => ?_)
  exact bX8_makeRow_9 X hret x1 FU 0 w_5 _ _ _ hP hS (lv_sub hl [1, 2, 0] rfl) h
def fX8_makeRow (x1 : Int32) (x2 : Int32) (w : Mm) : Option (Mm) := fX8_makeRow_E x1 x2 w
theorem ctX8_makeRow (l : Launch) (D : va_G) (c3 : C3) (ad : Nat → Nat) (w : Mm) (sz : Nat) (x1 : Int32) (x2 : Int32) (w' : Mm) (h : fX8_makeRow x1 x2 w = some w') : Cv l yX8_makeRow wsX8_makeRow rmX8_makeRow D c3 (encM c3 ad) gM [.ref (ad 0), .int x1, .int x2] w sz w' := by
  refine Cv.of (cc := cX8_makeRow) (maxL := 4) (encM_ok c3 ad) (by decide) rfl (Nat.le_of_ble_eq_true rfl) ?_
  intro p e s m below meth c A Q ls X hret hP hS hl
  exact bX8_makeRow_E X hret x1 x2 w _ _ ls hP hS hl h
theorem iwX8_find_X8 : ∀ w ∈ wsX80, w ∈ wsX8_find := fun _ h => List.mem_cons_of_mem _ (List.mem_append_right _ h)
theorem lkX8_find_41 : Cond.fieldLink RX8 41 "StuckDoorModel" "findings" "[I" ∈ wsX8_find := by decide +kernel
theorem lkX8_find_72 : Cond.fieldLink RX8 72 "StuckDoorModel" "finding" "I" ∈ wsX8_find := by decide +kernel
def rmX8_find : Room := { frames := 0, cells := 0, slots := 0, locals := 0 }
def fX8_find_E (x1 : Int32) (w : Mm) : Option (Int32 × Mm) := nm (sA w 0 15 x1) (fun w_1 => gd (inb x1 6 = true) (nm (sA w_1 10 x1.toNatClampNeg ((w_1.1 10 x1.toNatClampNeg) + 1)) (fun w_3 => some ((-3), w_3))))
set_option maxRecDepth 20000 in
theorem bX8_find_E {p : Program} {l : Launch} {e : Env} {s : State} {m : MethodId} {args : Array Value} {below : List Frame} {meth : Method} {c : Code} {Q : State → Prop} {D : va_G} {c3 : C3} {ad : Nat → Nat} {A : Nat → Prop} {r : Int32} {w' : Mm} (X : Cx p s m args c cX8_find 2 RX8 wsX8_find D c3 (encM c3 ad) gM A) (hret : Ri p l e (rmX8_find) s m args below meth c Q cX8_find D (encM c3 ad) A r w') : ∀ (x1 : Int32) (w : Mm) (H : Heap) (locs : List Loc) (ls : Array Slot), va_P D vwCl ((encM c3 ad) w) H → va_S A s.heap H locs → lv_has ls 2 [(0, .ref (ad 0)), (1, .int x1)] → fX8_find_E x1 w = some (r, w') → W p l e (rmX8_find) s m args below meth c H locs 0 0 Q (F0 m 0 ls []) := by
  have hx := X.1
  have hb := X.2.1
  have hml := X.2.2.1
  have hown := X.2.2.2.1
  have hts := X.2.2.2.2.1
  intro x1 w H locs ls hP hS hl h
  unfold fX8_find_E at h
  refine lv_aload_n hx hb dX8_find_0 rfl (lv_at hl 0 rfl) ?_
  refine lv_iload_n hx hb dX8_find_1 rfl (lv_at hl 1 rfl) ?_
  refine x_put (v := .int x1) X hP hS (gM0 c3 ad w) rfl iwX8_find_X8 tyX8 tyX8_ok nmX8 15 (by decide) lkX8_find_72 rfl rfl rfl (Nat.le_of_ble_eq_true rfl) (pM0_15 c3 ad w x1) dX8_find_2 (fun H locs hP hS => ?_)
  refine x_nmw h hP (fun w_1 h hP => ?_)
  refine lv_aload_n hx hb dX8_find_5 rfl (lv_at hl 0 rfl) ?_
  refine x_get (rest := []) X hP (gM0 c3 ad w_1) rfl iwX8_find_X8 16 (by decide) lkX8_find_41 rfl dX8_find_6 ?_
  refine lv_iload_n hx hb dX8_find_9 rfl (lv_at hl 1 rfl) ?_
  refine lv_dup2_11 hx hb dX8_find_10 rfl rfl ?_
  obtain ⟨g_2, h⟩ := gd_s h
  refine x_iald X hP (gM10 c3 ad w_1) g_2 dX8_find_11 ?_
  refine lv_iconst (v := 1) hx hb dX8_find_12 (by decide) ?_
  refine lv_iadd hx hb dX8_find_13 ?_
  refine x_iast X hP hS (gM10 c3 ad w_1) (sM10 c3 ad w_1 _ _) g_2 dX8_find_14 (fun H locs hP hS => ?_)
  refine x_nmw h hP (fun w_3 h hP => ?_)
  refine lv_bipush (v := (-3)) hx hb dX8_find_15 (by decide) ?_
  obtain ⟨rfl, rfl⟩ := Prod.mk.inj (Option.some.inj h)
  exact hret _ _ _ _ hP hS dX8_find_17
def fX8_find (x1 : Int32) (w : Mm) : Option (Int32 × Mm) := fX8_find_E x1 w
theorem ctX8_find (l : Launch) (D : va_G) (c3 : C3) (ad : Nat → Nat) (w : Mm) (sz : Nat) (x1 : Int32) (r : Int32) (w' : Mm) (h : fX8_find x1 w = some (r, w')) : Ci l yX8_find wsX8_find rmX8_find D c3 (encM c3 ad) gM [.ref (ad 0), .int x1] w sz r w' := by
  refine Ci.of (cc := cX8_find) (maxL := 2) (encM_ok c3 ad) (by decide) rfl (Nat.le_of_ble_eq_true rfl) ?_
  intro p e s m below meth c A Q ls X hret hP hS hl
  exact bX8_find_E X hret x1 w _ _ ls hP hS hl h
def rmX8_row : Room := { frames := 2, cells := 0, slots := 0, locals := 45 }
def fX8_row_E (x1 : Int32) (x2 : Int32) (w : Mm) : Option (Int32 × Mm) := bo (fX8_isRow x1) (fun r_2 => (if r_2 = 0 then some ((-1), w) else (if x2 ≤ 40 then (if 0 ≤ x2 then bo (fX8_makeRow x1 x2 w) (fun w_9 => some (x2, w_9)) else bd (fX8_find 5 w) (fun r_11 w_12 => some (r_11, w_12))) else some ((-1), w))))
set_option maxRecDepth 20000 in
theorem bX8_row_E {p : Program} {l : Launch} {e : Env} {s : State} {m : MethodId} {args : Array Value} {below : List Frame} {meth : Method} {c : Code} {Q : State → Prop} {D : va_G} {c3 : C3} {ad : Nat → Nat} {A : Nat → Prop} {r : Int32} {w' : Mm} (X : Cx p s m args c cX8_row 3 RX8 wsX8_row D c3 (encM c3 ad) gM A) (hret : Ri p l e (rmX8_row) s m args below meth c Q cX8_row D (encM c3 ad) A r w') : ∀ (x1 : Int32) (x2 : Int32) (w : Mm) (H : Heap) (locs : List Loc) (ls : Array Slot), va_P D vwCl ((encM c3 ad) w) H → va_S A s.heap H locs → lv_has ls 3 [(0, .ref (ad 0)), (1, .int x1), (2, .int x2)] → fX8_row_E x1 x2 w = some (r, w') → W p l e (rmX8_row) s m args below meth c H locs 0 0 Q (F0 m 0 ls []) := by
  have hx := X.1
  have hb := X.2.1
  have hml := X.2.2.1
  have hown := X.2.2.2.1
  have hts := X.2.2.2.2.1
  intro x1 x2 w H locs ls hP hS hl h
  unfold fX8_row_E at h
  refine lv_iload_n hx hb dX8_row_0 rfl (lv_at hl 1 rfl) ?_
  obtain ⟨r_2, e_1, h⟩ := bo_s h
  refine x_goi X hS (x_runS (As := [.int x1]) (rest := []) X gM_ok hP hS (ctX8_isRow l D c3 ad w _ x1 _ e_1) (va_cwS 1 hts gX8_row_X8_isRow rfl rfl rfl (by decide +kernel) ⟨by decide, by decide⟩) rfl hl.1 rfl (Nat.le_of_ble_eq_true rfl) dX8_row_1) (fun H locs hP hS => ?_)
  refine lv_if_eq (tgt := 13) hx hb dX8_row_4 (by decide) (fun c_4 => ?_) (fun c_4 => ?_)
  · replace h := it_p c_4 h
    refine lv_iconst (v := (-1)) hx hb dX8_row_13 (by decide) ?_
    obtain ⟨rfl, rfl⟩ := Prod.mk.inj (Option.some.inj h)
    exact hret _ _ _ _ hP hS dX8_row_14
  · replace h := it_n c_4 h
    refine lv_iload_n hx hb dX8_row_7 rfl (lv_at hl 2 rfl) ?_
    refine lv_bipush (v := 40) hx hb dX8_row_8 (by decide) ?_
    refine lv_icmp_le (tgt := 15) hx hb dX8_row_10 (by decide) (fun c_5 => ?_) (fun c_5 => ?_)
    · replace h := it_p c_5 h
      refine lv_iload_n hx hb dX8_row_15 rfl (lv_at hl 2 rfl) ?_
      refine lv_if_ge (tgt := 25) hx hb dX8_row_16 (by decide) (fun c_6 => ?_) (fun c_6 => ?_)
      · replace h := it_p c_6 h
        refine lv_aload_n hx hb dX8_row_25 rfl (lv_at hl 0 rfl) ?_
        refine lv_iload_n hx hb dX8_row_26 rfl (lv_at hl 1 rfl) ?_
        refine lv_iload_n hx hb dX8_row_27 rfl (lv_at hl 2 rfl) ?_
        obtain ⟨w_9, e_7, h⟩ := bo_s h
        refine x_gov X hS (x_runV (As := [.int x1, .int x2]) (rest := []) X gM_ok hP hS (ctX8_makeRow l D c3 ad w _ x1 x2 _ e_7) (cwV 2 hts gX8_row_X8_makeRow rfl rfl rfl (by decide +kernel) ⟨by decide, by decide⟩) (gM0 c3 ad w) rfl rfl rfl hl.1 rfl (Nat.le_of_ble_eq_true rfl) dX8_row_28) (fun H locs hP hS => ?_)
        refine lv_iload_n hx hb dX8_row_31 rfl (lv_at hl 2 rfl) ?_
        obtain ⟨rfl, rfl⟩ := Prod.mk.inj (Option.some.inj h)
        exact hret _ _ _ _ hP hS dX8_row_32
      · replace h := it_n c_6 h
        refine lv_aload_n hx hb dX8_row_19 rfl (lv_at hl 0 rfl) ?_
        refine lv_iconst (v := 5) hx hb dX8_row_20 (by decide) ?_
        obtain ⟨r_11, w_12, e_10, h⟩ := bd_s h
        refine x_goi X hS (x_runV (As := [.int 5]) (rest := []) X gM_ok hP hS (ctX8_find l D c3 ad w _ 5 _ _ e_10) (cwV 1 hts gX8_row_X8_find rfl rfl rfl (by decide +kernel) ⟨by decide, by decide⟩) (gM0 c3 ad w) rfl rfl rfl hl.1 rfl (Nat.le_of_ble_eq_true rfl) dX8_row_21) (fun H locs hP hS => ?_)
        obtain ⟨rfl, rfl⟩ := Prod.mk.inj (Option.some.inj h)
        exact hret _ _ _ _ hP hS dX8_row_24
    · replace h := it_n c_5 h
      refine lv_iconst (v := (-1)) hx hb dX8_row_13 (by decide) ?_
      obtain ⟨rfl, rfl⟩ := Prod.mk.inj (Option.some.inj h)
      exact hret _ _ _ _ hP hS dX8_row_14
def fX8_row (x1 : Int32) (x2 : Int32) (w : Mm) : Option (Int32 × Mm) := fX8_row_E x1 x2 w
theorem ctX8_row (l : Launch) (D : va_G) (c3 : C3) (ad : Nat → Nat) (w : Mm) (sz : Nat) (x1 : Int32) (x2 : Int32) (r : Int32) (w' : Mm) (h : fX8_row x1 x2 w = some (r, w')) : Ci l yX8_row wsX8_row rmX8_row D c3 (encM c3 ad) gM [.ref (ad 0), .int x1, .int x2] w sz r w' := by
  refine Ci.of (cc := cX8_row) (maxL := 3) (encM_ok c3 ad) (by decide) rfl (Nat.le_of_ble_eq_true rfl) ?_
  intro p e s m below meth c A Q ls X hret hP hS hl
  exact bX8_row_E X hret x1 x2 w _ _ ls hP hS hl h
theorem iwX8_refused_X8 : ∀ w ∈ wsX80, w ∈ wsX8_refused := fun _ h => List.mem_cons_of_mem _ (List.mem_append_right _ h)
theorem lkX8_refused_25 : Cond.fieldLink RX8 25 "StuckDoorModel" "sizes" "[I" ∈ wsX8_refused := by decide +kernel
def rmX8_refused : Room := { frames := 2, cells := 0, slots := 0, locals := 45 }
def fX8_refused_E (x1 : Int32) (x2 : Int32) (w : Mm) : Option (Int32 × Mm) := bo (fX8_isRow x1) (fun r_2 => (if r_2 = 0 then some ((-1), w) else gd (inb x1 6 = true) ((if 0 ≤ (w.1 6 x1.toNatClampNeg) then bo (fX8_in x2.toInt64 0 (((w.1 6 x1.toNatClampNeg) - 1).toInt64)) (fun r_8 => (if r_8 = 0 then bd (fX8_find 2 w) (fun r_12 w_13 => some (r_12, w_13)) else some (0, w))) else bd (fX8_find 1 w) (fun r_15 w_16 => some (r_15, w_16))))))
set_option maxRecDepth 20000 in
theorem bX8_refused_E {p : Program} {l : Launch} {e : Env} {s : State} {m : MethodId} {args : Array Value} {below : List Frame} {meth : Method} {c : Code} {Q : State → Prop} {D : va_G} {c3 : C3} {ad : Nat → Nat} {A : Nat → Prop} {r : Int32} {w' : Mm} (X : Cx p s m args c cX8_refused 3 RX8 wsX8_refused D c3 (encM c3 ad) gM A) (hret : Ri p l e (rmX8_refused) s m args below meth c Q cX8_refused D (encM c3 ad) A r w') : ∀ (x1 : Int32) (x2 : Int32) (w : Mm) (H : Heap) (locs : List Loc) (ls : Array Slot), va_P D vwCl ((encM c3 ad) w) H → va_S A s.heap H locs → lv_has ls 3 [(0, .ref (ad 0)), (1, .int x1), (2, .int x2)] → fX8_refused_E x1 x2 w = some (r, w') → W p l e (rmX8_refused) s m args below meth c H locs 0 0 Q (F0 m 0 ls []) := by
  have hx := X.1
  have hb := X.2.1
  have hml := X.2.2.1
  have hown := X.2.2.2.1
  have hts := X.2.2.2.2.1
  intro x1 x2 w H locs ls hP hS hl h
  unfold fX8_refused_E at h
  refine lv_iload_n hx hb dX8_refused_0 rfl (lv_at hl 1 rfl) ?_
  obtain ⟨r_2, e_1, h⟩ := bo_s h
  refine x_goi X hS (x_runS (As := [.int x1]) (rest := []) X gM_ok hP hS (ctX8_isRow l D c3 ad w _ x1 _ e_1) (va_cwS 1 hts gX8_refused_X8_isRow rfl rfl rfl (by decide +kernel) ⟨by decide, by decide⟩) rfl hl.1 rfl (Nat.le_of_ble_eq_true rfl) dX8_refused_1) (fun H locs hP hS => ?_)
  refine lv_if_ne (tgt := 11) hx hb dX8_refused_4 (by decide) (fun c_4 => ?_) (fun c_4 => ?_)
  · replace h := it_n c_4 h
    refine lv_aload_n hx hb dX8_refused_11 rfl (lv_at hl 0 rfl) ?_
    refine x_get (rest := []) X hP (gM0 c3 ad w) rfl iwX8_refused_X8 8 (by decide) lkX8_refused_25 rfl dX8_refused_12 ?_
    refine lv_iload_n hx hb dX8_refused_15 rfl (lv_at hl 1 rfl) ?_
    obtain ⟨g_5, h⟩ := gd_s h
    refine x_iald X hP (gM6 c3 ad w) g_5 dX8_refused_16 ?_
    refine lv_if_ge (tgt := 28) hx hb dX8_refused_17 (by decide) (fun c_6 => ?_) (fun c_6 => ?_)
    · replace h := it_p c_6 h
      refine lv_iload_n hx hb dX8_refused_28 rfl (lv_at hl 2 rfl) ?_
      refine lv_i2l (v := x2.toInt64) hx hb dX8_refused_29 rfl ?_
      refine lv_lconst (v := 0) hx hb dX8_refused_30 (by decide) ?_
      refine lv_aload_n hx hb dX8_refused_31 rfl (lv_at hl 0 rfl) ?_
      refine x_get (rest := [.long 0, .long x2.toInt64]) X hP (gM0 c3 ad w) rfl iwX8_refused_X8 8 (by decide) lkX8_refused_25 rfl dX8_refused_32 ?_
      refine lv_iload_n hx hb dX8_refused_35 rfl (lv_at hl 1 rfl) ?_
      refine x_iald X hP (gM6 c3 ad w) g_5 dX8_refused_36 ?_
      refine lv_iconst (v := 1) hx hb dX8_refused_37 (by decide) ?_
      refine lv_isub hx hb dX8_refused_38 ?_
      refine lv_i2l (v := ((w.1 6 x1.toNatClampNeg) - 1).toInt64) hx hb dX8_refused_39 rfl ?_
      obtain ⟨r_8, e_7, h⟩ := bo_s h
      refine x_goi X hS (x_runS (As := [.long x2.toInt64, .long 0, .long (((w.1 6 x1.toNatClampNeg) - 1).toInt64)]) (rest := []) X gM_ok hP hS (ctX8_in l D c3 ad w _ x2.toInt64 0 (((w.1 6 x1.toNatClampNeg) - 1).toInt64) _ e_7) (va_cwS 3 hts gX8_refused_X8_in rfl rfl rfl (by decide +kernel) ⟨by decide, by decide⟩) rfl hl.1 rfl (Nat.le_of_ble_eq_true rfl) dX8_refused_40) (fun H locs hP hS => ?_)
      refine lv_if_eq (tgt := 50) hx hb dX8_refused_43 (by decide) (fun c_10 => ?_) (fun c_10 => ?_)
      · replace h := it_p c_10 h
        refine lv_aload_n hx hb dX8_refused_50 rfl (lv_at hl 0 rfl) ?_
        refine lv_iconst (v := 2) hx hb dX8_refused_51 (by decide) ?_
        obtain ⟨r_12, w_13, e_11, h⟩ := bd_s h
        refine x_goi X hS (x_runV (As := [.int 2]) (rest := []) X gM_ok hP hS (ctX8_find l D c3 ad w _ 2 _ _ e_11) (cwV 1 hts gX8_refused_X8_find rfl rfl rfl (by decide +kernel) ⟨by decide, by decide⟩) (gM0 c3 ad w) rfl rfl rfl hl.1 rfl (Nat.le_of_ble_eq_true rfl) dX8_refused_52) (fun H locs hP hS => ?_)
        obtain ⟨rfl, rfl⟩ := Prod.mk.inj (Option.some.inj h)
        exact hret _ _ _ _ hP hS dX8_refused_55
      · replace h := it_n c_10 h
        refine lv_iconst (v := 0) hx hb dX8_refused_46 (by decide) ?_
        refine lv_goto (tgt := 55) hx hb dX8_refused_47 (by decide) ?_
        obtain ⟨rfl, rfl⟩ := Prod.mk.inj (Option.some.inj h)
        exact hret _ _ _ _ hP hS dX8_refused_55
    · replace h := it_n c_6 h
      refine lv_aload_n hx hb dX8_refused_20 rfl (lv_at hl 0 rfl) ?_
      refine lv_iconst (v := 1) hx hb dX8_refused_21 (by decide) ?_
      obtain ⟨r_15, w_16, e_14, h⟩ := bd_s h
      refine x_goi X hS (x_runV (As := [.int 1]) (rest := []) X gM_ok hP hS (ctX8_find l D c3 ad w _ 1 _ _ e_14) (cwV 1 hts gX8_refused_X8_find rfl rfl rfl (by decide +kernel) ⟨by decide, by decide⟩) (gM0 c3 ad w) rfl rfl rfl hl.1 rfl (Nat.le_of_ble_eq_true rfl) dX8_refused_22) (fun H locs hP hS => ?_)
      refine lv_goto (tgt := 55) hx hb dX8_refused_25 (by decide) ?_
      obtain ⟨rfl, rfl⟩ := Prod.mk.inj (Option.some.inj h)
      exact hret _ _ _ _ hP hS dX8_refused_55
  · replace h := it_p c_4 h
    refine lv_iconst (v := (-1)) hx hb dX8_refused_7 (by decide) ?_
    refine lv_goto (tgt := 55) hx hb dX8_refused_8 (by decide) ?_
    obtain ⟨rfl, rfl⟩ := Prod.mk.inj (Option.some.inj h)
    exact hret _ _ _ _ hP hS dX8_refused_55
def fX8_refused (x1 : Int32) (x2 : Int32) (w : Mm) : Option (Int32 × Mm) := fX8_refused_E x1 x2 w
theorem ctX8_refused (l : Launch) (D : va_G) (c3 : C3) (ad : Nat → Nat) (w : Mm) (sz : Nat) (x1 : Int32) (x2 : Int32) (r : Int32) (w' : Mm) (h : fX8_refused x1 x2 w = some (r, w')) : Ci l yX8_refused wsX8_refused rmX8_refused D c3 (encM c3 ad) gM [.ref (ad 0), .int x1, .int x2] w sz r w' := by
  refine Ci.of (cc := cX8_refused) (maxL := 3) (encM_ok c3 ad) (by decide) rfl (Nat.le_of_ble_eq_true rfl) ?_
  intro p e s m below meth c A Q ls X hret hP hS hl
  exact bX8_refused_E X hret x1 x2 w _ _ ls hP hS hl h
theorem iwX8_tell_X8 : ∀ w ∈ wsX80, w ∈ wsX8_tell := fun _ h => List.mem_cons_of_mem _ (List.mem_append_right _ h)
theorem lkX8_tell_76 : Cond.fieldLink RX8 76 "StuckDoorModel" "asked" "I" ∈ wsX8_tell := by decide +kernel
def rmX8_tell : Room := { frames := 0, cells := 0, slots := 0, locals := 0 }
def fX8_tell_E (x1 : Int32) (w : Mm) : Option (Int32 × Mm) := nm (sA w 0 12 x1) (fun w_1 => some (1, w_1))
set_option maxRecDepth 20000 in
theorem bX8_tell_E {p : Program} {l : Launch} {e : Env} {s : State} {m : MethodId} {args : Array Value} {below : List Frame} {meth : Method} {c : Code} {Q : State → Prop} {D : va_G} {c3 : C3} {ad : Nat → Nat} {A : Nat → Prop} {r : Int32} {w' : Mm} (X : Cx p s m args c cX8_tell 2 RX8 wsX8_tell D c3 (encM c3 ad) gM A) (hret : Ri p l e (rmX8_tell) s m args below meth c Q cX8_tell D (encM c3 ad) A r w') : ∀ (x1 : Int32) (w : Mm) (H : Heap) (locs : List Loc) (ls : Array Slot), va_P D vwCl ((encM c3 ad) w) H → va_S A s.heap H locs → lv_has ls 2 [(0, .ref (ad 0)), (1, .int x1)] → fX8_tell_E x1 w = some (r, w') → W p l e (rmX8_tell) s m args below meth c H locs 0 0 Q (F0 m 0 ls []) := by
  have hx := X.1
  have hb := X.2.1
  have hml := X.2.2.1
  have hown := X.2.2.2.1
  have hts := X.2.2.2.2.1
  intro x1 w H locs ls hP hS hl h
  unfold fX8_tell_E at h
  refine lv_aload_n hx hb dX8_tell_0 rfl (lv_at hl 0 rfl) ?_
  refine lv_iload_n hx hb dX8_tell_1 rfl (lv_at hl 1 rfl) ?_
  refine x_put (v := .int x1) X hP hS (gM0 c3 ad w) rfl iwX8_tell_X8 tyX8 tyX8_ok nmX8 12 (by decide) lkX8_tell_76 rfl rfl rfl (Nat.le_of_ble_eq_true rfl) (pM0_12 c3 ad w x1) dX8_tell_2 (fun H locs hP hS => ?_)
  refine x_nmw h hP (fun w_1 h hP => ?_)
  refine lv_iconst (v := 1) hx hb dX8_tell_5 (by decide) ?_
  obtain ⟨rfl, rfl⟩ := Prod.mk.inj (Option.some.inj h)
  exact hret _ _ _ _ hP hS dX8_tell_6
def fX8_tell (x1 : Int32) (w : Mm) : Option (Int32 × Mm) := fX8_tell_E x1 w
theorem ctX8_tell (l : Launch) (D : va_G) (c3 : C3) (ad : Nat → Nat) (w : Mm) (sz : Nat) (x1 : Int32) (r : Int32) (w' : Mm) (h : fX8_tell x1 w = some (r, w')) : Ci l yX8_tell wsX8_tell rmX8_tell D c3 (encM c3 ad) gM [.ref (ad 0), .int x1] w sz r w' := by
  refine Ci.of (cc := cX8_tell) (maxL := 2) (encM_ok c3 ad) (by decide) rfl (Nat.le_of_ble_eq_true rfl) ?_
  intro p e s m below meth c A Q ls X hret hP hS hl
  exact bX8_tell_E X hret x1 w _ _ ls hP hS hl h
theorem iwX8_lay_X8 : ∀ w ∈ wsX80, w ∈ wsX8_lay := fun _ h => List.mem_cons_of_mem _ (List.mem_append_right _ h)
theorem lkX8_lay_28 : Cond.fieldLink RX8 28 "StuckDoorModel" "items" "[I" ∈ wsX8_lay := by decide +kernel
def rmX8_lay : Room := { frames := 3, cells := 0, slots := 0, locals := 67 }
def fX8_lay_E (x1 : Int32) (x2 : Int32) (x3 : Int32) (w : Mm) : Option (Int32 × Mm) := bd (fX8_refused x1 x2 w) (fun r_2 w_3 => (if r_2 = 0 then gd (inb ((40 * x1) + x2) 240 = true) (nm (w_3.1 7 ((40 * x1) + x2).toNatClampNeg) (fun x5_6 => nm (sA w_3 7 ((40 * x1) + x2).toNatClampNeg x3) (fun w_7 => bd (fX8_tell x5_6 w_7) (fun r_9 w_10 => some (r_9, w_10))))) else some (r_2, w_3)))
set_option maxRecDepth 20000 in
theorem bX8_lay_E {p : Program} {l : Launch} {e : Env} {s : State} {m : MethodId} {args : Array Value} {below : List Frame} {meth : Method} {c : Code} {Q : State → Prop} {D : va_G} {c3 : C3} {ad : Nat → Nat} {A : Nat → Prop} {r : Int32} {w' : Mm} (X : Cx p s m args c cX8_lay 6 RX8 wsX8_lay D c3 (encM c3 ad) gM A) (hret : Ri p l e (rmX8_lay) s m args below meth c Q cX8_lay D (encM c3 ad) A r w') : ∀ (x1 : Int32) (x2 : Int32) (x3 : Int32) (w : Mm) (H : Heap) (locs : List Loc) (ls : Array Slot), va_P D vwCl ((encM c3 ad) w) H → va_S A s.heap H locs → lv_has ls 6 [(0, .ref (ad 0)), (1, .int x1), (2, .int x2), (3, .int x3)] → fX8_lay_E x1 x2 x3 w = some (r, w') → W p l e (rmX8_lay) s m args below meth c H locs 0 0 Q (F0 m 0 ls []) := by
  have hx := X.1
  have hb := X.2.1
  have hml := X.2.2.1
  have hown := X.2.2.2.1
  have hts := X.2.2.2.2.1
  intro x1 x2 x3 w H locs ls hP hS hl h
  unfold fX8_lay_E at h
  refine lv_aload_n hx hb dX8_lay_0 rfl (lv_at hl 0 rfl) ?_
  refine lv_iload_n hx hb dX8_lay_1 rfl (lv_at hl 1 rfl) ?_
  refine lv_iload_n hx hb dX8_lay_2 rfl (lv_at hl 2 rfl) ?_
  obtain ⟨r_2, w_3, e_1, h⟩ := bd_s h
  refine x_goi X hS (x_runV (As := [.int x1, .int x2]) (rest := []) X gM_ok hP hS (ctX8_refused l D c3 ad w _ x1 x2 _ _ e_1) (cwV 2 hts gX8_lay_X8_refused rfl rfl rfl (by decide +kernel) ⟨by decide, by decide⟩) (gM0 c3 ad w) rfl rfl rfl hl.1 rfl (Nat.le_of_ble_eq_true rfl) dX8_lay_3) (fun H locs hP hS => ?_)
  refine lv_istore (lv' := [(4, .int r_2), (0, .ref (ad 0)), (1, .int x1), (2, .int x2), (3, .int x3)]) hx hb dX8_lay_6 hl (by decide) rfl (fun ls hl => ?_)
  refine lv_iload hx hb dX8_lay_8 (lv_at hl 0 rfl) ?_
  refine lv_if_eq (tgt := 16) hx hb dX8_lay_10 (by decide) (fun c_4 => ?_) (fun c_4 => ?_)
  · replace h := it_p c_4 h
    refine lv_aload_n hx hb dX8_lay_16 rfl (lv_at hl 1 rfl) ?_
    refine x_get (rest := []) X hP (gM0 c3 ad w_3) rfl iwX8_lay_X8 9 (by decide) lkX8_lay_28 rfl dX8_lay_17 ?_
    refine lv_bipush (v := 40) hx hb dX8_lay_20 (by decide) ?_
    refine lv_iload_n hx hb dX8_lay_22 rfl (lv_at hl 2 rfl) ?_
    refine lv_imul hx hb dX8_lay_23 ?_
    refine lv_iload_n hx hb dX8_lay_24 rfl (lv_at hl 3 rfl) ?_
    refine lv_iadd hx hb dX8_lay_25 ?_
    obtain ⟨g_5, h⟩ := gd_s h
    refine x_iald X hP (gM7 c3 ad w_3) g_5 dX8_lay_26 ?_
    refine x_nmi h (fun x5_6 h => ?_)
    refine lv_istore (lv' := [(5, .int x5_6), (4, .int r_2), (0, .ref (ad 0)), (1, .int x1), (2, .int x2), (3, .int x3)]) hx hb dX8_lay_27 hl (by decide) rfl (fun ls hl => ?_)
    refine lv_aload_n hx hb dX8_lay_29 rfl (lv_at hl 2 rfl) ?_
    refine x_get (rest := []) X hP (gM0 c3 ad w_3) rfl iwX8_lay_X8 9 (by decide) lkX8_lay_28 rfl dX8_lay_30 ?_
    refine lv_bipush (v := 40) hx hb dX8_lay_33 (by decide) ?_
    refine lv_iload_n hx hb dX8_lay_35 rfl (lv_at hl 3 rfl) ?_
    refine lv_imul hx hb dX8_lay_36 ?_
    refine lv_iload_n hx hb dX8_lay_37 rfl (lv_at hl 4 rfl) ?_
    refine lv_iadd hx hb dX8_lay_38 ?_
    refine lv_iload_n hx hb dX8_lay_39 rfl (lv_at hl 5 rfl) ?_
    refine x_iast X hP hS (gM7 c3 ad w_3) (sM7 c3 ad w_3 _ _) g_5 dX8_lay_40 (fun H locs hP hS => ?_)
    refine x_nmw h hP (fun w_7 h hP => ?_)
    refine lv_aload_n hx hb dX8_lay_41 rfl (lv_at hl 2 rfl) ?_
    refine lv_iload hx hb dX8_lay_42 (lv_at hl 0 rfl) ?_
    obtain ⟨r_9, w_10, e_8, h⟩ := bd_s h
    refine x_goi X hS (x_runV (As := [.int x5_6]) (rest := []) X gM_ok hP hS (ctX8_tell l D c3 ad w_7 _ x5_6 _ _ e_8) (cwV 1 hts gX8_lay_X8_tell rfl rfl rfl (by decide +kernel) ⟨by decide, by decide⟩) (gM0 c3 ad w_7) rfl rfl rfl hl.1 rfl (Nat.le_of_ble_eq_true rfl) dX8_lay_44) (fun H locs hP hS => ?_)
    obtain ⟨rfl, rfl⟩ := Prod.mk.inj (Option.some.inj h)
    exact hret _ _ _ _ hP hS dX8_lay_47
  · replace h := it_n c_4 h
    refine lv_iload hx hb dX8_lay_13 (lv_at hl 0 rfl) ?_
    obtain ⟨rfl, rfl⟩ := Prod.mk.inj (Option.some.inj h)
    exact hret _ _ _ _ hP hS dX8_lay_15
def fX8_lay (x1 : Int32) (x2 : Int32) (x3 : Int32) (w : Mm) : Option (Int32 × Mm) := fX8_lay_E x1 x2 x3 w
theorem ctX8_lay (l : Launch) (D : va_G) (c3 : C3) (ad : Nat → Nat) (w : Mm) (sz : Nat) (x1 : Int32) (x2 : Int32) (x3 : Int32) (r : Int32) (w' : Mm) (h : fX8_lay x1 x2 x3 w = some (r, w')) : Ci l yX8_lay wsX8_lay rmX8_lay D c3 (encM c3 ad) gM [.ref (ad 0), .int x1, .int x2, .int x3] w sz r w' := by
  refine Ci.of (cc := cX8_lay) (maxL := 6) (encM_ok c3 ad) (by decide) rfl (Nat.le_of_ble_eq_true rfl) ?_
  intro p e s m below meth c A Q ls X hret hP hS hl
  exact bX8_lay_E X hret x1 x2 x3 w _ _ ls hP hS hl h
theorem iwX8_at_X8 : ∀ w ∈ wsX80, w ∈ wsX8_at := fun _ h => List.mem_cons_of_mem _ (List.mem_append_right _ h)
theorem lkX8_at_28 : Cond.fieldLink RX8 28 "StuckDoorModel" "items" "[I" ∈ wsX8_at := by decide +kernel
def rmX8_at : Room := { frames := 3, cells := 0, slots := 0, locals := 67 }
def fX8_at_E (x1 : Int32) (x2 : Int32) (w : Mm) : Option (Int32 × Mm) := bd (fX8_refused x1 x2 w) (fun r_2 w_3 => (if r_2 = 0 then gd (inb ((40 * x1) + x2) 240 = true) (bd (fX8_tell (w_3.1 7 ((40 * x1) + x2).toNatClampNeg) w_3) (fun r_7 w_8 => some (r_7, w_8))) else some (r_2, w_3)))
set_option maxRecDepth 20000 in
theorem bX8_at_E {p : Program} {l : Launch} {e : Env} {s : State} {m : MethodId} {args : Array Value} {below : List Frame} {meth : Method} {c : Code} {Q : State → Prop} {D : va_G} {c3 : C3} {ad : Nat → Nat} {A : Nat → Prop} {r : Int32} {w' : Mm} (X : Cx p s m args c cX8_at 4 RX8 wsX8_at D c3 (encM c3 ad) gM A) (hret : Ri p l e (rmX8_at) s m args below meth c Q cX8_at D (encM c3 ad) A r w') : ∀ (x1 : Int32) (x2 : Int32) (w : Mm) (H : Heap) (locs : List Loc) (ls : Array Slot), va_P D vwCl ((encM c3 ad) w) H → va_S A s.heap H locs → lv_has ls 4 [(0, .ref (ad 0)), (1, .int x1), (2, .int x2)] → fX8_at_E x1 x2 w = some (r, w') → W p l e (rmX8_at) s m args below meth c H locs 0 0 Q (F0 m 0 ls []) := by
  have hx := X.1
  have hb := X.2.1
  have hml := X.2.2.1
  have hown := X.2.2.2.1
  have hts := X.2.2.2.2.1
  intro x1 x2 w H locs ls hP hS hl h
  unfold fX8_at_E at h
  refine lv_aload_n hx hb dX8_at_0 rfl (lv_at hl 0 rfl) ?_
  refine lv_iload_n hx hb dX8_at_1 rfl (lv_at hl 1 rfl) ?_
  refine lv_iload_n hx hb dX8_at_2 rfl (lv_at hl 2 rfl) ?_
  obtain ⟨r_2, w_3, e_1, h⟩ := bd_s h
  refine x_goi X hS (x_runV (As := [.int x1, .int x2]) (rest := []) X gM_ok hP hS (ctX8_refused l D c3 ad w _ x1 x2 _ _ e_1) (cwV 2 hts gX8_at_X8_refused rfl rfl rfl (by decide +kernel) ⟨by decide, by decide⟩) (gM0 c3 ad w) rfl rfl rfl hl.1 rfl (Nat.le_of_ble_eq_true rfl) dX8_at_3) (fun H locs hP hS => ?_)
  refine lv_istore_n (lv' := [(3, .int r_2), (0, .ref (ad 0)), (1, .int x1), (2, .int x2)]) hx hb dX8_at_6 rfl hl (by decide) rfl (fun ls hl => ?_)
  refine lv_iload_n hx hb dX8_at_7 rfl (lv_at hl 0 rfl) ?_
  refine lv_if_eq (tgt := 15) hx hb dX8_at_8 (by decide) (fun c_4 => ?_) (fun c_4 => ?_)
  · replace h := it_p c_4 h
    refine lv_aload_n hx hb dX8_at_15 rfl (lv_at hl 1 rfl) ?_
    refine lv_aload_n hx hb dX8_at_16 rfl (lv_at hl 1 rfl) ?_
    refine x_get (rest := [.ref (ad 0)]) X hP (gM0 c3 ad w_3) rfl iwX8_at_X8 9 (by decide) lkX8_at_28 rfl dX8_at_17 ?_
    refine lv_bipush (v := 40) hx hb dX8_at_20 (by decide) ?_
    refine lv_iload_n hx hb dX8_at_22 rfl (lv_at hl 2 rfl) ?_
    refine lv_imul hx hb dX8_at_23 ?_
    refine lv_iload_n hx hb dX8_at_24 rfl (lv_at hl 3 rfl) ?_
    refine lv_iadd hx hb dX8_at_25 ?_
    obtain ⟨g_5, h⟩ := gd_s h
    refine x_iald X hP (gM7 c3 ad w_3) g_5 dX8_at_26 ?_
    obtain ⟨r_7, w_8, e_6, h⟩ := bd_s h
    refine x_goi X hS (x_runV (As := [.int (w_3.1 7 ((40 * x1) + x2).toNatClampNeg)]) (rest := []) X gM_ok hP hS (ctX8_tell l D c3 ad w_3 _ (w_3.1 7 ((40 * x1) + x2).toNatClampNeg) _ _ e_6) (cwV 1 hts gX8_at_X8_tell rfl rfl rfl (by decide +kernel) ⟨by decide, by decide⟩) (gM0 c3 ad w_3) rfl rfl rfl hl.1 rfl (Nat.le_of_ble_eq_true rfl) dX8_at_27) (fun H locs hP hS => ?_)
    obtain ⟨rfl, rfl⟩ := Prod.mk.inj (Option.some.inj h)
    exact hret _ _ _ _ hP hS dX8_at_30
  · replace h := it_n c_4 h
    refine lv_iload_n hx hb dX8_at_11 rfl (lv_at hl 0 rfl) ?_
    refine lv_goto (tgt := 30) hx hb dX8_at_12 (by decide) ?_
    obtain ⟨rfl, rfl⟩ := Prod.mk.inj (Option.some.inj h)
    exact hret _ _ _ _ hP hS dX8_at_30
def fX8_at (x1 : Int32) (x2 : Int32) (w : Mm) : Option (Int32 × Mm) := fX8_at_E x1 x2 w
theorem ctX8_at (l : Launch) (D : va_G) (c3 : C3) (ad : Nat → Nat) (w : Mm) (sz : Nat) (x1 : Int32) (x2 : Int32) (r : Int32) (w' : Mm) (h : fX8_at x1 x2 w = some (r, w')) : Ci l yX8_at wsX8_at rmX8_at D c3 (encM c3 ad) gM [.ref (ad 0), .int x1, .int x2] w sz r w' := by
  refine Ci.of (cc := cX8_at) (maxL := 4) (encM_ok c3 ad) (by decide) rfl (Nat.le_of_ble_eq_true rfl) ?_
  intro p e s m below meth c A Q ls X hret hP hS hl
  exact bX8_at_E X hret x1 x2 w _ _ ls hP hS hl h
theorem iwX8_tear_X8 : ∀ w ∈ wsX80, w ∈ wsX8_tear := fun _ h => List.mem_cons_of_mem _ (List.mem_append_right _ h)
theorem lkX8_tear_25 : Cond.fieldLink RX8 25 "StuckDoorModel" "sizes" "[I" ∈ wsX8_tear := by decide +kernel
def rmX8_tear : Room := { frames := 2, cells := 0, slots := 0, locals := 45 }
def fX8_tear_E (x1 : Int32) (w : Mm) : Option (Int32 × Mm) := bo (fX8_isRow x1) (fun r_2 => (if r_2 = 0 then some ((-1), w) else gd (inb x1 6 = true) ((if 0 ≤ (w.1 6 x1.toNatClampNeg) then nm (sA w 6 x1.toNatClampNeg (-1)) (fun w_7 => some (1, w_7)) else bd (fX8_find 1 w) (fun r_9 w_10 => some (r_9, w_10))))))
set_option maxRecDepth 20000 in
theorem bX8_tear_E {p : Program} {l : Launch} {e : Env} {s : State} {m : MethodId} {args : Array Value} {below : List Frame} {meth : Method} {c : Code} {Q : State → Prop} {D : va_G} {c3 : C3} {ad : Nat → Nat} {A : Nat → Prop} {r : Int32} {w' : Mm} (X : Cx p s m args c cX8_tear 2 RX8 wsX8_tear D c3 (encM c3 ad) gM A) (hret : Ri p l e (rmX8_tear) s m args below meth c Q cX8_tear D (encM c3 ad) A r w') : ∀ (x1 : Int32) (w : Mm) (H : Heap) (locs : List Loc) (ls : Array Slot), va_P D vwCl ((encM c3 ad) w) H → va_S A s.heap H locs → lv_has ls 2 [(0, .ref (ad 0)), (1, .int x1)] → fX8_tear_E x1 w = some (r, w') → W p l e (rmX8_tear) s m args below meth c H locs 0 0 Q (F0 m 0 ls []) := by
  have hx := X.1
  have hb := X.2.1
  have hml := X.2.2.1
  have hown := X.2.2.2.1
  have hts := X.2.2.2.2.1
  intro x1 w H locs ls hP hS hl h
  unfold fX8_tear_E at h
  refine lv_iload_n hx hb dX8_tear_0 rfl (lv_at hl 1 rfl) ?_
  obtain ⟨r_2, e_1, h⟩ := bo_s h
  refine x_goi X hS (x_runS (As := [.int x1]) (rest := []) X gM_ok hP hS (ctX8_isRow l D c3 ad w _ x1 _ e_1) (va_cwS 1 hts gX8_tear_X8_isRow rfl rfl rfl (by decide +kernel) ⟨by decide, by decide⟩) rfl hl.1 rfl (Nat.le_of_ble_eq_true rfl) dX8_tear_1) (fun H locs hP hS => ?_)
  refine lv_if_ne (tgt := 9) hx hb dX8_tear_4 (by decide) (fun c_4 => ?_) (fun c_4 => ?_)
  · replace h := it_n c_4 h
    refine lv_aload_n hx hb dX8_tear_9 rfl (lv_at hl 0 rfl) ?_
    refine x_get (rest := []) X hP (gM0 c3 ad w) rfl iwX8_tear_X8 8 (by decide) lkX8_tear_25 rfl dX8_tear_10 ?_
    refine lv_iload_n hx hb dX8_tear_13 rfl (lv_at hl 1 rfl) ?_
    obtain ⟨g_5, h⟩ := gd_s h
    refine x_iald X hP (gM6 c3 ad w) g_5 dX8_tear_14 ?_
    refine lv_if_ge (tgt := 24) hx hb dX8_tear_15 (by decide) (fun c_6 => ?_) (fun c_6 => ?_)
    · replace h := it_p c_6 h
      refine lv_aload_n hx hb dX8_tear_24 rfl (lv_at hl 0 rfl) ?_
      refine x_get (rest := []) X hP (gM0 c3 ad w) rfl iwX8_tear_X8 8 (by decide) lkX8_tear_25 rfl dX8_tear_25 ?_
      refine lv_iload_n hx hb dX8_tear_28 rfl (lv_at hl 1 rfl) ?_
      refine lv_iconst (v := (-1)) hx hb dX8_tear_29 (by decide) ?_
      refine x_iast X hP hS (gM6 c3 ad w) (sM6 c3 ad w _ _) g_5 dX8_tear_30 (fun H locs hP hS => ?_)
      refine x_nmw h hP (fun w_7 h hP => ?_)
      refine lv_iconst (v := 1) hx hb dX8_tear_31 (by decide) ?_
      obtain ⟨rfl, rfl⟩ := Prod.mk.inj (Option.some.inj h)
      exact hret _ _ _ _ hP hS dX8_tear_32
    · replace h := it_n c_6 h
      refine lv_aload_n hx hb dX8_tear_18 rfl (lv_at hl 0 rfl) ?_
      refine lv_iconst (v := 1) hx hb dX8_tear_19 (by decide) ?_
      obtain ⟨r_9, w_10, e_8, h⟩ := bd_s h
      refine x_goi X hS (x_runV (As := [.int 1]) (rest := []) X gM_ok hP hS (ctX8_find l D c3 ad w _ 1 _ _ e_8) (cwV 1 hts gX8_tear_X8_find rfl rfl rfl (by decide +kernel) ⟨by decide, by decide⟩) (gM0 c3 ad w) rfl rfl rfl hl.1 rfl (Nat.le_of_ble_eq_true rfl) dX8_tear_20) (fun H locs hP hS => ?_)
      obtain ⟨rfl, rfl⟩ := Prod.mk.inj (Option.some.inj h)
      exact hret _ _ _ _ hP hS dX8_tear_23
  · replace h := it_p c_4 h
    refine lv_iconst (v := (-1)) hx hb dX8_tear_7 (by decide) ?_
    obtain ⟨rfl, rfl⟩ := Prod.mk.inj (Option.some.inj h)
    exact hret _ _ _ _ hP hS dX8_tear_8
def fX8_tear (x1 : Int32) (w : Mm) : Option (Int32 × Mm) := fX8_tear_E x1 w
theorem ctX8_tear (l : Launch) (D : va_G) (c3 : C3) (ad : Nat → Nat) (w : Mm) (sz : Nat) (x1 : Int32) (r : Int32) (w' : Mm) (h : fX8_tear x1 w = some (r, w')) : Ci l yX8_tear wsX8_tear rmX8_tear D c3 (encM c3 ad) gM [.ref (ad 0), .int x1] w sz r w' := by
  refine Ci.of (cc := cX8_tear) (maxL := 2) (encM_ok c3 ad) (by decide) rfl (Nat.le_of_ble_eq_true rfl) ?_
  intro p e s m below meth c A Q ls X hret hP hS hl
  exact bX8_tear_E X hret x1 w _ _ ls hP hS hl h
theorem iwX8_isSpan_X8 : ∀ w ∈ wsX80, w ∈ wsX8_isSpan := fun _ h => List.mem_cons_of_mem _ (List.mem_append_right _ h)
theorem lkX8_isSpan_25 : Cond.fieldLink RX8 25 "StuckDoorModel" "sizes" "[I" ∈ wsX8_isSpan := by decide +kernel
def rmX8_isSpan : Room := { frames := 0, cells := 0, slots := 0, locals := 0 }
def fX8_isSpan_E (x1 : Int32) (x2 : Int32) (x3 : Int32) (w : Mm) : Option (Int32) := (if x2 < 0 then some 0 else gd (inb x1 6 = true) ((if 0 < (lg_cmp (x2.toInt64 + x3.toInt64) ((w.1 6 x1.toNatClampNeg).toInt64)) then some 0 else some 1)))
set_option maxRecDepth 20000 in
theorem bX8_isSpan_E {p : Program} {l : Launch} {e : Env} {s : State} {m : MethodId} {args : Array Value} {below : List Frame} {meth : Method} {c : Code} {Q : State → Prop} {D : va_G} {c3 : C3} {ad : Nat → Nat} {A : Nat → Prop} {r : Int32} {w : Mm} (X : Cx p s m args c cX8_isSpan 4 RX8 wsX8_isSpan D c3 (encM c3 ad) gM A) (hret : Rz p l e (rmX8_isSpan) s m args below meth c Q cX8_isSpan D (encM c3 ad) A r w) : ∀ (x1 : Int32) (x2 : Int32) (x3 : Int32) (H : Heap) (locs : List Loc) (ls : Array Slot), va_P D vwCl ((encM c3 ad) w) H → va_S A s.heap H locs → lv_has ls 4 [(0, .ref (ad 0)), (1, .int x1), (2, .int x2), (3, .int x3)] → fX8_isSpan_E x1 x2 x3 w = some r → W p l e (rmX8_isSpan) s m args below meth c H locs 0 0 Q (F0 m 0 ls []) := by
  have hx := X.1
  have hb := X.2.1
  have hml := X.2.2.1
  have hown := X.2.2.2.1
  have hts := X.2.2.2.2.1
  intro x1 x2 x3 H locs ls hP hS hl h
  unfold fX8_isSpan_E at h
  refine lv_iload_n hx hb dX8_isSpan_0 rfl (lv_at hl 2 rfl) ?_
  refine lv_if_lt (tgt := 24) hx hb dX8_isSpan_1 (by decide) (fun c_1 => ?_) (fun c_1 => ?_)
  · replace h := it_p c_1 h
    refine lv_iconst (v := 0) hx hb dX8_isSpan_24 (by decide) ?_
    obtain rfl := Option.some.inj h
    exact hret (Or.inl rfl) _ _ _ _ hP hS dX8_isSpan_25
  · replace h := it_n c_1 h
    refine lv_iload_n hx hb dX8_isSpan_4 rfl (lv_at hl 2 rfl) ?_
    refine lv_i2l (v := x2.toInt64) hx hb dX8_isSpan_5 rfl ?_
    refine lv_iload_n hx hb dX8_isSpan_6 rfl (lv_at hl 3 rfl) ?_
    refine lv_i2l (v := x3.toInt64) hx hb dX8_isSpan_7 rfl ?_
    refine lv_ladd hx hb dX8_isSpan_8 ?_
    refine lv_aload_n hx hb dX8_isSpan_9 rfl (lv_at hl 0 rfl) ?_
    refine x_get (rest := [.long (x2.toInt64 + x3.toInt64)]) X hP (gM0 c3 ad w) rfl iwX8_isSpan_X8 8 (by decide) lkX8_isSpan_25 rfl dX8_isSpan_10 ?_
    refine lv_iload_n hx hb dX8_isSpan_13 rfl (lv_at hl 1 rfl) ?_
    obtain ⟨g_2, h⟩ := gd_s h
    refine x_iald X hP (gM6 c3 ad w) g_2 dX8_isSpan_14 ?_
    refine lv_i2l (v := (w.1 6 x1.toNatClampNeg).toInt64) hx hb dX8_isSpan_15 rfl ?_
    refine W.lcmp hx hb dX8_isSpan_16 ?_
    refine lv_if_gt (tgt := 24) hx hb dX8_isSpan_17 (by decide) (fun c_3 => ?_) (fun c_3 => ?_)
    · replace h := it_p c_3 h
      refine lv_iconst (v := 0) hx hb dX8_isSpan_24 (by decide) ?_
      obtain rfl := Option.some.inj h
      exact hret (Or.inl rfl) _ _ _ _ hP hS dX8_isSpan_25
    · replace h := it_n c_3 h
      refine lv_iconst (v := 1) hx hb dX8_isSpan_20 (by decide) ?_
      refine lv_goto (tgt := 25) hx hb dX8_isSpan_21 (by decide) ?_
      obtain rfl := Option.some.inj h
      exact hret (Or.inr rfl) _ _ _ _ hP hS dX8_isSpan_25
def fX8_isSpan (x1 : Int32) (x2 : Int32) (x3 : Int32) (w : Mm) : Option (Int32) := fX8_isSpan_E x1 x2 x3 w
theorem ctX8_isSpan (l : Launch) (D : va_G) (c3 : C3) (ad : Nat → Nat) (w : Mm) (sz : Nat) (x1 : Int32) (x2 : Int32) (x3 : Int32) (r : Int32) (h : fX8_isSpan x1 x2 x3 w = some r) : Ci l yX8_isSpan wsX8_isSpan rmX8_isSpan D c3 (encM c3 ad) gM [.ref (ad 0), .int x1, .int x2, .int x3] w sz r w := by
  refine Ci.ofz (cc := cX8_isSpan) (maxL := 4) (encM_ok c3 ad) (by decide) rfl (Nat.le_of_ble_eq_true rfl) ?_
  intro p e s m below meth c A Q ls X hret hP hS hl
  exact bX8_isSpan_E X hret x1 x2 x3 _ _ ls hP hS hl h
theorem iwX8_copy_X8 : ∀ w ∈ wsX80, w ∈ wsX8_copy := fun _ h => List.mem_cons_of_mem _ (List.mem_append_right _ h)
theorem lkX8_copy_25 : Cond.fieldLink RX8 25 "StuckDoorModel" "sizes" "[I" ∈ wsX8_copy := by decide +kernel
theorem lkX8_copy_28 : Cond.fieldLink RX8 28 "StuckDoorModel" "items" "[I" ∈ wsX8_copy := by decide +kernel
def rmX8_copy : Room := { frames := 2, cells := 0, slots := 0, locals := 45 }
def fX8_copy_120 (k96 : Int32 → Mm → Option (Int32 × Mm)) (x1 : Int32) (x2 : Int32) (x3 : Int32) (x4 : Int32) (x5 : Int32) (x6 : Int32) (x7 : Int32) (z0 : Int32) (w : Mm) : Option (Int32 × Mm) := gd (inb (((40 * x1) + x2) + z0) 240 = true) (gd (inb (((40 * x3) + x4) + z0) 240 = true) (nm (sA w 7 (((40 * x3) + x4) + z0).toNatClampNeg (w.1 7 (((40 * x1) + x2) + z0).toNatClampNeg)) (fun w_3 => k96 (x7 + 1) w_3)))
set_option maxRecDepth 20000 in
theorem bX8_copy_120 {p : Program} {l : Launch} {e : Env} {s : State} {m : MethodId} {args : Array Value} {below : List Frame} {meth : Method} {c : Code} {Q : State → Prop} {D : va_G} {c3 : C3} {ad : Nat → Nat} {A : Nat → Prop} {r : Int32} {w' : Mm} (X : Cx p s m args c cX8_copy 9 RX8 wsX8_copy D c3 (encM c3 ad) gM A) (hret : Ri p l e (rmX8_copy) s m args below meth c Q cX8_copy D (encM c3 ad) A r w') {x1 : Int32} {x2 : Int32} {x3 : Int32} {x4 : Int32} {x5 : Int32} {x6 : Int32} {k96 : Int32 → Mm → Option (Int32 × Mm)} (hk96 : ∀ (x7 : Int32) (w : Mm) (H : Heap) (locs : List Loc) (ls : Array Slot), va_P D vwCl ((encM c3 ad) w) H → va_S A s.heap H locs → lv_has ls 9 [(0, .ref (ad 0)), (1, .int x1), (2, .int x2), (3, .int x3), (4, .int x4), (5, .int x5), (6, .int x6), (7, .int x7)] → k96 x7 w = some (r, w') → W p l e (rmX8_copy) s m args below meth c H locs 0 0 Q (F0 m 96 ls [])) : ∀ (x7 : Int32) (z0 : Int32) (w : Mm) (H : Heap) (locs : List Loc) (ls : Array Slot), va_P D vwCl ((encM c3 ad) w) H → va_S A s.heap H locs → lv_has ls 9 [(0, .ref (ad 0)), (1, .int x1), (2, .int x2), (3, .int x3), (4, .int x4), (5, .int x5), (6, .int x6), (7, .int x7)] → fX8_copy_120 k96 x1 x2 x3 x4 x5 x6 x7 z0 w = some (r, w') → W p l e (rmX8_copy) s m args below meth c H locs 0 0 Q (F0 m 120 ls [.int z0]) := by
  have hx := X.1
  have hb := X.2.1
  have hml := X.2.2.1
  have hown := X.2.2.2.1
  have hts := X.2.2.2.2.1
  intro x7 z0 w H locs ls hP hS hl h
  unfold fX8_copy_120 at h
  refine lv_istore (lv' := [(8, .int z0), (0, .ref (ad 0)), (1, .int x1), (2, .int x2), (3, .int x3), (4, .int x4), (5, .int x5), (6, .int x6), (7, .int x7)]) hx hb dX8_copy_120 hl (by decide) rfl (fun ls hl => ?_)
  refine lv_aload_n hx hb dX8_copy_122 rfl (lv_at hl 1 rfl) ?_
  refine x_get (rest := []) X hP (gM0 c3 ad w) rfl iwX8_copy_X8 9 (by decide) lkX8_copy_28 rfl dX8_copy_123 ?_
  refine lv_bipush (v := 40) hx hb dX8_copy_126 (by decide) ?_
  refine lv_iload_n hx hb dX8_copy_128 rfl (lv_at hl 4 rfl) ?_
  refine lv_imul hx hb dX8_copy_129 ?_
  refine lv_iload hx hb dX8_copy_130 (lv_at hl 5 rfl) ?_
  refine lv_iadd hx hb dX8_copy_132 ?_
  refine lv_iload hx hb dX8_copy_133 (lv_at hl 0 rfl) ?_
  refine lv_iadd hx hb dX8_copy_135 ?_
  refine lv_aload_n hx hb dX8_copy_136 rfl (lv_at hl 1 rfl) ?_
  refine x_get (rest := [.int (((40 * x3) + x4) + z0), .ref (ad 7)]) X hP (gM0 c3 ad w) rfl iwX8_copy_X8 9 (by decide) lkX8_copy_28 rfl dX8_copy_137 ?_
  refine lv_bipush (v := 40) hx hb dX8_copy_140 (by decide) ?_
  refine lv_iload_n hx hb dX8_copy_142 rfl (lv_at hl 2 rfl) ?_
  refine lv_imul hx hb dX8_copy_143 ?_
  refine lv_iload_n hx hb dX8_copy_144 rfl (lv_at hl 3 rfl) ?_
  refine lv_iadd hx hb dX8_copy_145 ?_
  refine lv_iload hx hb dX8_copy_146 (lv_at hl 0 rfl) ?_
  refine lv_iadd hx hb dX8_copy_148 ?_
  obtain ⟨g_1, h⟩ := gd_s h
  refine x_iald X hP (gM7 c3 ad w) g_1 dX8_copy_149 ?_
  obtain ⟨g_2, h⟩ := gd_s h
  refine x_iast X hP hS (gM7 c3 ad w) (sM7 c3 ad w _ _) g_2 dX8_copy_150 (fun H locs hP hS => ?_)
  refine x_nmw h hP (fun w_3 h hP => ?_)
  refine lv_iinc (v := (x7 + 1)) (lv' := [(7, .int (x7 + 1)), (8, .int z0), (0, .ref (ad 0)), (1, .int x1), (2, .int x2), (3, .int x3), (4, .int x4), (5, .int x5), (6, .int x6)]) hx hb dX8_copy_151 hl (k := 8) rfl rfl (by decide) rfl (fun ls hl => ?_)
  refine lv_goto (tgt := 96) hx hb dX8_copy_154 (by decide) ?_
  exact hk96 (x7 + 1) w_3 _ _ _ hP hS (lv_sub hl [2, 3, 4, 5, 6, 7, 8, 0] rfl) h
def fX8_copy_96 (x1 : Int32) (x2 : Int32) (x3 : Int32) (x4 : Int32) (x5 : Int32) (x6 : Int32) : Nat → Int32 → Mm → Option (Int32 × Mm)
  | 0, _, _ => none
  | n + 1, x7, w => (if x5 ≤ x7 then some (1, w) else (if x6 = 0 then fX8_copy_120 (fX8_copy_96 x1 x2 x3 x4 x5 x6 n) x1 x2 x3 x4 x5 x6 x7 x7 w else fX8_copy_120 (fX8_copy_96 x1 x2 x3 x4 x5 x6 n) x1 x2 x3 x4 x5 x6 x7 ((x5 - 1) - x7) w))
set_option maxRecDepth 20000 in
theorem bX8_copy_96 {p : Program} {l : Launch} {e : Env} {s : State} {m : MethodId} {args : Array Value} {below : List Frame} {meth : Method} {c : Code} {Q : State → Prop} {D : va_G} {c3 : C3} {ad : Nat → Nat} {A : Nat → Prop} {r : Int32} {w' : Mm} (X : Cx p s m args c cX8_copy 9 RX8 wsX8_copy D c3 (encM c3 ad) gM A) (hret : Ri p l e (rmX8_copy) s m args below meth c Q cX8_copy D (encM c3 ad) A r w') : ∀ (x1 : Int32) (x2 : Int32) (x3 : Int32) (x4 : Int32) (x5 : Int32) (x6 : Int32) (n : Nat) (x7 : Int32) (w : Mm) (H : Heap) (locs : List Loc) (ls : Array Slot), va_P D vwCl ((encM c3 ad) w) H → va_S A s.heap H locs → lv_has ls 9 [(0, .ref (ad 0)), (1, .int x1), (2, .int x2), (3, .int x3), (4, .int x4), (5, .int x5), (6, .int x6), (7, .int x7)] → fX8_copy_96 x1 x2 x3 x4 x5 x6 n x7 w = some (r, w') → W p l e (rmX8_copy) s m args below meth c H locs 0 0 Q (F0 m 96 ls []) := by
  have hx := X.1
  have hb := X.2.1
  have hml := X.2.2.1
  have hown := X.2.2.2.1
  have hts := X.2.2.2.2.1
  intro x1 x2 x3 x4 x5 x6 n
  induction n with
  | zero =>
    intro x7 w H locs ls hP hS hl h
    exact absurd h (by simp [fX8_copy_96])
  | succ n ih =>
    intro x7 w H locs ls hP hS hl h
    rw [fX8_copy_96] at h
    refine lv_iload hx hb dX8_copy_96 (lv_at hl 7 rfl) ?_
    refine lv_iload hx hb dX8_copy_98 (lv_at hl 5 rfl) ?_
    refine lv_icmp_ge (tgt := 157) hx hb dX8_copy_100 (by decide) (fun c_4 => ?_) (fun c_4 => ?_)
    · replace h := it_p c_4 h
      refine lv_iconst (v := 1) hx hb dX8_copy_157 (by decide) ?_
      obtain ⟨rfl, rfl⟩ := Prod.mk.inj (Option.some.inj h)
      exact hret _ _ _ _ hP hS dX8_copy_158
    · replace h := it_n c_4 h
      refine lv_iload hx hb dX8_copy_103 (lv_at hl 6 rfl) ?_
      refine lv_if_eq (tgt := 118) hx hb dX8_copy_105 (by decide) (fun c_5 => ?_) (fun c_5 => ?_)
      · replace h := it_p c_5 h
        refine lv_iload hx hb dX8_copy_118 (lv_at hl 7 rfl) ?_
        exact bX8_copy_120 (x1 := x1) (x2 := x2) (x3 := x3) (x4 := x4) (x5 := x5) (x6 := x6) (k96 := (fX8_copy_96 x1 x2 x3 x4 x5 x6 n)) X hret ih x7 x7 w _ _ _ hP hS (lv_sub hl [0, 1, 2, 3, 4, 5, 6, 7] rfl) h
      · replace h := it_n c_5 h
        refine lv_iload hx hb dX8_copy_108 (lv_at hl 5 rfl) ?_
        refine lv_iconst (v := 1) hx hb dX8_copy_110 (by decide) ?_
        refine lv_isub hx hb dX8_copy_111 ?_
        refine lv_iload hx hb dX8_copy_112 (lv_at hl 7 rfl) ?_
        refine lv_isub hx hb dX8_copy_114 ?_
        refine lv_goto (tgt := 120) hx hb dX8_copy_115 (by decide) ?_
        exact bX8_copy_120 (x1 := x1) (x2 := x2) (x3 := x3) (x4 := x4) (x5 := x5) (x6 := x6) (k96 := (fX8_copy_96 x1 x2 x3 x4 x5 x6 n)) X hret ih x7 ((x5 - 1) - x7) w _ _ _ hP hS (lv_sub hl [0, 1, 2, 3, 4, 5, 6, 7] rfl) h
def fX8_copy_91 (x1 : Int32) (x2 : Int32) (x3 : Int32) (x4 : Int32) (x5 : Int32) (z0 : Int32) (w : Mm) : Option (Int32 × Mm) := fX8_copy_96 x1 x2 x3 x4 x5 z0 FU 0 w
set_option maxRecDepth 20000 in
theorem bX8_copy_91 {p : Program} {l : Launch} {e : Env} {s : State} {m : MethodId} {args : Array Value} {below : List Frame} {meth : Method} {c : Code} {Q : State → Prop} {D : va_G} {c3 : C3} {ad : Nat → Nat} {A : Nat → Prop} {r : Int32} {w' : Mm} (X : Cx p s m args c cX8_copy 9 RX8 wsX8_copy D c3 (encM c3 ad) gM A) (hret : Ri p l e (rmX8_copy) s m args below meth c Q cX8_copy D (encM c3 ad) A r w') : ∀ (x1 : Int32) (x2 : Int32) (x3 : Int32) (x4 : Int32) (x5 : Int32) (z0 : Int32) (w : Mm) (H : Heap) (locs : List Loc) (ls : Array Slot), va_P D vwCl ((encM c3 ad) w) H → va_S A s.heap H locs → lv_has ls 9 [(0, .ref (ad 0)), (1, .int x1), (2, .int x2), (3, .int x3), (4, .int x4), (5, .int x5)] → fX8_copy_91 x1 x2 x3 x4 x5 z0 w = some (r, w') → W p l e (rmX8_copy) s m args below meth c H locs 0 0 Q (F0 m 91 ls [.int z0]) := by
  have hx := X.1
  have hb := X.2.1
  have hml := X.2.2.1
  have hown := X.2.2.2.1
  have hts := X.2.2.2.2.1
  intro x1 x2 x3 x4 x5 z0 w H locs ls hP hS hl h
  unfold fX8_copy_91 at h
  refine lv_istore (lv' := [(6, .int z0), (0, .ref (ad 0)), (1, .int x1), (2, .int x2), (3, .int x3), (4, .int x4), (5, .int x5)]) hx hb dX8_copy_91 hl (by decide) rfl (fun ls hl => ?_)
  refine lv_iconst (v := 0) hx hb dX8_copy_93 (by decide) ?_
  refine lv_istore (lv' := [(7, .int 0), (6, .int z0), (0, .ref (ad 0)), (1, .int x1), (2, .int x2), (3, .int x3), (4, .int x4), (5, .int x5)]) hx hb dX8_copy_94 hl (by decide) rfl (fun ls hl => ?_)
  exact bX8_copy_96 X hret x1 x2 x3 x4 x5 z0 FU 0 w _ _ _ hP hS (lv_sub hl [2, 3, 4, 5, 6, 7, 1, 0] rfl) h
def fX8_copy_74 (w : Mm) : Option (Int32 × Mm) := bd (fX8_find 2 w) (fun r_7 w_8 => some (r_7, w_8))
set_option maxRecDepth 20000 in
theorem bX8_copy_74 {p : Program} {l : Launch} {e : Env} {s : State} {m : MethodId} {args : Array Value} {below : List Frame} {meth : Method} {c : Code} {Q : State → Prop} {D : va_G} {c3 : C3} {ad : Nat → Nat} {A : Nat → Prop} {r : Int32} {w' : Mm} (X : Cx p s m args c cX8_copy 9 RX8 wsX8_copy D c3 (encM c3 ad) gM A) (hret : Ri p l e (rmX8_copy) s m args below meth c Q cX8_copy D (encM c3 ad) A r w') : ∀ (w : Mm) (H : Heap) (locs : List Loc) (ls : Array Slot), va_P D vwCl ((encM c3 ad) w) H → va_S A s.heap H locs → lv_has ls 9 [(0, .ref (ad 0))] → fX8_copy_74 w = some (r, w') → W p l e (rmX8_copy) s m args below meth c H locs 0 0 Q (F0 m 74 ls []) := by
  have hx := X.1
  have hb := X.2.1
  have hml := X.2.2.1
  have hown := X.2.2.2.1
  have hts := X.2.2.2.2.1
  intro w H locs ls hP hS hl h
  unfold fX8_copy_74 at h
  refine lv_aload_n hx hb dX8_copy_74 rfl (lv_at hl 0 rfl) ?_
  refine lv_iconst (v := 2) hx hb dX8_copy_75 (by decide) ?_
  obtain ⟨r_7, w_8, e_6, h⟩ := bd_s h
  refine x_goi X hS (x_runV (As := [.int 2]) (rest := []) X gM_ok hP hS (ctX8_find l D c3 ad w _ 2 _ _ e_6) (cwV 1 hts gX8_copy_X8_find rfl rfl rfl (by decide +kernel) ⟨by decide, by decide⟩) (gM0 c3 ad w) rfl rfl rfl hl.1 rfl (Nat.le_of_ble_eq_true rfl) dX8_copy_76) (fun H locs hP hS => ?_)
  obtain ⟨rfl, rfl⟩ := Prod.mk.inj (Option.some.inj h)
  exact hret _ _ _ _ hP hS dX8_copy_79
def fX8_copy_45 (w : Mm) : Option (Int32 × Mm) := bd (fX8_find 1 w) (fun r_10 w_11 => some (r_10, w_11))
set_option maxRecDepth 20000 in
theorem bX8_copy_45 {p : Program} {l : Launch} {e : Env} {s : State} {m : MethodId} {args : Array Value} {below : List Frame} {meth : Method} {c : Code} {Q : State → Prop} {D : va_G} {c3 : C3} {ad : Nat → Nat} {A : Nat → Prop} {r : Int32} {w' : Mm} (X : Cx p s m args c cX8_copy 9 RX8 wsX8_copy D c3 (encM c3 ad) gM A) (hret : Ri p l e (rmX8_copy) s m args below meth c Q cX8_copy D (encM c3 ad) A r w') : ∀ (w : Mm) (H : Heap) (locs : List Loc) (ls : Array Slot), va_P D vwCl ((encM c3 ad) w) H → va_S A s.heap H locs → lv_has ls 9 [(0, .ref (ad 0))] → fX8_copy_45 w = some (r, w') → W p l e (rmX8_copy) s m args below meth c H locs 0 0 Q (F0 m 45 ls []) := by
  have hx := X.1
  have hb := X.2.1
  have hml := X.2.2.1
  have hown := X.2.2.2.1
  have hts := X.2.2.2.2.1
  intro w H locs ls hP hS hl h
  unfold fX8_copy_45 at h
  refine lv_aload_n hx hb dX8_copy_45 rfl (lv_at hl 0 rfl) ?_
  refine lv_iconst (v := 1) hx hb dX8_copy_46 (by decide) ?_
  obtain ⟨r_10, w_11, e_9, h⟩ := bd_s h
  refine x_goi X hS (x_runV (As := [.int 1]) (rest := []) X gM_ok hP hS (ctX8_find l D c3 ad w _ 1 _ _ e_9) (cwV 1 hts gX8_copy_X8_find rfl rfl rfl (by decide +kernel) ⟨by decide, by decide⟩) (gM0 c3 ad w) rfl rfl rfl hl.1 rfl (Nat.le_of_ble_eq_true rfl) dX8_copy_47) (fun H locs hP hS => ?_)
  obtain ⟨rfl, rfl⟩ := Prod.mk.inj (Option.some.inj h)
  exact hret _ _ _ _ hP hS dX8_copy_50
def fX8_copy_E (x1 : Int32) (x2 : Int32) (x3 : Int32) (x4 : Int32) (x5 : Int32) (w : Mm) : Option (Int32 × Mm) := bo (fX8_isRow x1) (fun r_13 => (if r_13 = 0 then some ((-1), w) else bo (fX8_isRow x3) (fun r_17 => (if r_17 = 0 then some ((-1), w) else (if 0 ≤ x5 then gd (inb x1 6 = true) ((if (w.1 6 x1.toNatClampNeg) < 0 then fX8_copy_45 w else gd (inb x3 6 = true) ((if 0 ≤ (w.1 6 x3.toNatClampNeg) then bo (fX8_isSpan x1 x2 x5 w) (fun r_26 => (if r_26 = 0 then fX8_copy_74 w else bo (fX8_isSpan x3 x4 x5 w) (fun r_30 => (if r_30 = 0 then fX8_copy_74 w else (if x4 ≤ x2 then fX8_copy_91 x1 x2 x3 x4 x5 0 w else fX8_copy_91 x1 x2 x3 x4 x5 1 w))))) else fX8_copy_45 w)))) else bd (fX8_find 5 w) (fun r_35 w_36 => some (r_35, w_36)))))))
set_option maxRecDepth 20000 in
theorem bX8_copy_E {p : Program} {l : Launch} {e : Env} {s : State} {m : MethodId} {args : Array Value} {below : List Frame} {meth : Method} {c : Code} {Q : State → Prop} {D : va_G} {c3 : C3} {ad : Nat → Nat} {A : Nat → Prop} {r : Int32} {w' : Mm} (X : Cx p s m args c cX8_copy 9 RX8 wsX8_copy D c3 (encM c3 ad) gM A) (hret : Ri p l e (rmX8_copy) s m args below meth c Q cX8_copy D (encM c3 ad) A r w') : ∀ (x1 : Int32) (x2 : Int32) (x3 : Int32) (x4 : Int32) (x5 : Int32) (w : Mm) (H : Heap) (locs : List Loc) (ls : Array Slot), va_P D vwCl ((encM c3 ad) w) H → va_S A s.heap H locs → lv_has ls 9 [(0, .ref (ad 0)), (1, .int x1), (2, .int x2), (3, .int x3), (4, .int x4), (5, .int x5)] → fX8_copy_E x1 x2 x3 x4 x5 w = some (r, w') → W p l e (rmX8_copy) s m args below meth c H locs 0 0 Q (F0 m 0 ls []) := by
  have hx := X.1
  have hb := X.2.1
  have hml := X.2.2.1
  have hown := X.2.2.2.1
  have hts := X.2.2.2.2.1
  intro x1 x2 x3 x4 x5 w H locs ls hP hS hl h
  unfold fX8_copy_E at h
  refine lv_iload_n hx hb dX8_copy_0 rfl (lv_at hl 1 rfl) ?_
  obtain ⟨r_13, e_12, h⟩ := bo_s h
  refine x_goi X hS (x_runS (As := [.int x1]) (rest := []) X gM_ok hP hS (ctX8_isRow l D c3 ad w _ x1 _ e_12) (va_cwS 1 hts gX8_copy_X8_isRow rfl rfl rfl (by decide +kernel) ⟨by decide, by decide⟩) rfl hl.1 rfl (Nat.le_of_ble_eq_true rfl) dX8_copy_1) (fun H locs hP hS => ?_)
  refine lv_if_eq (tgt := 14) hx hb dX8_copy_4 (by decide) (fun c_15 => ?_) (fun c_15 => ?_)
  · replace h := it_p c_15 h
    refine lv_iconst (v := (-1)) hx hb dX8_copy_14 (by decide) ?_
    obtain ⟨rfl, rfl⟩ := Prod.mk.inj (Option.some.inj h)
    exact hret _ _ _ _ hP hS dX8_copy_15
  · replace h := it_n c_15 h
    refine lv_iload_n hx hb dX8_copy_7 rfl (lv_at hl 3 rfl) ?_
    obtain ⟨r_17, e_16, h⟩ := bo_s h
    refine x_goi X hS (x_runS (As := [.int x3]) (rest := []) X gM_ok hP hS (ctX8_isRow l D c3 ad w _ x3 _ e_16) (va_cwS 1 hts gX8_copy_X8_isRow rfl rfl rfl (by decide +kernel) ⟨by decide, by decide⟩) rfl hl.1 rfl (Nat.le_of_ble_eq_true rfl) dX8_copy_8) (fun H locs hP hS => ?_)
    refine lv_if_ne (tgt := 16) hx hb dX8_copy_11 (by decide) (fun c_19 => ?_) (fun c_19 => ?_)
    · replace h := it_n c_19 h
      refine lv_iload hx hb dX8_copy_16 (lv_at hl 5 rfl) ?_
      refine lv_if_ge (tgt := 27) hx hb dX8_copy_18 (by decide) (fun c_20 => ?_) (fun c_20 => ?_)
      · replace h := it_p c_20 h
        refine lv_aload_n hx hb dX8_copy_27 rfl (lv_at hl 0 rfl) ?_
        refine x_get (rest := []) X hP (gM0 c3 ad w) rfl iwX8_copy_X8 8 (by decide) lkX8_copy_25 rfl dX8_copy_28 ?_
        refine lv_iload_n hx hb dX8_copy_31 rfl (lv_at hl 1 rfl) ?_
        obtain ⟨g_21, h⟩ := gd_s h
        refine x_iald X hP (gM6 c3 ad w) g_21 dX8_copy_32 ?_
        refine lv_if_lt (tgt := 45) hx hb dX8_copy_33 (by decide) (fun c_22 => ?_) (fun c_22 => ?_)
        · replace h := it_p c_22 h
          exact bX8_copy_45 X hret w _ _ _ hP hS (lv_sub hl [0] rfl) h
        · replace h := it_n c_22 h
          refine lv_aload_n hx hb dX8_copy_36 rfl (lv_at hl 0 rfl) ?_
          refine x_get (rest := []) X hP (gM0 c3 ad w) rfl iwX8_copy_X8 8 (by decide) lkX8_copy_25 rfl dX8_copy_37 ?_
          refine lv_iload_n hx hb dX8_copy_40 rfl (lv_at hl 3 rfl) ?_
          obtain ⟨g_23, h⟩ := gd_s h
          refine x_iald X hP (gM6 c3 ad w) g_23 dX8_copy_41 ?_
          refine lv_if_ge (tgt := 51) hx hb dX8_copy_42 (by decide) (fun c_24 => ?_) (fun c_24 => ?_)
          · replace h := it_p c_24 h
            refine lv_aload_n hx hb dX8_copy_51 rfl (lv_at hl 0 rfl) ?_
            refine lv_iload_n hx hb dX8_copy_52 rfl (lv_at hl 1 rfl) ?_
            refine lv_iload_n hx hb dX8_copy_53 rfl (lv_at hl 2 rfl) ?_
            refine lv_iload hx hb dX8_copy_54 (lv_at hl 5 rfl) ?_
            obtain ⟨r_26, e_25, h⟩ := bo_s h
            refine x_goi X hS (x_runV (As := [.int x1, .int x2, .int x5]) (rest := []) X gM_ok hP hS (ctX8_isSpan l D c3 ad w _ x1 x2 x5 _ e_25) (cwV 3 hts gX8_copy_X8_isSpan rfl rfl rfl (by decide +kernel) ⟨by decide, by decide⟩) (gM0 c3 ad w) rfl rfl rfl hl.1 rfl (Nat.le_of_ble_eq_true rfl) dX8_copy_56) (fun H locs hP hS => ?_)
            refine lv_if_eq (tgt := 74) hx hb dX8_copy_59 (by decide) (fun c_28 => ?_) (fun c_28 => ?_)
            · replace h := it_p c_28 h
              exact bX8_copy_74 X hret w _ _ _ hP hS (lv_sub hl [0] rfl) h
            · replace h := it_n c_28 h
              refine lv_aload_n hx hb dX8_copy_62 rfl (lv_at hl 0 rfl) ?_
              refine lv_iload_n hx hb dX8_copy_63 rfl (lv_at hl 3 rfl) ?_
              refine lv_iload hx hb dX8_copy_64 (lv_at hl 4 rfl) ?_
              refine lv_iload hx hb dX8_copy_66 (lv_at hl 5 rfl) ?_
              obtain ⟨r_30, e_29, h⟩ := bo_s h
              refine x_goi X hS (x_runV (As := [.int x3, .int x4, .int x5]) (rest := []) X gM_ok hP hS (ctX8_isSpan l D c3 ad w _ x3 x4 x5 _ e_29) (cwV 3 hts gX8_copy_X8_isSpan rfl rfl rfl (by decide +kernel) ⟨by decide, by decide⟩) (gM0 c3 ad w) rfl rfl rfl hl.1 rfl (Nat.le_of_ble_eq_true rfl) dX8_copy_68) (fun H locs hP hS => ?_)
              refine lv_if_ne (tgt := 80) hx hb dX8_copy_71 (by decide) (fun c_32 => ?_) (fun c_32 => ?_)
              · replace h := it_n c_32 h
                refine lv_iload_n hx hb dX8_copy_80 rfl (lv_at hl 2 rfl) ?_
                refine lv_iload hx hb dX8_copy_81 (lv_at hl 4 rfl) ?_
                refine lv_icmp_ge (tgt := 90) hx hb dX8_copy_83 (by decide) (fun c_33 => ?_) (fun c_33 => ?_)
                · replace h := it_p c_33 h
                  refine lv_iconst (v := 0) hx hb dX8_copy_90 (by decide) ?_
                  exact bX8_copy_91 X hret x1 x2 x3 x4 x5 0 w _ _ _ hP hS (lv_sub hl [0, 1, 2, 3, 4, 5] rfl) h
                · replace h := it_n c_33 h
                  refine lv_iconst (v := 1) hx hb dX8_copy_86 (by decide) ?_
                  refine lv_goto (tgt := 91) hx hb dX8_copy_87 (by decide) ?_
                  exact bX8_copy_91 X hret x1 x2 x3 x4 x5 1 w _ _ _ hP hS (lv_sub hl [0, 1, 2, 3, 4, 5] rfl) h
              · replace h := it_p c_32 h
                exact bX8_copy_74 X hret w _ _ _ hP hS (lv_sub hl [0] rfl) h
          · replace h := it_n c_24 h
            exact bX8_copy_45 X hret w _ _ _ hP hS (lv_sub hl [0] rfl) h
      · replace h := it_n c_20 h
        refine lv_aload_n hx hb dX8_copy_21 rfl (lv_at hl 0 rfl) ?_
        refine lv_iconst (v := 5) hx hb dX8_copy_22 (by decide) ?_
        obtain ⟨r_35, w_36, e_34, h⟩ := bd_s h
        refine x_goi X hS (x_runV (As := [.int 5]) (rest := []) X gM_ok hP hS (ctX8_find l D c3 ad w _ 5 _ _ e_34) (cwV 1 hts gX8_copy_X8_find rfl rfl rfl (by decide +kernel) ⟨by decide, by decide⟩) (gM0 c3 ad w) rfl rfl rfl hl.1 rfl (Nat.le_of_ble_eq_true rfl) dX8_copy_23) (fun H locs hP hS => ?_)
        obtain ⟨rfl, rfl⟩ := Prod.mk.inj (Option.some.inj h)
        exact hret _ _ _ _ hP hS dX8_copy_26
    · replace h := it_p c_19 h
      refine lv_iconst (v := (-1)) hx hb dX8_copy_14 (by decide) ?_
      obtain ⟨rfl, rfl⟩ := Prod.mk.inj (Option.some.inj h)
      exact hret _ _ _ _ hP hS dX8_copy_15
def fX8_copy (x1 : Int32) (x2 : Int32) (x3 : Int32) (x4 : Int32) (x5 : Int32) (w : Mm) : Option (Int32 × Mm) := fX8_copy_E x1 x2 x3 x4 x5 w
theorem ctX8_copy (l : Launch) (D : va_G) (c3 : C3) (ad : Nat → Nat) (w : Mm) (sz : Nat) (x1 : Int32) (x2 : Int32) (x3 : Int32) (x4 : Int32) (x5 : Int32) (r : Int32) (w' : Mm) (h : fX8_copy x1 x2 x3 x4 x5 w = some (r, w')) : Ci l yX8_copy wsX8_copy rmX8_copy D c3 (encM c3 ad) gM [.ref (ad 0), .int x1, .int x2, .int x3, .int x4, .int x5] w sz r w' := by
  refine Ci.of (cc := cX8_copy) (maxL := 9) (encM_ok c3 ad) (by decide) rfl (Nat.le_of_ble_eq_true rfl) ?_
  intro p e s m below meth c A Q ls X hret hP hS hl
  exact bX8_copy_E X hret x1 x2 x3 x4 x5 w _ _ ls hP hS hl h
theorem iwX8_mean_X8 : ∀ w ∈ wsX80, w ∈ wsX8_mean := fun _ h => List.mem_cons_of_mem _ (List.mem_append_right _ h)
theorem lkX8_mean_25 : Cond.fieldLink RX8 25 "StuckDoorModel" "sizes" "[I" ∈ wsX8_mean := by decide +kernel
theorem lkX8_mean_28 : Cond.fieldLink RX8 28 "StuckDoorModel" "items" "[I" ∈ wsX8_mean := by decide +kernel
def rmX8_mean : Room := { frames := 2, cells := 0, slots := 0, locals := 45 }
def fX8_mean_44 (x1 : Int32) : Nat → Int64 → Int32 → Mm → Option (Int32 × Mm)
  | 0, _, _, _ => none
  | n + 1, y2, x4, w => gd (inb x1 6 = true) ((if (w.1 6 x1.toNatClampNeg) ≤ x4 then gd (¬ ((w.1 6 x1.toNatClampNeg).toInt64) = 0) (bd (fX8_tell ((y2 / ((w.1 6 x1.toNatClampNeg).toInt64)).toInt32) w) (fun r_5 w_6 => some (r_5, w_6))) else gd (inb ((40 * x1) + x4) 240 = true) (nm (y2 + ((w.1 7 ((40 * x1) + x4).toNatClampNeg).toInt64)) (fun y2_8 => fX8_mean_44 x1 n y2_8 (x4 + 1) w))))
set_option maxRecDepth 20000 in
theorem bX8_mean_44 {p : Program} {l : Launch} {e : Env} {s : State} {m : MethodId} {args : Array Value} {below : List Frame} {meth : Method} {c : Code} {Q : State → Prop} {D : va_G} {c3 : C3} {ad : Nat → Nat} {A : Nat → Prop} {r : Int32} {w' : Mm} (X : Cx p s m args c cX8_mean 5 RX8 wsX8_mean D c3 (encM c3 ad) gM A) (hret : Ri p l e (rmX8_mean) s m args below meth c Q cX8_mean D (encM c3 ad) A r w') : ∀ (x1 : Int32) (n : Nat) (y2 : Int64) (x4 : Int32) (w : Mm) (H : Heap) (locs : List Loc) (ls : Array Slot), va_P D vwCl ((encM c3 ad) w) H → va_S A s.heap H locs → lv_has ls 5 [(0, .ref (ad 0)), (1, .int x1), (2, .long y2), (4, .int x4)] → fX8_mean_44 x1 n y2 x4 w = some (r, w') → W p l e (rmX8_mean) s m args below meth c H locs 0 0 Q (F0 m 44 ls []) := by
  have hx := X.1
  have hb := X.2.1
  have hml := X.2.2.1
  have hown := X.2.2.2.1
  have hts := X.2.2.2.2.1
  intro x1 n
  induction n with
  | zero =>
    intro y2 x4 w H locs ls hP hS hl h
    exact absurd h (by simp [fX8_mean_44])
  | succ n ih =>
    intro y2 x4 w H locs ls hP hS hl h
    rw [fX8_mean_44] at h
    refine lv_iload hx hb dX8_mean_44 (lv_at hl 3 rfl) ?_
    refine lv_aload_n hx hb dX8_mean_46 rfl (lv_at hl 0 rfl) ?_
    refine x_get (rest := [.int x4]) X hP (gM0 c3 ad w) rfl iwX8_mean_X8 8 (by decide) lkX8_mean_25 rfl dX8_mean_47 ?_
    refine lv_iload_n hx hb dX8_mean_50 rfl (lv_at hl 1 rfl) ?_
    obtain ⟨g_1, h⟩ := gd_s h
    refine x_iald X hP (gM6 c3 ad w) g_1 dX8_mean_51 ?_
    refine lv_icmp_ge (tgt := 77) hx hb dX8_mean_52 (by decide) (fun c_2 => ?_) (fun c_2 => ?_)
    · replace h := it_p c_2 h
      refine lv_aload_n hx hb dX8_mean_77 rfl (lv_at hl 0 rfl) ?_
      refine lv_lload_n hx hb dX8_mean_78 rfl (lv_at hl 2 rfl) ?_
      refine lv_aload_n hx hb dX8_mean_79 rfl (lv_at hl 0 rfl) ?_
      refine x_get (rest := [.long y2, .ref (ad 0)]) X hP (gM0 c3 ad w) rfl iwX8_mean_X8 8 (by decide) lkX8_mean_25 rfl dX8_mean_80 ?_
      refine lv_iload_n hx hb dX8_mean_83 rfl (lv_at hl 1 rfl) ?_
      refine x_iald X hP (gM6 c3 ad w) g_1 dX8_mean_84 ?_
      refine lv_i2l (v := (w.1 6 x1.toNatClampNeg).toInt64) hx hb dX8_mean_85 rfl ?_
      obtain ⟨g_3, h⟩ := gd_s h
      refine lv_ldiv hx hb dX8_mean_86 g_3 ?_
      refine lv_l2i (v := (y2 / ((w.1 6 x1.toNatClampNeg).toInt64)).toInt32) hx hb dX8_mean_87 rfl ?_
      obtain ⟨r_5, w_6, e_4, h⟩ := bd_s h
      refine x_goi X hS (x_runV (As := [.int ((y2 / ((w.1 6 x1.toNatClampNeg).toInt64)).toInt32)]) (rest := []) X gM_ok hP hS (ctX8_tell l D c3 ad w _ ((y2 / ((w.1 6 x1.toNatClampNeg).toInt64)).toInt32) _ _ e_4) (cwV 1 hts gX8_mean_X8_tell rfl rfl rfl (by decide +kernel) ⟨by decide, by decide⟩) (gM0 c3 ad w) rfl rfl rfl hl.1 rfl (Nat.le_of_ble_eq_true rfl) dX8_mean_88) (fun H locs hP hS => ?_)
      obtain ⟨rfl, rfl⟩ := Prod.mk.inj (Option.some.inj h)
      exact hret _ _ _ _ hP hS dX8_mean_91
    · replace h := it_n c_2 h
      refine lv_lload_n hx hb dX8_mean_55 rfl (lv_at hl 2 rfl) ?_
      refine lv_aload_n hx hb dX8_mean_56 rfl (lv_at hl 0 rfl) ?_
      refine x_get (rest := [.long y2]) X hP (gM0 c3 ad w) rfl iwX8_mean_X8 9 (by decide) lkX8_mean_28 rfl dX8_mean_57 ?_
      refine lv_bipush (v := 40) hx hb dX8_mean_60 (by decide) ?_
      refine lv_iload_n hx hb dX8_mean_62 rfl (lv_at hl 1 rfl) ?_
      refine lv_imul hx hb dX8_mean_63 ?_
      refine lv_iload hx hb dX8_mean_64 (lv_at hl 3 rfl) ?_
      refine lv_iadd hx hb dX8_mean_66 ?_
      obtain ⟨g_7, h⟩ := gd_s h
      refine x_iald X hP (gM7 c3 ad w) g_7 dX8_mean_67 ?_
      refine lv_i2l (v := (w.1 7 ((40 * x1) + x4).toNatClampNeg).toInt64) hx hb dX8_mean_68 rfl ?_
      refine lv_ladd hx hb dX8_mean_69 ?_
      refine x_nml h (fun y2_8 h => ?_)
      refine lv_lstore_n (lv' := [(2, .long y2_8), (0, .ref (ad 0)), (1, .int x1), (4, .int x4)]) hx hb dX8_mean_70 rfl hl (by decide) rfl (fun ls hl => ?_)
      refine lv_iinc (v := (x4 + 1)) (lv' := [(4, .int (x4 + 1)), (2, .long y2_8), (0, .ref (ad 0)), (1, .int x1)]) hx hb dX8_mean_71 hl (k := 3) rfl rfl (by decide) rfl (fun ls hl => ?_)
      refine lv_goto (tgt := 44) hx hb dX8_mean_74 (by decide) ?_
      exact ih y2_8 (x4 + 1) w _ _ _ hP hS (lv_sub hl [2, 3, 1, 0] rfl) h
def fX8_mean_E (x1 : Int32) (w : Mm) : Option (Int32 × Mm) := bo (fX8_isRow x1) (fun r_10 => (if r_10 = 0 then some ((-1), w) else gd (inb x1 6 = true) ((if 0 ≤ (w.1 6 x1.toNatClampNeg) then (if (w.1 6 x1.toNatClampNeg) = 0 then bd (fX8_find 4 w) (fun r_17 w_18 => some (r_17, w_18)) else fX8_mean_44 x1 FU 0 0 w) else bd (fX8_find 1 w) (fun r_20 w_21 => some (r_20, w_21))))))
set_option maxRecDepth 20000 in
theorem bX8_mean_E {p : Program} {l : Launch} {e : Env} {s : State} {m : MethodId} {args : Array Value} {below : List Frame} {meth : Method} {c : Code} {Q : State → Prop} {D : va_G} {c3 : C3} {ad : Nat → Nat} {A : Nat → Prop} {r : Int32} {w' : Mm} (X : Cx p s m args c cX8_mean 5 RX8 wsX8_mean D c3 (encM c3 ad) gM A) (hret : Ri p l e (rmX8_mean) s m args below meth c Q cX8_mean D (encM c3 ad) A r w') : ∀ (x1 : Int32) (w : Mm) (H : Heap) (locs : List Loc) (ls : Array Slot), va_P D vwCl ((encM c3 ad) w) H → va_S A s.heap H locs → lv_has ls 5 [(0, .ref (ad 0)), (1, .int x1)] → fX8_mean_E x1 w = some (r, w') → W p l e (rmX8_mean) s m args below meth c H locs 0 0 Q (F0 m 0 ls []) := by
  have hx := X.1
  have hb := X.2.1
  have hml := X.2.2.1
  have hown := X.2.2.2.1
  have hts := X.2.2.2.2.1
  intro x1 w H locs ls hP hS hl h
  unfold fX8_mean_E at h
  refine lv_iload_n hx hb dX8_mean_0 rfl (lv_at hl 1 rfl) ?_
  obtain ⟨r_10, e_9, h⟩ := bo_s h
  refine x_goi X hS (x_runS (As := [.int x1]) (rest := []) X gM_ok hP hS (ctX8_isRow l D c3 ad w _ x1 _ e_9) (va_cwS 1 hts gX8_mean_X8_isRow rfl rfl rfl (by decide +kernel) ⟨by decide, by decide⟩) rfl hl.1 rfl (Nat.le_of_ble_eq_true rfl) dX8_mean_1) (fun H locs hP hS => ?_)
  refine lv_if_ne (tgt := 9) hx hb dX8_mean_4 (by decide) (fun c_12 => ?_) (fun c_12 => ?_)
  · replace h := it_n c_12 h
    refine lv_aload_n hx hb dX8_mean_9 rfl (lv_at hl 0 rfl) ?_
    refine x_get (rest := []) X hP (gM0 c3 ad w) rfl iwX8_mean_X8 8 (by decide) lkX8_mean_25 rfl dX8_mean_10 ?_
    refine lv_iload_n hx hb dX8_mean_13 rfl (lv_at hl 1 rfl) ?_
    obtain ⟨g_13, h⟩ := gd_s h
    refine x_iald X hP (gM6 c3 ad w) g_13 dX8_mean_14 ?_
    refine lv_if_ge (tgt := 24) hx hb dX8_mean_15 (by decide) (fun c_14 => ?_) (fun c_14 => ?_)
    · replace h := it_p c_14 h
      refine lv_aload_n hx hb dX8_mean_24 rfl (lv_at hl 0 rfl) ?_
      refine x_get (rest := []) X hP (gM0 c3 ad w) rfl iwX8_mean_X8 8 (by decide) lkX8_mean_25 rfl dX8_mean_25 ?_
      refine lv_iload_n hx hb dX8_mean_28 rfl (lv_at hl 1 rfl) ?_
      refine x_iald X hP (gM6 c3 ad w) g_13 dX8_mean_29 ?_
      refine lv_if_ne (tgt := 39) hx hb dX8_mean_30 (by decide) (fun c_15 => ?_) (fun c_15 => ?_)
      · replace h := it_n c_15 h
        refine lv_lconst (v := 0) hx hb dX8_mean_39 (by decide) ?_
        refine lv_lstore_n (lv' := [(2, .long 0), (0, .ref (ad 0)), (1, .int x1)]) hx hb dX8_mean_40 rfl hl (by decide) rfl (fun ls hl => ?_)
        refine lv_iconst (v := 0) hx hb dX8_mean_41 (by decide) ?_
        refine lv_istore (lv' := [(4, .int 0), (2, .long 0), (0, .ref (ad 0)), (1, .int x1)]) hx hb dX8_mean_42 hl (by decide) rfl (fun ls hl => ?_)
        exact bX8_mean_44 X hret x1 FU 0 0 w _ _ _ hP hS (lv_sub hl [2, 3, 1, 0] rfl) h
      · replace h := it_p c_15 h
        refine lv_aload_n hx hb dX8_mean_33 rfl (lv_at hl 0 rfl) ?_
        refine lv_iconst (v := 4) hx hb dX8_mean_34 (by decide) ?_
        obtain ⟨r_17, w_18, e_16, h⟩ := bd_s h
        refine x_goi X hS (x_runV (As := [.int 4]) (rest := []) X gM_ok hP hS (ctX8_find l D c3 ad w _ 4 _ _ e_16) (cwV 1 hts gX8_mean_X8_find rfl rfl rfl (by decide +kernel) ⟨by decide, by decide⟩) (gM0 c3 ad w) rfl rfl rfl hl.1 rfl (Nat.le_of_ble_eq_true rfl) dX8_mean_35) (fun H locs hP hS => ?_)
        obtain ⟨rfl, rfl⟩ := Prod.mk.inj (Option.some.inj h)
        exact hret _ _ _ _ hP hS dX8_mean_38
    · replace h := it_n c_14 h
      refine lv_aload_n hx hb dX8_mean_18 rfl (lv_at hl 0 rfl) ?_
      refine lv_iconst (v := 1) hx hb dX8_mean_19 (by decide) ?_
      obtain ⟨r_20, w_21, e_19, h⟩ := bd_s h
      refine x_goi X hS (x_runV (As := [.int 1]) (rest := []) X gM_ok hP hS (ctX8_find l D c3 ad w _ 1 _ _ e_19) (cwV 1 hts gX8_mean_X8_find rfl rfl rfl (by decide +kernel) ⟨by decide, by decide⟩) (gM0 c3 ad w) rfl rfl rfl hl.1 rfl (Nat.le_of_ble_eq_true rfl) dX8_mean_20) (fun H locs hP hS => ?_)
      obtain ⟨rfl, rfl⟩ := Prod.mk.inj (Option.some.inj h)
      exact hret _ _ _ _ hP hS dX8_mean_23
  · replace h := it_p c_12 h
    refine lv_iconst (v := (-1)) hx hb dX8_mean_7 (by decide) ?_
    obtain ⟨rfl, rfl⟩ := Prod.mk.inj (Option.some.inj h)
    exact hret _ _ _ _ hP hS dX8_mean_8
def fX8_mean (x1 : Int32) (w : Mm) : Option (Int32 × Mm) := fX8_mean_E x1 w
theorem ctX8_mean (l : Launch) (D : va_G) (c3 : C3) (ad : Nat → Nat) (w : Mm) (sz : Nat) (x1 : Int32) (r : Int32) (w' : Mm) (h : fX8_mean x1 w = some (r, w')) : Ci l yX8_mean wsX8_mean rmX8_mean D c3 (encM c3 ad) gM [.ref (ad 0), .int x1] w sz r w' := by
  refine Ci.of (cc := cX8_mean) (maxL := 5) (encM_ok c3 ad) (by decide) rfl (Nat.le_of_ble_eq_true rfl) ?_
  intro p e s m below meth c A Q ls X hret hP hS hl
  exact bX8_mean_E X hret x1 w _ _ ls hP hS hl h
def rmX8_isText : Room := { frames := 1, cells := 0, slots := 0, locals := 25 }
def fX8_isText_E (x0 : Int32) : Option (Int32) := bo (fX8_in x0.toInt64 0 3) (fun r_2 => gd (r_2 = 0 ∨ r_2 = 1) (some r_2))
set_option maxRecDepth 20000 in
theorem bX8_isText_E {p : Program} {l : Launch} {e : Env} {s : State} {m : MethodId} {args : Array Value} {below : List Frame} {meth : Method} {c : Code} {Q : State → Prop} {D : va_G} {c3 : C3} {ad : Nat → Nat} {A : Nat → Prop} {r : Int32} {w : Mm} (X : Cx p s m args c cX8_isText 1 RX8 wsX8_isText D c3 (encM c3 ad) gM A) (hret : Rz p l e (rmX8_isText) s m args below meth c Q cX8_isText D (encM c3 ad) A r w) : ∀ (x0 : Int32) (H : Heap) (locs : List Loc) (ls : Array Slot), va_P D vwCl ((encM c3 ad) w) H → va_S A s.heap H locs → lv_has ls 1 [(0, .int x0)] → fX8_isText_E x0 = some r → W p l e (rmX8_isText) s m args below meth c H locs 0 0 Q (F0 m 0 ls []) := by
  have hx := X.1
  have hb := X.2.1
  have hml := X.2.2.1
  have hown := X.2.2.2.1
  have hts := X.2.2.2.2.1
  intro x0 H locs ls hP hS hl h
  unfold fX8_isText_E at h
  refine lv_iload_n hx hb dX8_isText_0 rfl (lv_at hl 0 rfl) ?_
  refine lv_i2l (v := x0.toInt64) hx hb dX8_isText_1 rfl ?_
  refine lv_lconst (v := 0) hx hb dX8_isText_2 (by decide) ?_
  refine lv_ldc2 (v := 3) hx hb hown (hts (.constantLong RX8 85 (3)) (by decide +kernel)) dX8_isText_3 ?_
  obtain ⟨r_2, e_1, h⟩ := bo_s h
  refine x_goi X hS (x_runS (As := [.long x0.toInt64, .long 0, .long 3]) (rest := []) X gM_ok hP hS (ctX8_in l D c3 ad w _ x0.toInt64 0 3 _ e_1) (va_cwS 3 hts gX8_isText_X8_in rfl rfl rfl (by decide +kernel) ⟨by decide, by decide⟩) rfl hl.1 rfl (Nat.le_of_ble_eq_true rfl) dX8_isText_6) (fun H locs hP hS => ?_)
  obtain ⟨g_4, h⟩ := gd_s h
  obtain rfl := Option.some.inj h
  exact hret g_4 _ _ _ _ hP hS dX8_isText_9
def fX8_isText (x0 : Int32) : Option (Int32) := fX8_isText_E x0
theorem ctX8_isText (l : Launch) (D : va_G) (c3 : C3) (ad : Nat → Nat) (w : Mm) (sz : Nat) (x0 : Int32) (r : Int32) (h : fX8_isText x0 = some r) : Ci l yX8_isText wsX8_isText rmX8_isText D c3 (encM c3 ad) gM [.int x0] w sz r w := by
  refine Ci.ofz (cc := cX8_isText) (maxL := 1) (encM_ok c3 ad) (by decide) rfl (Nat.le_of_ble_eq_true rfl) ?_
  intro p e s m below meth c A Q ls X hret hP hS hl
  exact bX8_isText_E X hret x0 _ _ ls hP hS hl h
theorem iwX8_text_X8 : ∀ w ∈ wsX80, w ∈ wsX8_text := fun _ h => List.mem_cons_of_mem _ (List.mem_append_right _ h)
theorem lkX8_text_31 : Cond.fieldLink RX8 31 "StuckDoorModel" "lengths" "[I" ∈ wsX8_text := by decide +kernel
theorem lkX8_text_34 : Cond.fieldLink RX8 34 "StuckDoorModel" "bytes" "[I" ∈ wsX8_text := by decide +kernel
def rmX8_text : Room := { frames := 2, cells := 0, slots := 0, locals := 45 }
def fX8_text_34 (x1 : Int32) (x2 : Int32) : Nat → Int32 → Mm → Option (Int32 × Mm)
  | 0, _, _ => none
  | n + 1, x3, w => (if 60 ≤ x3 then some (x2, w) else gd (inb ((60 * x1) + x3) 240 = true) (nm (sA w 9 ((60 * x1) + x3).toNatClampNeg 32) (fun w_3 => fX8_text_34 x1 x2 n (x3 + 1) w_3)))
set_option maxRecDepth 20000 in
theorem bX8_text_34 {p : Program} {l : Launch} {e : Env} {s : State} {m : MethodId} {args : Array Value} {below : List Frame} {meth : Method} {c : Code} {Q : State → Prop} {D : va_G} {c3 : C3} {ad : Nat → Nat} {A : Nat → Prop} {r : Int32} {w' : Mm} (X : Cx p s m args c cX8_text 4 RX8 wsX8_text D c3 (encM c3 ad) gM A) (hret : Ri p l e (rmX8_text) s m args below meth c Q cX8_text D (encM c3 ad) A r w') : ∀ (x1 : Int32) (x2 : Int32) (n : Nat) (x3 : Int32) (w : Mm) (H : Heap) (locs : List Loc) (ls : Array Slot), va_P D vwCl ((encM c3 ad) w) H → va_S A s.heap H locs → lv_has ls 4 [(0, .ref (ad 0)), (1, .int x1), (2, .int x2), (3, .int x3)] → fX8_text_34 x1 x2 n x3 w = some (r, w') → W p l e (rmX8_text) s m args below meth c H locs 0 0 Q (F0 m 34 ls []) := by
  have hx := X.1
  have hb := X.2.1
  have hml := X.2.2.1
  have hown := X.2.2.2.1
  have hts := X.2.2.2.2.1
  intro x1 x2 n
  induction n with
  | zero =>
    intro x3 w H locs ls hP hS hl h
    exact absurd h (by simp [fX8_text_34])
  | succ n ih =>
    intro x3 w H locs ls hP hS hl h
    rw [fX8_text_34] at h
    refine lv_iload_n hx hb dX8_text_34 rfl (lv_at hl 3 rfl) ?_
    refine lv_bipush (v := 60) hx hb dX8_text_35 (by decide) ?_
    refine lv_icmp_ge (tgt := 59) hx hb dX8_text_37 (by decide) (fun c_1 => ?_) (fun c_1 => ?_)
    · replace h := it_p c_1 h
      refine lv_iload_n hx hb dX8_text_59 rfl (lv_at hl 2 rfl) ?_
      obtain ⟨rfl, rfl⟩ := Prod.mk.inj (Option.some.inj h)
      exact hret _ _ _ _ hP hS dX8_text_60
    · replace h := it_n c_1 h
      refine lv_aload_n hx hb dX8_text_40 rfl (lv_at hl 0 rfl) ?_
      refine x_get (rest := []) X hP (gM0 c3 ad w) rfl iwX8_text_X8 11 (by decide) lkX8_text_34 rfl dX8_text_41 ?_
      refine lv_bipush (v := 60) hx hb dX8_text_44 (by decide) ?_
      refine lv_iload_n hx hb dX8_text_46 rfl (lv_at hl 1 rfl) ?_
      refine lv_imul hx hb dX8_text_47 ?_
      refine lv_iload_n hx hb dX8_text_48 rfl (lv_at hl 3 rfl) ?_
      refine lv_iadd hx hb dX8_text_49 ?_
      refine lv_bipush (v := 32) hx hb dX8_text_50 (by decide) ?_
      obtain ⟨g_2, h⟩ := gd_s h
      refine x_iast X hP hS (gM9 c3 ad w) (sM9 c3 ad w _ _) g_2 dX8_text_52 (fun H locs hP hS => ?_)
      refine x_nmw h hP (fun w_3 h hP => ?_)
      refine lv_iinc (v := (x3 + 1)) (lv' := [(3, .int (x3 + 1)), (0, .ref (ad 0)), (1, .int x1), (2, .int x2)]) hx hb dX8_text_53 hl (k := 3) rfl rfl (by decide) rfl (fun ls hl => ?_)
      refine lv_goto (tgt := 34) hx hb dX8_text_56 (by decide) ?_
      exact ih (x3 + 1) w_3 _ _ _ hP hS (lv_sub hl [1, 2, 3, 0] rfl) h
def fX8_text_E (x1 : Int32) (x2 : Int32) (w : Mm) : Option (Int32 × Mm) := bo (fX8_isText x1) (fun r_5 => (if r_5 = 0 then some ((-1), w) else (if x2 ≤ 60 then (if 0 ≤ x2 then gd (inb x1 4 = true) (nm (sA w 8 x1.toNatClampNeg x2) (fun w_11 => fX8_text_34 x1 x2 FU 0 w_11)) else bd (fX8_find 5 w) (fun r_13 w_14 => some (r_13, w_14))) else some ((-1), w))))
set_option maxRecDepth 20000 in
theorem bX8_text_E {p : Program} {l : Launch} {e : Env} {s : State} {m : MethodId} {args : Array Value} {below : List Frame} {meth : Method} {c : Code} {Q : State → Prop} {D : va_G} {c3 : C3} {ad : Nat → Nat} {A : Nat → Prop} {r : Int32} {w' : Mm} (X : Cx p s m args c cX8_text 4 RX8 wsX8_text D c3 (encM c3 ad) gM A) (hret : Ri p l e (rmX8_text) s m args below meth c Q cX8_text D (encM c3 ad) A r w') : ∀ (x1 : Int32) (x2 : Int32) (w : Mm) (H : Heap) (locs : List Loc) (ls : Array Slot), va_P D vwCl ((encM c3 ad) w) H → va_S A s.heap H locs → lv_has ls 4 [(0, .ref (ad 0)), (1, .int x1), (2, .int x2)] → fX8_text_E x1 x2 w = some (r, w') → W p l e (rmX8_text) s m args below meth c H locs 0 0 Q (F0 m 0 ls []) := by
  have hx := X.1
  have hb := X.2.1
  have hml := X.2.2.1
  have hown := X.2.2.2.1
  have hts := X.2.2.2.2.1
  intro x1 x2 w H locs ls hP hS hl h
  unfold fX8_text_E at h
  refine lv_iload_n hx hb dX8_text_0 rfl (lv_at hl 1 rfl) ?_
  obtain ⟨r_5, e_4, h⟩ := bo_s h
  refine x_goi X hS (x_runS (As := [.int x1]) (rest := []) X gM_ok hP hS (ctX8_isText l D c3 ad w _ x1 _ e_4) (va_cwS 1 hts gX8_text_X8_isText rfl rfl rfl (by decide +kernel) ⟨by decide, by decide⟩) rfl hl.1 rfl (Nat.le_of_ble_eq_true rfl) dX8_text_1) (fun H locs hP hS => ?_)
  refine lv_if_eq (tgt := 13) hx hb dX8_text_4 (by decide) (fun c_7 => ?_) (fun c_7 => ?_)
  · replace h := it_p c_7 h
    refine lv_iconst (v := (-1)) hx hb dX8_text_13 (by decide) ?_
    obtain ⟨rfl, rfl⟩ := Prod.mk.inj (Option.some.inj h)
    exact hret _ _ _ _ hP hS dX8_text_14
  · replace h := it_n c_7 h
    refine lv_iload_n hx hb dX8_text_7 rfl (lv_at hl 2 rfl) ?_
    refine lv_bipush (v := 60) hx hb dX8_text_8 (by decide) ?_
    refine lv_icmp_le (tgt := 15) hx hb dX8_text_10 (by decide) (fun c_8 => ?_) (fun c_8 => ?_)
    · replace h := it_p c_8 h
      refine lv_iload_n hx hb dX8_text_15 rfl (lv_at hl 2 rfl) ?_
      refine lv_if_ge (tgt := 25) hx hb dX8_text_16 (by decide) (fun c_9 => ?_) (fun c_9 => ?_)
      · replace h := it_p c_9 h
        refine lv_aload_n hx hb dX8_text_25 rfl (lv_at hl 0 rfl) ?_
        refine x_get (rest := []) X hP (gM0 c3 ad w) rfl iwX8_text_X8 10 (by decide) lkX8_text_31 rfl dX8_text_26 ?_
        refine lv_iload_n hx hb dX8_text_29 rfl (lv_at hl 1 rfl) ?_
        refine lv_iload_n hx hb dX8_text_30 rfl (lv_at hl 2 rfl) ?_
        obtain ⟨g_10, h⟩ := gd_s h
        refine x_iast X hP hS (gM8 c3 ad w) (sM8 c3 ad w _ _) g_10 dX8_text_31 (fun H locs hP hS => ?_)
        refine x_nmw h hP (fun w_11 h hP => ?_)
        refine lv_iconst (v := 0) hx hb dX8_text_32 (by decide) ?_
        refine lv_istore_n (lv' := [(3, .int 0), (0, .ref (ad 0)), (1, .int x1), (2, .int x2)]) hx hb dX8_text_33 rfl hl (by decide) rfl (fun ls hl => ?_)
        exact bX8_text_34 X hret x1 x2 FU 0 w_11 _ _ _ hP hS (lv_sub hl [1, 2, 3, 0] rfl) h
      · replace h := it_n c_9 h
        refine lv_aload_n hx hb dX8_text_19 rfl (lv_at hl 0 rfl) ?_
        refine lv_iconst (v := 5) hx hb dX8_text_20 (by decide) ?_
        obtain ⟨r_13, w_14, e_12, h⟩ := bd_s h
        refine x_goi X hS (x_runV (As := [.int 5]) (rest := []) X gM_ok hP hS (ctX8_find l D c3 ad w _ 5 _ _ e_12) (cwV 1 hts gX8_text_X8_find rfl rfl rfl (by decide +kernel) ⟨by decide, by decide⟩) (gM0 c3 ad w) rfl rfl rfl hl.1 rfl (Nat.le_of_ble_eq_true rfl) dX8_text_21) (fun H locs hP hS => ?_)
        obtain ⟨rfl, rfl⟩ := Prod.mk.inj (Option.some.inj h)
        exact hret _ _ _ _ hP hS dX8_text_24
    · replace h := it_n c_8 h
      refine lv_iconst (v := (-1)) hx hb dX8_text_13 (by decide) ?_
      obtain ⟨rfl, rfl⟩ := Prod.mk.inj (Option.some.inj h)
      exact hret _ _ _ _ hP hS dX8_text_14
def fX8_text (x1 : Int32) (x2 : Int32) (w : Mm) : Option (Int32 × Mm) := fX8_text_E x1 x2 w
theorem ctX8_text (l : Launch) (D : va_G) (c3 : C3) (ad : Nat → Nat) (w : Mm) (sz : Nat) (x1 : Int32) (x2 : Int32) (r : Int32) (w' : Mm) (h : fX8_text x1 x2 w = some (r, w')) : Ci l yX8_text wsX8_text rmX8_text D c3 (encM c3 ad) gM [.ref (ad 0), .int x1, .int x2] w sz r w' := by
  refine Ci.of (cc := cX8_text) (maxL := 4) (encM_ok c3 ad) (by decide) rfl (Nat.le_of_ble_eq_true rfl) ?_
  intro p e s m below meth c A Q ls X hret hP hS hl
  exact bX8_text_E X hret x1 x2 w _ _ ls hP hS hl h

theorem iwX2_aspect_X2 : ∀ w ∈ wsX20, w ∈ wsX2_aspect := fun _ h => List.mem_cons_of_mem _ (List.mem_append_right _ h)
theorem lkX2_aspect_22 : Cond.fieldLink RX2 22 "StuckDoor$Family" "kind" "[I" ∈ wsX2_aspect := by decide +kernel
theorem lkX2_aspect_25 : Cond.fieldLink RX2 25 "StuckDoor$Family" "told" "[I" ∈ wsX2_aspect := by decide +kernel
theorem lkX2_aspect_28 : Cond.fieldLink RX2 28 "StuckDoor$Family" "topics" "[I" ∈ wsX2_aspect := by decide +kernel
theorem lkX2_aspect_43 : Cond.fieldLink RX2 43 "StuckDoor$Family" "said" "[I" ∈ wsX2_aspect := by decide +kernel
def rmX2_aspect_23 : Room := { frames := 3, cells := 0, slots := 0, locals := 65 }
def fX2_aspect_23_E (x1 : Int32) (x2 : Int32) (w : Mm) : Option (Int32) := (if x2 = 0 then gd (inb x1 6 = true) (some (w.1 25 x1.toNatClampNeg)) else (if x2 = 1 then gd (inb x1 6 = true) (some (w.1 26 x1.toNatClampNeg)) else (if x2 = 2 then bo (fX2_nearNow_23 x1 w) (fun r_7 => some r_7) else (if x2 = 3 then gd (inb x1 6 = true) (some (w.1 27 x1.toNatClampNeg)) else gd (inb x1 6 = true) (some (w.1 28 x1.toNatClampNeg))))))
set_option maxRecDepth 20000 in
theorem bX2_aspect_23_E {p : Program} {l : Launch} {e : Env} {s : State} {m : MethodId} {args : Array Value} {below : List Frame} {meth : Method} {c : Code} {Q : State → Prop} {D : va_G} {c3 : C3} {ad : Nat → Nat} {A : Nat → Prop} {r : Int32} {w : Mm} (X : Cx p s m args c cX2_aspect 3 RX2 wsX2_aspect D c3 (encC c3 ad) gC A) (hret : Ri p l e (rmX2_aspect_23) s m args below meth c Q cX2_aspect D (encC c3 ad) A r w) : ∀ (x1 : Int32) (x2 : Int32) (H : Heap) (locs : List Loc) (ls : Array Slot), va_P D vwCl ((encC c3 ad) w) H → va_S A s.heap H locs → lv_has ls 3 [(0, .ref (ad 23)), (1, .int x1), (2, .int x2)] → fX2_aspect_23_E x1 x2 w = some r → W p l e (rmX2_aspect_23) s m args below meth c H locs 0 0 Q (F0 m 0 ls []) := by
  have hx := X.1
  have hb := X.2.1
  have hml := X.2.2.1
  have hown := X.2.2.2.1
  have hts := X.2.2.2.2.1
  intro x1 x2 H locs ls hP hS hl h
  unfold fX2_aspect_23_E at h
  refine lv_iload_n hx hb dX2_aspect_0 rfl (lv_at hl 2 rfl) ?_
  by_cases c_1 : x2 = 0
  · replace h := it_p c_1 h
    refine lv_tableIn (off := 31) (tgt := 32) hx hb dX2_aspect_1 (by rw [c_1]; decide) (by rw [c_1]; decide) (by rw [c_1]; decide) (by decide) ?_
    refine lv_aload_n hx hb dX2_aspect_32 rfl (lv_at hl 0 rfl) ?_
    refine x_get (rest := []) X hP (gC23 c3 ad w) rfl iwX2_aspect_X2 3 (by decide) lkX2_aspect_22 rfl dX2_aspect_33 ?_
    refine lv_iload_n hx hb dX2_aspect_36 rfl (lv_at hl 1 rfl) ?_
    obtain ⟨g_2, h⟩ := gd_s h
    refine x_iald X hP (gC25 c3 ad w) g_2 dX2_aspect_37 ?_
    obtain rfl := Option.some.inj h
    exact hret _ _ _ _ hP hS dX2_aspect_38
  replace h := it_n c_1 h
  by_cases c_3 : x2 = 1
  · replace h := it_p c_3 h
    refine lv_tableIn (off := 38) (tgt := 39) hx hb dX2_aspect_1 (by rw [c_3]; decide) (by rw [c_3]; decide) (by rw [c_3]; decide) (by decide) ?_
    refine lv_aload_n hx hb dX2_aspect_39 rfl (lv_at hl 0 rfl) ?_
    refine x_get (rest := []) X hP (gC23 c3 ad w) rfl iwX2_aspect_X2 4 (by decide) lkX2_aspect_25 rfl dX2_aspect_40 ?_
    refine lv_iload_n hx hb dX2_aspect_43 rfl (lv_at hl 1 rfl) ?_
    obtain ⟨g_4, h⟩ := gd_s h
    refine x_iald X hP (gC26 c3 ad w) g_4 dX2_aspect_44 ?_
    obtain rfl := Option.some.inj h
    exact hret _ _ _ _ hP hS dX2_aspect_45
  replace h := it_n c_3 h
  by_cases c_5 : x2 = 2
  · replace h := it_p c_5 h
    refine lv_tableIn (off := 45) (tgt := 46) hx hb dX2_aspect_1 (by rw [c_5]; decide) (by rw [c_5]; decide) (by rw [c_5]; decide) (by decide) ?_
    refine lv_aload_n hx hb dX2_aspect_46 rfl (lv_at hl 0 rfl) ?_
    refine lv_iload_n hx hb dX2_aspect_47 rfl (lv_at hl 1 rfl) ?_
    obtain ⟨r_7, e_6, h⟩ := bo_s h
    refine x_goi X hS (x_runV (As := [.int x1]) (rest := []) X gC_ok hP hS (ctX2_nearNow_23 l D c3 ad w _ x1 _ e_6) (cwV 1 hts gX2_aspect_X2_nearNow rfl rfl rfl (by decide +kernel) ⟨by decide, by decide⟩) (gC23 c3 ad w) rfl rfl rfl hl.1 rfl (Nat.le_of_ble_eq_true rfl) dX2_aspect_48) (fun H locs hP hS => ?_)
    obtain rfl := Option.some.inj h
    exact hret _ _ _ _ hP hS dX2_aspect_51
  replace h := it_n c_5 h
  by_cases c_9 : x2 = 3
  · replace h := it_p c_9 h
    refine lv_tableIn (off := 51) (tgt := 52) hx hb dX2_aspect_1 (by rw [c_9]; decide) (by rw [c_9]; decide) (by rw [c_9]; decide) (by decide) ?_
    refine lv_aload_n hx hb dX2_aspect_52 rfl (lv_at hl 0 rfl) ?_
    refine x_get (rest := []) X hP (gC23 c3 ad w) rfl iwX2_aspect_X2 5 (by decide) lkX2_aspect_28 rfl dX2_aspect_53 ?_
    refine lv_iload_n hx hb dX2_aspect_56 rfl (lv_at hl 1 rfl) ?_
    obtain ⟨g_10, h⟩ := gd_s h
    refine x_iald X hP (gC27 c3 ad w) g_10 dX2_aspect_57 ?_
    obtain rfl := Option.some.inj h
    exact hret _ _ _ _ hP hS dX2_aspect_58
  replace h := it_n c_9 h
  refine lv_tableOut (tgt := 59) hx hb dX2_aspect_1 (by have := lv_neT c_1 (a := 0) rfl; have := lv_neT c_3 (a := 1) rfl; have := lv_neT c_5 (a := 2) rfl; have := lv_neT c_9 (a := 3) rfl; omega) (by decide) ?_
  refine lv_aload_n hx hb dX2_aspect_59 rfl (lv_at hl 0 rfl) ?_
  refine x_get (rest := []) X hP (gC23 c3 ad w) rfl iwX2_aspect_X2 10 (by decide) lkX2_aspect_43 rfl dX2_aspect_60 ?_
  refine lv_iload_n hx hb dX2_aspect_63 rfl (lv_at hl 1 rfl) ?_
  obtain ⟨g_11, h⟩ := gd_s h
  refine x_iald X hP (gC28 c3 ad w) g_11 dX2_aspect_64 ?_
  obtain rfl := Option.some.inj h
  exact hret _ _ _ _ hP hS dX2_aspect_65
def fX2_aspect_23 (x1 : Int32) (x2 : Int32) (w : Mm) : Option (Int32) := fX2_aspect_23_E x1 x2 w
theorem ctX2_aspect_23 (l : Launch) (D : va_G) (c3 : C3) (ad : Nat → Nat) (w : Mm) (sz : Nat) (x1 : Int32) (x2 : Int32) (r : Int32) (h : fX2_aspect_23 x1 x2 w = some r) : Ci l yX2_aspect wsX2_aspect rmX2_aspect_23 D c3 (encC c3 ad) gC [.ref (ad 23), .int x1, .int x2] w sz r w := by
  refine Ci.of (cc := cX2_aspect) (maxL := 3) (encC_ok c3 ad) (by decide) rfl (Nat.le_of_ble_eq_true rfl) ?_
  intro p e s m below meth c A Q ls X hret hP hS hl
  exact bX2_aspect_23_E X hret x1 x2 _ _ ls hP hS hl h
theorem iwX7_saying_X7 : ∀ w ∈ wsX70, w ∈ wsX7_saying := fun _ h => List.mem_cons_of_mem _ (List.mem_append_left _ (List.mem_append_right _ h))
theorem lkX7_saying_27 : Cond.fieldLink RX7 27 "StuckDoor" "family" "LStuckDoor$Family;" ∈ wsX7_saying := by decide +kernel
theorem lkX7_saying_60 : Cond.fieldLink RX7 60 "StuckDoor" "askedLast" "I" ∈ wsX7_saying := by decide +kernel
def rmX7_saying : Room := { frames := 4, cells := 0, slots := 0, locals := 87 }
def fX7_saying_E (x1 : Int32) (x2 : Int32) (w : Mm) : Option (Int32 × Mm) := bo (fX2_hasSaying_23 x1 w) (fun r_2 => (if r_2 = 0 then some ((-1), w) else (if x2 < 0 then some ((-1), w) else (if x2 ≤ 4 then bo (fX2_aspect_23 x1 x2 w) (fun r_8 => nm (sA w 0 9 r_8) (fun w_10 => some (1, w_10))) else some ((-1), w)))))
set_option maxRecDepth 20000 in
theorem bX7_saying_E {p : Program} {l : Launch} {e : Env} {s : State} {m : MethodId} {args : Array Value} {below : List Frame} {meth : Method} {c : Code} {Q : State → Prop} {D : va_G} {c3 : C3} {ad : Nat → Nat} {A : Nat → Prop} {r : Int32} {w' : Mm} (X : Cx p s m args c cX7_saying 3 RX7 wsX7_saying D c3 (encC c3 ad) gC A) (hret : Ri p l e (rmX7_saying) s m args below meth c Q cX7_saying D (encC c3 ad) A r w') : ∀ (x1 : Int32) (x2 : Int32) (w : Mm) (H : Heap) (locs : List Loc) (ls : Array Slot), va_P D vwCl ((encC c3 ad) w) H → va_S A s.heap H locs → lv_has ls 3 [(0, .ref (ad 0)), (1, .int x1), (2, .int x2)] → fX7_saying_E x1 x2 w = some (r, w') → W p l e (rmX7_saying) s m args below meth c H locs 0 0 Q (F0 m 0 ls []) := by
  have hx := X.1
  have hb := X.2.1
  have hml := X.2.2.1
  have hown := X.2.2.2.1
  have hts := X.2.2.2.2.1
  intro x1 x2 w H locs ls hP hS hl h
  unfold fX7_saying_E at h
  refine lv_aload_n hx hb dX7_saying_0 rfl (lv_at hl 0 rfl) ?_
  refine x_get (rest := []) X hP (gC0 c3 ad w) rfl iwX7_saying_X7 3 (by decide) lkX7_saying_27 rfl dX7_saying_1 ?_
  refine lv_iload_n hx hb dX7_saying_4 rfl (lv_at hl 1 rfl) ?_
  obtain ⟨r_2, e_1, h⟩ := bo_s h
  refine x_goi X hS (x_runV (As := [.int x1]) (rest := []) X gC_ok hP hS (ctX2_hasSaying_23 l D c3 ad w _ x1 _ e_1) (cwV 1 hts gX7_saying_X2_hasSaying rfl rfl rfl (by decide +kernel) ⟨by decide, by decide⟩) (gC23 c3 ad w) rfl rfl rfl hl.1 rfl (Nat.le_of_ble_eq_true rfl) dX7_saying_5) (fun H locs hP hS => ?_)
  refine lv_if_eq (tgt := 20) hx hb dX7_saying_8 (by decide) (fun c_4 => ?_) (fun c_4 => ?_)
  · replace h := it_p c_4 h
    refine lv_iconst (v := (-1)) hx hb dX7_saying_20 (by decide) ?_
    obtain ⟨rfl, rfl⟩ := Prod.mk.inj (Option.some.inj h)
    exact hret _ _ _ _ hP hS dX7_saying_21
  · replace h := it_n c_4 h
    refine lv_iload_n hx hb dX7_saying_11 rfl (lv_at hl 2 rfl) ?_
    refine lv_if_lt (tgt := 20) hx hb dX7_saying_12 (by decide) (fun c_5 => ?_) (fun c_5 => ?_)
    · replace h := it_p c_5 h
      refine lv_iconst (v := (-1)) hx hb dX7_saying_20 (by decide) ?_
      obtain ⟨rfl, rfl⟩ := Prod.mk.inj (Option.some.inj h)
      exact hret _ _ _ _ hP hS dX7_saying_21
    · replace h := it_n c_5 h
      refine lv_iload_n hx hb dX7_saying_15 rfl (lv_at hl 2 rfl) ?_
      refine lv_iconst (v := 4) hx hb dX7_saying_16 (by decide) ?_
      refine lv_icmp_le (tgt := 22) hx hb dX7_saying_17 (by decide) (fun c_6 => ?_) (fun c_6 => ?_)
      · replace h := it_p c_6 h
        refine lv_aload_n hx hb dX7_saying_22 rfl (lv_at hl 0 rfl) ?_
        refine lv_aload_n hx hb dX7_saying_23 rfl (lv_at hl 0 rfl) ?_
        refine x_get (rest := [.ref (ad 0)]) X hP (gC0 c3 ad w) rfl iwX7_saying_X7 3 (by decide) lkX7_saying_27 rfl dX7_saying_24 ?_
        refine lv_iload_n hx hb dX7_saying_27 rfl (lv_at hl 1 rfl) ?_
        refine lv_iload_n hx hb dX7_saying_28 rfl (lv_at hl 2 rfl) ?_
        obtain ⟨r_8, e_7, h⟩ := bo_s h
        refine x_goi X hS (x_runV (As := [.int x1, .int x2]) (rest := [.ref (ad 0)]) X gC_ok hP hS (ctX2_aspect_23 l D c3 ad w _ x1 x2 _ e_7) (cwV 2 hts gX7_saying_X2_aspect rfl rfl rfl (by decide +kernel) ⟨by decide, by decide⟩) (gC23 c3 ad w) rfl rfl rfl hl.1 rfl (Nat.le_of_ble_eq_true rfl) dX7_saying_29) (fun H locs hP hS => ?_)
        refine x_put (v := .int r_8) X hP hS (gC0 c3 ad w) rfl iwX7_saying_X7 tyX7 tyX7_ok nmX7 9 (by decide) lkX7_saying_60 rfl rfl rfl (Nat.le_of_ble_eq_true rfl) (pC0_9 c3 ad w r_8) dX7_saying_32 (fun H locs hP hS => ?_)
        refine x_nmw h hP (fun w_10 h hP => ?_)
        refine lv_iconst (v := 1) hx hb dX7_saying_35 (by decide) ?_
        obtain ⟨rfl, rfl⟩ := Prod.mk.inj (Option.some.inj h)
        exact hret _ _ _ _ hP hS dX7_saying_36
      · replace h := it_n c_6 h
        refine lv_iconst (v := (-1)) hx hb dX7_saying_20 (by decide) ?_
        obtain ⟨rfl, rfl⟩ := Prod.mk.inj (Option.some.inj h)
        exact hret _ _ _ _ hP hS dX7_saying_21
def fX7_saying (x1 : Int32) (x2 : Int32) (w : Mm) : Option (Int32 × Mm) := fX7_saying_E x1 x2 w
theorem ctX7_saying (l : Launch) (D : va_G) (c3 : C3) (ad : Nat → Nat) (w : Mm) (sz : Nat) (x1 : Int32) (x2 : Int32) (r : Int32) (w' : Mm) (h : fX7_saying x1 x2 w = some (r, w')) : Ci l yX7_saying wsX7_saying rmX7_saying D c3 (encC c3 ad) gC [.ref (ad 0), .int x1, .int x2] w sz r w' := by
  refine Ci.of (cc := cX7_saying) (maxL := 3) (encC_ok c3 ad) (by decide) rfl (Nat.le_of_ble_eq_true rfl) ?_
  intro p e s m below meth c A Q ls X hret hP hS hl
  exact bX7_saying_E X hret x1 x2 w _ _ ls hP hS hl h
theorem iwX2_isOfKind_X2 : ∀ w ∈ wsX20, w ∈ wsX2_isOfKind := fun _ h => List.mem_cons_of_mem _ (List.mem_append_right _ h)
theorem lkX2_isOfKind_22 : Cond.fieldLink RX2 22 "StuckDoor$Family" "kind" "[I" ∈ wsX2_isOfKind := by decide +kernel
def rmX2_isOfKind_23 : Room := { frames := 0, cells := 0, slots := 0, locals := 0 }
def fX2_isOfKind_23_24 (w : Mm) : Option (Int32) := some 1
set_option maxRecDepth 20000 in
theorem bX2_isOfKind_23_24 {p : Program} {l : Launch} {e : Env} {s : State} {m : MethodId} {args : Array Value} {below : List Frame} {meth : Method} {c : Code} {Q : State → Prop} {D : va_G} {c3 : C3} {ad : Nat → Nat} {A : Nat → Prop} {r : Int32} {w : Mm} (X : Cx p s m args c cX2_isOfKind 3 RX2 wsX2_isOfKind D c3 (encC c3 ad) gC A) (hret : Rz p l e (rmX2_isOfKind_23) s m args below meth c Q cX2_isOfKind D (encC c3 ad) A r w) : ∀ (H : Heap) (locs : List Loc) (ls : Array Slot), va_P D vwCl ((encC c3 ad) w) H → va_S A s.heap H locs → lv_has ls 3 [] → fX2_isOfKind_23_24 w = some r → W p l e (rmX2_isOfKind_23) s m args below meth c H locs 0 0 Q (F0 m 24 ls []) := by
  have hx := X.1
  have hb := X.2.1
  have hml := X.2.2.1
  have hown := X.2.2.2.1
  have hts := X.2.2.2.2.1
  intro H locs ls hP hS hl h
  unfold fX2_isOfKind_23_24 at h
  refine lv_iconst (v := 1) hx hb dX2_isOfKind_24 (by decide) ?_
  refine lv_goto (tgt := 29) hx hb dX2_isOfKind_25 (by decide) ?_
  obtain rfl := Option.some.inj h
  exact hret (Or.inr rfl) _ _ _ _ hP hS dX2_isOfKind_29
def fX2_isOfKind_23_E (x1 : Int32) (x2 : Int32) (w : Mm) : Option (Int32) := gd (inb x1 6 = true) ((if (w.1 25 x1.toNatClampNeg) = x2 then fX2_isOfKind_23_24 w else gd (inb (w.1 25 x1.toNatClampNeg) 6 = true) ((if (stP (w.1 25 x1.toNatClampNeg).toNatClampNeg) = x2 then fX2_isOfKind_23_24 w else some 0))))
set_option maxRecDepth 20000 in
theorem bX2_isOfKind_23_E {p : Program} {l : Launch} {e : Env} {s : State} {m : MethodId} {args : Array Value} {below : List Frame} {meth : Method} {c : Code} {Q : State → Prop} {D : va_G} {c3 : C3} {ad : Nat → Nat} {A : Nat → Prop} {r : Int32} {w : Mm} (X : Cx p s m args c cX2_isOfKind 3 RX2 wsX2_isOfKind D c3 (encC c3 ad) gC A) (hret : Rz p l e (rmX2_isOfKind_23) s m args below meth c Q cX2_isOfKind D (encC c3 ad) A r w) : ∀ (x1 : Int32) (x2 : Int32) (H : Heap) (locs : List Loc) (ls : Array Slot), va_P D vwCl ((encC c3 ad) w) H → va_S A s.heap H locs → lv_has ls 3 [(0, .ref (ad 23)), (1, .int x1), (2, .int x2)] → fX2_isOfKind_23_E x1 x2 w = some r → W p l e (rmX2_isOfKind_23) s m args below meth c H locs 0 0 Q (F0 m 0 ls []) := by
  have hx := X.1
  have hb := X.2.1
  have hml := X.2.2.1
  have hown := X.2.2.2.1
  have hts := X.2.2.2.2.1
  intro x1 x2 H locs ls hP hS hl h
  unfold fX2_isOfKind_23_E at h
  refine lv_aload_n hx hb dX2_isOfKind_0 rfl (lv_at hl 0 rfl) ?_
  refine x_get (rest := []) X hP (gC23 c3 ad w) rfl iwX2_isOfKind_X2 3 (by decide) lkX2_isOfKind_22 rfl dX2_isOfKind_1 ?_
  refine lv_iload_n hx hb dX2_isOfKind_4 rfl (lv_at hl 1 rfl) ?_
  obtain ⟨g_1, h⟩ := gd_s h
  refine x_iald X hP (gC25 c3 ad w) g_1 dX2_isOfKind_5 ?_
  refine lv_iload_n hx hb dX2_isOfKind_6 rfl (lv_at hl 2 rfl) ?_
  refine lv_icmp_eq (tgt := 24) hx hb dX2_isOfKind_7 (by decide) (fun c_2 => ?_) (fun c_2 => ?_)
  · replace h := it_p c_2 h
    exact bX2_isOfKind_23_24 X hret _ _ _ hP hS (lv_sub hl [] rfl) h
  · replace h := it_n c_2 h
    obtain ⟨tl, tp, hZl, hTl, hZp, hTp, hNl, hNp, hNw⟩ := X.2.2.2.2.2.2.2.2
    refine va_getsN (ref := "StuckDoor") (host := "StuckDoor") hx hb hZp hS hown (va_Nw.use rfl hNp) (fun _ h => h) dX2_isOfKind_10 ?_
    refine lv_aload_n hx hb dX2_isOfKind_13 rfl (lv_at hl 0 rfl) ?_
    refine x_get (rest := [.ref tp]) X hP (gC23 c3 ad w) rfl iwX2_isOfKind_X2 3 (by decide) lkX2_isOfKind_22 rfl dX2_isOfKind_14 ?_
    refine lv_iload_n hx hb dX2_isOfKind_17 rfl (lv_at hl 1 rfl) ?_
    refine x_iald X hP (gC25 c3 ad w) g_1 dX2_isOfKind_18 ?_
    obtain ⟨g_3, h⟩ := gd_s h
    refine va_ti (v := .int (stP (w.1 25 x1.toNatClampNeg).toNatClampNeg)) hx hb hTp hS (inb_vp g_3) rfl dX2_isOfKind_19 ?_
    refine lv_iload_n hx hb dX2_isOfKind_20 rfl (lv_at hl 2 rfl) ?_
    refine lv_icmp_ne (tgt := 28) hx hb dX2_isOfKind_21 (by decide) (fun c_4 => ?_) (fun c_4 => ?_)
    · replace h := it_n c_4 h
      refine lv_iconst (v := 0) hx hb dX2_isOfKind_28 (by decide) ?_
      obtain rfl := Option.some.inj h
      exact hret (Or.inl rfl) _ _ _ _ hP hS dX2_isOfKind_29
    · replace h := it_p c_4 h
      exact bX2_isOfKind_23_24 X hret _ _ _ hP hS (lv_sub hl [] rfl) h
def fX2_isOfKind_23 (x1 : Int32) (x2 : Int32) (w : Mm) : Option (Int32) := fX2_isOfKind_23_E x1 x2 w
theorem ctX2_isOfKind_23 (l : Launch) (D : va_G) (c3 : C3) (ad : Nat → Nat) (w : Mm) (sz : Nat) (x1 : Int32) (x2 : Int32) (r : Int32) (h : fX2_isOfKind_23 x1 x2 w = some r) : Ci l yX2_isOfKind wsX2_isOfKind rmX2_isOfKind_23 D c3 (encC c3 ad) gC [.ref (ad 23), .int x1, .int x2] w sz r w := by
  refine Ci.ofz (cc := cX2_isOfKind) (maxL := 3) (encC_ok c3 ad) (by decide) rfl (Nat.le_of_ble_eq_true rfl) ?_
  intro p e s m below meth c A Q ls X hret hP hS hl
  exact bX2_isOfKind_23_E X hret x1 x2 _ _ ls hP hS hl h
theorem iwX2_isAnyOver_X2 : ∀ w ∈ wsX20, w ∈ wsX2_isAnyOver := fun _ h => List.mem_cons_of_mem _ (List.mem_append_right _ h)
theorem lkX2_isAnyOver_40 : Cond.fieldLink RX2 40 "StuckDoor$Family" "whoIsOver" "I" ∈ wsX2_isAnyOver := by decide +kernel
def rmX2_isAnyOver_23 : Room := { frames := 0, cells := 0, slots := 0, locals := 0 }
def fX2_isAnyOver_23_E (w : Mm) : Option (Int32) := (if (w.1 23 9) = (-9) then some 0 else some 1)
set_option maxRecDepth 20000 in
theorem bX2_isAnyOver_23_E {p : Program} {l : Launch} {e : Env} {s : State} {m : MethodId} {args : Array Value} {below : List Frame} {meth : Method} {c : Code} {Q : State → Prop} {D : va_G} {c3 : C3} {ad : Nat → Nat} {A : Nat → Prop} {r : Int32} {w : Mm} (X : Cx p s m args c cX2_isAnyOver 1 RX2 wsX2_isAnyOver D c3 (encC c3 ad) gC A) (hret : Rz p l e (rmX2_isAnyOver_23) s m args below meth c Q cX2_isAnyOver D (encC c3 ad) A r w) : ∀ (H : Heap) (locs : List Loc) (ls : Array Slot), va_P D vwCl ((encC c3 ad) w) H → va_S A s.heap H locs → lv_has ls 1 [(0, .ref (ad 23))] → fX2_isAnyOver_23_E w = some r → W p l e (rmX2_isAnyOver_23) s m args below meth c H locs 0 0 Q (F0 m 0 ls []) := by
  have hx := X.1
  have hb := X.2.1
  have hml := X.2.2.1
  have hown := X.2.2.2.1
  have hts := X.2.2.2.2.1
  intro H locs ls hP hS hl h
  unfold fX2_isAnyOver_23_E at h
  refine lv_aload_n hx hb dX2_isAnyOver_0 rfl (lv_at hl 0 rfl) ?_
  refine x_get (rest := []) X hP (gC23 c3 ad w) rfl iwX2_isAnyOver_X2 9 (by decide) lkX2_isAnyOver_40 rfl dX2_isAnyOver_1 ?_
  refine lv_bipush (v := (-9)) hx hb dX2_isAnyOver_4 (by decide) ?_
  refine lv_icmp_eq (tgt := 13) hx hb dX2_isAnyOver_6 (by decide) (fun c_1 => ?_) (fun c_1 => ?_)
  · replace h := it_p c_1 h
    refine lv_iconst (v := 0) hx hb dX2_isAnyOver_13 (by decide) ?_
    obtain rfl := Option.some.inj h
    exact hret (Or.inl rfl) _ _ _ _ hP hS dX2_isAnyOver_14
  · replace h := it_n c_1 h
    refine lv_iconst (v := 1) hx hb dX2_isAnyOver_9 (by decide) ?_
    refine lv_goto (tgt := 14) hx hb dX2_isAnyOver_10 (by decide) ?_
    obtain rfl := Option.some.inj h
    exact hret (Or.inr rfl) _ _ _ _ hP hS dX2_isAnyOver_14
def fX2_isAnyOver_23 (w : Mm) : Option (Int32) := fX2_isAnyOver_23_E w
theorem ctX2_isAnyOver_23 (l : Launch) (D : va_G) (c3 : C3) (ad : Nat → Nat) (w : Mm) (sz : Nat) (r : Int32) (h : fX2_isAnyOver_23 w = some r) : Ci l yX2_isAnyOver wsX2_isAnyOver rmX2_isAnyOver_23 D c3 (encC c3 ad) gC [.ref (ad 23)] w sz r w := by
  refine Ci.ofz (cc := cX2_isAnyOver) (maxL := 1) (encC_ok c3 ad) (by decide) rfl (Nat.le_of_ble_eq_true rfl) ?_
  intro p e s m below meth c A Q ls X hret hP hS hl
  exact bX2_isAnyOver_23_E X hret _ _ ls hP hS hl h
theorem iwX2_bearsSaying_X2 : ∀ w ∈ wsX20, w ∈ wsX2_bearsSaying := fun _ h => List.mem_cons_of_mem _ (List.mem_append_right _ h)
theorem lkX2_bearsSaying_15 : Cond.fieldLink RX2 15 "StuckDoor$Family" "bearing" "[I" ∈ wsX2_bearsSaying := by decide +kernel
theorem lkX2_bearsSaying_34 : Cond.fieldLink RX2 34 "StuckDoor$Family" "strain" "I" ∈ wsX2_bearsSaying := by decide +kernel
def rmX2_bearsSaying_23 : Room := { frames := 3, cells := 0, slots := 0, locals := 65 }
def fX2_bearsSaying_23_E (x1 : Int32) (x2 : Int32) (w : Mm) : Option (Int32) := bo (fX2_nearNow_23 x2 w) (fun r_2 => gd (inb x1 4 = true) ((if (w.1 24 x1.toNatClampNeg) < ((w.1 23 7) + r_2) then some 0 else some 1)))
set_option maxRecDepth 20000 in
theorem bX2_bearsSaying_23_E {p : Program} {l : Launch} {e : Env} {s : State} {m : MethodId} {args : Array Value} {below : List Frame} {meth : Method} {c : Code} {Q : State → Prop} {D : va_G} {c3 : C3} {ad : Nat → Nat} {A : Nat → Prop} {r : Int32} {w : Mm} (X : Cx p s m args c cX2_bearsSaying 3 RX2 wsX2_bearsSaying D c3 (encC c3 ad) gC A) (hret : Rz p l e (rmX2_bearsSaying_23) s m args below meth c Q cX2_bearsSaying D (encC c3 ad) A r w) : ∀ (x1 : Int32) (x2 : Int32) (H : Heap) (locs : List Loc) (ls : Array Slot), va_P D vwCl ((encC c3 ad) w) H → va_S A s.heap H locs → lv_has ls 3 [(0, .ref (ad 23)), (1, .int x1), (2, .int x2)] → fX2_bearsSaying_23_E x1 x2 w = some r → W p l e (rmX2_bearsSaying_23) s m args below meth c H locs 0 0 Q (F0 m 0 ls []) := by
  have hx := X.1
  have hb := X.2.1
  have hml := X.2.2.1
  have hown := X.2.2.2.1
  have hts := X.2.2.2.2.1
  intro x1 x2 H locs ls hP hS hl h
  unfold fX2_bearsSaying_23_E at h
  refine lv_aload_n hx hb dX2_bearsSaying_0 rfl (lv_at hl 0 rfl) ?_
  refine x_get (rest := []) X hP (gC23 c3 ad w) rfl iwX2_bearsSaying_X2 7 (by decide) lkX2_bearsSaying_34 rfl dX2_bearsSaying_1 ?_
  refine lv_aload_n hx hb dX2_bearsSaying_4 rfl (lv_at hl 0 rfl) ?_
  refine lv_iload_n hx hb dX2_bearsSaying_5 rfl (lv_at hl 2 rfl) ?_
  obtain ⟨r_2, e_1, h⟩ := bo_s h
  refine x_goi X hS (x_runV (As := [.int x2]) (rest := [.int (w.1 23 7)]) X gC_ok hP hS (ctX2_nearNow_23 l D c3 ad w _ x2 _ e_1) (cwV 1 hts gX2_bearsSaying_X2_nearNow rfl rfl rfl (by decide +kernel) ⟨by decide, by decide⟩) (gC23 c3 ad w) rfl rfl rfl hl.1 rfl (Nat.le_of_ble_eq_true rfl) dX2_bearsSaying_6) (fun H locs hP hS => ?_)
  refine lv_iadd hx hb dX2_bearsSaying_9 ?_
  refine lv_aload_n hx hb dX2_bearsSaying_10 rfl (lv_at hl 0 rfl) ?_
  refine x_get (rest := [.int ((w.1 23 7) + r_2)]) X hP (gC23 c3 ad w) rfl iwX2_bearsSaying_X2 1 (by decide) lkX2_bearsSaying_15 rfl dX2_bearsSaying_11 ?_
  refine lv_iload_n hx hb dX2_bearsSaying_14 rfl (lv_at hl 1 rfl) ?_
  obtain ⟨g_4, h⟩ := gd_s h
  refine x_iald X hP (gC24 c3 ad w) g_4 dX2_bearsSaying_15 ?_
  refine lv_icmp_gt (tgt := 23) hx hb dX2_bearsSaying_16 (by decide) (fun c_5 => ?_) (fun c_5 => ?_)
  · replace h := it_p c_5 h
    refine lv_iconst (v := 0) hx hb dX2_bearsSaying_23 (by decide) ?_
    obtain rfl := Option.some.inj h
    exact hret (Or.inl rfl) _ _ _ _ hP hS dX2_bearsSaying_24
  · replace h := it_n c_5 h
    refine lv_iconst (v := 1) hx hb dX2_bearsSaying_19 (by decide) ?_
    refine lv_goto (tgt := 24) hx hb dX2_bearsSaying_20 (by decide) ?_
    obtain rfl := Option.some.inj h
    exact hret (Or.inr rfl) _ _ _ _ hP hS dX2_bearsSaying_24
def fX2_bearsSaying_23 (x1 : Int32) (x2 : Int32) (w : Mm) : Option (Int32) := fX2_bearsSaying_23_E x1 x2 w
theorem ctX2_bearsSaying_23 (l : Launch) (D : va_G) (c3 : C3) (ad : Nat → Nat) (w : Mm) (sz : Nat) (x1 : Int32) (x2 : Int32) (r : Int32) (h : fX2_bearsSaying_23 x1 x2 w = some r) : Ci l yX2_bearsSaying wsX2_bearsSaying rmX2_bearsSaying_23 D c3 (encC c3 ad) gC [.ref (ad 23), .int x1, .int x2] w sz r w := by
  refine Ci.ofz (cc := cX2_bearsSaying) (maxL := 3) (encC_ok c3 ad) (by decide) rfl (Nat.le_of_ble_eq_true rfl) ?_
  intro p e s m below meth c A Q ls X hret hP hS hl
  exact bX2_bearsSaying_23_E X hret x1 x2 _ _ ls hP hS hl h
theorem iwX2_whoWouldBeOver_X2 : ∀ w ∈ wsX20, w ∈ wsX2_whoWouldBeOver := fun _ h => List.mem_cons_of_mem _ (List.mem_append_right _ h)
theorem lkX2_whoWouldBeOver_9 : Cond.fieldLink RX2 9 "StuckDoor$Family" "people" "I" ∈ wsX2_whoWouldBeOver := by decide +kernel
def rmX2_whoWouldBeOver_23 : Room := { frames := 4, cells := 0, slots := 0, locals := 87 }
def fX2_whoWouldBeOver_23_34 (k4 : Int32 → Int32 → Option (Int32)) (x1 : Int32) (x2 : Int32) (x3 : Int32) (w : Mm) : Option (Int32) := k4 x2 (x3 + 1)
set_option maxRecDepth 20000 in
theorem bX2_whoWouldBeOver_23_34 {p : Program} {l : Launch} {e : Env} {s : State} {m : MethodId} {args : Array Value} {below : List Frame} {meth : Method} {c : Code} {Q : State → Prop} {D : va_G} {c3 : C3} {ad : Nat → Nat} {A : Nat → Prop} {r : Int32} {w : Mm} (X : Cx p s m args c cX2_whoWouldBeOver 4 RX2 wsX2_whoWouldBeOver D c3 (encC c3 ad) gC A) (hret : Ri p l e (rmX2_whoWouldBeOver_23) s m args below meth c Q cX2_whoWouldBeOver D (encC c3 ad) A r w) {x1 : Int32} {k4 : Int32 → Int32 → Option (Int32)} (hk4 : ∀ (x2 : Int32) (x3 : Int32) (H : Heap) (locs : List Loc) (ls : Array Slot), va_P D vwCl ((encC c3 ad) w) H → va_S A s.heap H locs → lv_has ls 4 [(0, .ref (ad 23)), (1, .int x1), (2, .int x2), (3, .int x3)] → k4 x2 x3 = some r → W p l e (rmX2_whoWouldBeOver_23) s m args below meth c H locs 0 0 Q (F0 m 4 ls [])) : ∀ (x2 : Int32) (x3 : Int32) (H : Heap) (locs : List Loc) (ls : Array Slot), va_P D vwCl ((encC c3 ad) w) H → va_S A s.heap H locs → lv_has ls 4 [(0, .ref (ad 23)), (1, .int x1), (2, .int x2), (3, .int x3)] → fX2_whoWouldBeOver_23_34 k4 x1 x2 x3 w = some r → W p l e (rmX2_whoWouldBeOver_23) s m args below meth c H locs 0 0 Q (F0 m 34 ls []) := by
  have hx := X.1
  have hb := X.2.1
  have hml := X.2.2.1
  have hown := X.2.2.2.1
  have hts := X.2.2.2.2.1
  intro x2 x3 H locs ls hP hS hl h
  unfold fX2_whoWouldBeOver_23_34 at h
  refine lv_iinc (v := (x3 + 1)) (lv' := [(3, .int (x3 + 1)), (0, .ref (ad 23)), (1, .int x1), (2, .int x2)]) hx hb dX2_whoWouldBeOver_34 hl (k := 3) rfl rfl (by decide) rfl (fun ls hl => ?_)
  refine lv_goto (tgt := 4) hx hb dX2_whoWouldBeOver_37 (by decide) ?_
  exact hk4 x2 (x3 + 1) _ _ _ hP hS (lv_sub hl [1, 2, 3, 0] rfl) h
def fX2_whoWouldBeOver_23_4 (x1 : Int32) (w : Mm) : Nat → Int32 → Int32 → Option (Int32)
  | 0, _, _ => none
  | n + 1, x2, x3 => (if (w.1 23 0) ≤ x3 then some x2 else bo (fX2_isAnyOver_23 w) (fun r_3 => (if r_3 = 0 then bo (fX2_bearsSaying_23 x3 x1 w) (fun r_7 => (if r_7 = 0 then nm (x2 ||| (1 <<< (x3 &&& 31))) (fun x2_10 => fX2_whoWouldBeOver_23_34 (fX2_whoWouldBeOver_23_4 x1 w n) x1 x2_10 x3 w) else fX2_whoWouldBeOver_23_34 (fX2_whoWouldBeOver_23_4 x1 w n) x1 x2 x3 w)) else some x2)))
set_option maxRecDepth 20000 in
theorem bX2_whoWouldBeOver_23_4 {p : Program} {l : Launch} {e : Env} {s : State} {m : MethodId} {args : Array Value} {below : List Frame} {meth : Method} {c : Code} {Q : State → Prop} {D : va_G} {c3 : C3} {ad : Nat → Nat} {A : Nat → Prop} {r : Int32} {w : Mm} (X : Cx p s m args c cX2_whoWouldBeOver 4 RX2 wsX2_whoWouldBeOver D c3 (encC c3 ad) gC A) (hret : Ri p l e (rmX2_whoWouldBeOver_23) s m args below meth c Q cX2_whoWouldBeOver D (encC c3 ad) A r w) : ∀ (x1 : Int32) (n : Nat) (x2 : Int32) (x3 : Int32) (H : Heap) (locs : List Loc) (ls : Array Slot), va_P D vwCl ((encC c3 ad) w) H → va_S A s.heap H locs → lv_has ls 4 [(0, .ref (ad 23)), (1, .int x1), (2, .int x2), (3, .int x3)] → fX2_whoWouldBeOver_23_4 x1 w n x2 x3 = some r → W p l e (rmX2_whoWouldBeOver_23) s m args below meth c H locs 0 0 Q (F0 m 4 ls []) := by
  have hx := X.1
  have hb := X.2.1
  have hml := X.2.2.1
  have hown := X.2.2.2.1
  have hts := X.2.2.2.2.1
  intro x1 n
  induction n with
  | zero =>
    intro x2 x3 H locs ls hP hS hl h
    exact absurd h (by simp [fX2_whoWouldBeOver_23_4])
  | succ n ih =>
    intro x2 x3 H locs ls hP hS hl h
    rw [fX2_whoWouldBeOver_23_4] at h
    refine lv_iload_n hx hb dX2_whoWouldBeOver_4 rfl (lv_at hl 3 rfl) ?_
    refine lv_aload_n hx hb dX2_whoWouldBeOver_5 rfl (lv_at hl 0 rfl) ?_
    refine x_get (rest := [.int x3]) X hP (gC23 c3 ad w) rfl iwX2_whoWouldBeOver_X2 0 (by decide) lkX2_whoWouldBeOver_9 rfl dX2_whoWouldBeOver_6 ?_
    refine lv_icmp_ge (tgt := 40) hx hb dX2_whoWouldBeOver_9 (by decide) (fun c_1 => ?_) (fun c_1 => ?_)
    · replace h := it_p c_1 h
      refine lv_iload_n hx hb dX2_whoWouldBeOver_40 rfl (lv_at hl 2 rfl) ?_
      obtain rfl := Option.some.inj h
      exact hret _ _ _ _ hP hS dX2_whoWouldBeOver_41
    · replace h := it_n c_1 h
      refine lv_aload_n hx hb dX2_whoWouldBeOver_12 rfl (lv_at hl 0 rfl) ?_
      obtain ⟨r_3, e_2, h⟩ := bo_s h
      refine x_goi X hS (x_runV (As := []) (rest := []) X gC_ok hP hS (ctX2_isAnyOver_23 l D c3 ad w _ _ e_2) (cwV 0 hts gX2_whoWouldBeOver_X2_isAnyOver rfl rfl rfl (by decide +kernel) ⟨by decide, by decide⟩) (gC23 c3 ad w) rfl rfl rfl hl.1 rfl (Nat.le_of_ble_eq_true rfl) dX2_whoWouldBeOver_13) (fun H locs hP hS => ?_)
      refine lv_if_ne (tgt := 40) hx hb dX2_whoWouldBeOver_16 (by decide) (fun c_5 => ?_) (fun c_5 => ?_)
      · replace h := it_n c_5 h
        refine lv_iload_n hx hb dX2_whoWouldBeOver_40 rfl (lv_at hl 2 rfl) ?_
        obtain rfl := Option.some.inj h
        exact hret _ _ _ _ hP hS dX2_whoWouldBeOver_41
      · replace h := it_p c_5 h
        refine lv_aload_n hx hb dX2_whoWouldBeOver_19 rfl (lv_at hl 0 rfl) ?_
        refine lv_iload_n hx hb dX2_whoWouldBeOver_20 rfl (lv_at hl 3 rfl) ?_
        refine lv_iload_n hx hb dX2_whoWouldBeOver_21 rfl (lv_at hl 1 rfl) ?_
        obtain ⟨r_7, e_6, h⟩ := bo_s h
        refine x_goi X hS (x_runV (As := [.int x3, .int x1]) (rest := []) X gC_ok hP hS (ctX2_bearsSaying_23 l D c3 ad w _ x3 x1 _ e_6) (cwV 2 hts gX2_whoWouldBeOver_X2_bearsSaying rfl rfl rfl (by decide +kernel) ⟨by decide, by decide⟩) (gC23 c3 ad w) rfl rfl rfl hl.1 rfl (Nat.le_of_ble_eq_true rfl) dX2_whoWouldBeOver_22) (fun H locs hP hS => ?_)
        refine lv_if_ne (tgt := 34) hx hb dX2_whoWouldBeOver_25 (by decide) (fun c_9 => ?_) (fun c_9 => ?_)
        · replace h := it_n c_9 h
          exact bX2_whoWouldBeOver_23_34 (x1 := x1) (k4 := (fX2_whoWouldBeOver_23_4 x1 w n)) X hret ih x2 x3 _ _ _ hP hS (lv_sub hl [0, 1, 2, 3] rfl) h
        · replace h := it_p c_9 h
          refine lv_iload_n hx hb dX2_whoWouldBeOver_28 rfl (lv_at hl 2 rfl) ?_
          refine lv_iconst (v := 1) hx hb dX2_whoWouldBeOver_29 (by decide) ?_
          refine lv_iload_n hx hb dX2_whoWouldBeOver_30 rfl (lv_at hl 3 rfl) ?_
          refine lv_ishl hx hb dX2_whoWouldBeOver_31 ?_
          refine lv_ior hx hb dX2_whoWouldBeOver_32 ?_
          refine x_nmi h (fun x2_10 h => ?_)
          refine lv_istore_n (lv' := [(2, .int x2_10), (0, .ref (ad 23)), (1, .int x1), (3, .int x3)]) hx hb dX2_whoWouldBeOver_33 rfl hl (by decide) rfl (fun ls hl => ?_)
          exact bX2_whoWouldBeOver_23_34 (x1 := x1) (k4 := (fX2_whoWouldBeOver_23_4 x1 w n)) X hret ih x2_10 x3 _ _ _ hP hS (lv_sub hl [1, 2, 0, 3] rfl) h
def fX2_whoWouldBeOver_23_E (x1 : Int32) (w : Mm) : Option (Int32) := fX2_whoWouldBeOver_23_4 x1 w FU 0 0
set_option maxRecDepth 20000 in
theorem bX2_whoWouldBeOver_23_E {p : Program} {l : Launch} {e : Env} {s : State} {m : MethodId} {args : Array Value} {below : List Frame} {meth : Method} {c : Code} {Q : State → Prop} {D : va_G} {c3 : C3} {ad : Nat → Nat} {A : Nat → Prop} {r : Int32} {w : Mm} (X : Cx p s m args c cX2_whoWouldBeOver 4 RX2 wsX2_whoWouldBeOver D c3 (encC c3 ad) gC A) (hret : Ri p l e (rmX2_whoWouldBeOver_23) s m args below meth c Q cX2_whoWouldBeOver D (encC c3 ad) A r w) : ∀ (x1 : Int32) (H : Heap) (locs : List Loc) (ls : Array Slot), va_P D vwCl ((encC c3 ad) w) H → va_S A s.heap H locs → lv_has ls 4 [(0, .ref (ad 23)), (1, .int x1)] → fX2_whoWouldBeOver_23_E x1 w = some r → W p l e (rmX2_whoWouldBeOver_23) s m args below meth c H locs 0 0 Q (F0 m 0 ls []) := by
  have hx := X.1
  have hb := X.2.1
  have hml := X.2.2.1
  have hown := X.2.2.2.1
  have hts := X.2.2.2.2.1
  intro x1 H locs ls hP hS hl h
  unfold fX2_whoWouldBeOver_23_E at h
  refine lv_iconst (v := 0) hx hb dX2_whoWouldBeOver_0 (by decide) ?_
  refine lv_istore_n (lv' := [(2, .int 0), (0, .ref (ad 23)), (1, .int x1)]) hx hb dX2_whoWouldBeOver_1 rfl hl (by decide) rfl (fun ls hl => ?_)
  refine lv_iconst (v := 0) hx hb dX2_whoWouldBeOver_2 (by decide) ?_
  refine lv_istore_n (lv' := [(3, .int 0), (2, .int 0), (0, .ref (ad 23)), (1, .int x1)]) hx hb dX2_whoWouldBeOver_3 rfl hl (by decide) rfl (fun ls hl => ?_)
  exact bX2_whoWouldBeOver_23_4 X hret x1 FU 0 0 _ _ _ hP hS (lv_sub hl [2, 3, 1, 0] rfl) h
def fX2_whoWouldBeOver_23 (x1 : Int32) (w : Mm) : Option (Int32) := fX2_whoWouldBeOver_23_E x1 w
theorem ctX2_whoWouldBeOver_23 (l : Launch) (D : va_G) (c3 : C3) (ad : Nat → Nat) (w : Mm) (sz : Nat) (x1 : Int32) (r : Int32) (h : fX2_whoWouldBeOver_23 x1 w = some r) : Ci l yX2_whoWouldBeOver wsX2_whoWouldBeOver rmX2_whoWouldBeOver_23 D c3 (encC c3 ad) gC [.ref (ad 23), .int x1] w sz r w := by
  refine Ci.of (cc := cX2_whoWouldBeOver) (maxL := 4) (encC_ok c3 ad) (by decide) rfl (Nat.le_of_ble_eq_true rfl) ?_
  intro p e s m below meth c A Q ls X hret hP hS hl
  exact bX2_whoWouldBeOver_23_E X hret x1 _ _ ls hP hS hl h
theorem iwX7_mark_X2 : ∀ w ∈ wsX20, w ∈ wsX7_mark := fun _ h => List.mem_cons_of_mem _ (List.mem_append_right _ h)
theorem iwX7_mark_X7 : ∀ w ∈ wsX70, w ∈ wsX7_mark := fun _ h => List.mem_cons_of_mem _ (List.mem_append_left _ (List.mem_append_right _ h))
theorem lkX7_mark_27 : Cond.fieldLink RX7 27 "StuckDoor" "family" "LStuckDoor$Family;" ∈ wsX7_mark := by decide +kernel
theorem lkX7_mark_135 : Cond.fieldLink RX7 135 "StuckDoor$Family" "said" "[I" ∈ wsX7_mark := by decide +kernel
theorem lkX7_mark_138 : Cond.fieldLink RX7 138 "StuckDoor$Family" "told" "[I" ∈ wsX7_mark := by decide +kernel
def rmX7_mark : Room := { frames := 5, cells := 0, slots := 0, locals := 110 }
def fX7_mark_E (x1 : Int32) (x2 : Int32) (w : Mm) : Option (Int32 × Mm) := bo (fX2_hasSaying_23 x1 w) (fun r_2 => (if r_2 = 0 then some ((-1), w) else (if x2 < 1 then some ((-1), w) else (if x2 ≤ 5 then bo (fX2_isOfKind_23 x1 x2 w) (fun r_8 => (if r_8 = 0 then bd (fX7_refuse 3 w) (fun r_28 w_29 => some (r_28, w_29)) else (if x2 = 1 then gd (inb x1 6 = true) (some ((w.1 28 x1.toNatClampNeg), w)) else (if x2 = 2 then gd (inb x1 6 = true) (some (((w.1 26 x1.toNatClampNeg) - ((w.1 26 x1.toNatClampNeg) / 2)), w)) else (if x2 = 3 then gd (inb x1 6 = true) (some ((if 0 < ((3 - (w.1 26 x1.toNatClampNeg)) - (w.1 28 x1.toNatClampNeg)) then ((3 - (w.1 26 x1.toNatClampNeg)) - (w.1 28 x1.toNatClampNeg)) else 0), w)) else (if x2 = 4 then bo (fX2_openTopics_23 w) (fun r_19 => some (r_19, w)) else bo (fX2_whoWouldBeOver_23 x1 w) (fun r_22 => bo (fJ6_bitCount_0f7a4 r_22) (fun r_25 => some (r_25, w))))))))) else some ((-1), w)))))
set_option maxRecDepth 20000 in
theorem bX7_mark_E {p : Program} {l : Launch} {e : Env} {s : State} {m : MethodId} {args : Array Value} {below : List Frame} {meth : Method} {c : Code} {Q : State → Prop} {D : va_G} {c3 : C3} {ad : Nat → Nat} {A : Nat → Prop} {r : Int32} {w' : Mm} (X : Cx p s m args c cX7_mark 3 RX7 wsX7_mark D c3 (encC c3 ad) gC A) (hret : Ri p l e (rmX7_mark) s m args below meth c Q cX7_mark D (encC c3 ad) A r w') : ∀ (x1 : Int32) (x2 : Int32) (w : Mm) (H : Heap) (locs : List Loc) (ls : Array Slot), va_P D vwCl ((encC c3 ad) w) H → va_S A s.heap H locs → lv_has ls 3 [(0, .ref (ad 0)), (1, .int x1), (2, .int x2)] → fX7_mark_E x1 x2 w = some (r, w') → W p l e (rmX7_mark) s m args below meth c H locs 0 0 Q (F0 m 0 ls []) := by
  have hx := X.1
  have hb := X.2.1
  have hml := X.2.2.1
  have hown := X.2.2.2.1
  have hts := X.2.2.2.2.1
  intro x1 x2 w H locs ls hP hS hl h
  unfold fX7_mark_E at h
  refine lv_aload_n hx hb dX7_mark_0 rfl (lv_at hl 0 rfl) ?_
  refine x_get (rest := []) X hP (gC0 c3 ad w) rfl iwX7_mark_X7 3 (by decide) lkX7_mark_27 rfl dX7_mark_1 ?_
  refine lv_iload_n hx hb dX7_mark_4 rfl (lv_at hl 1 rfl) ?_
  obtain ⟨r_2, e_1, h⟩ := bo_s h
  refine x_goi X hS (x_runV (As := [.int x1]) (rest := []) X gC_ok hP hS (ctX2_hasSaying_23 l D c3 ad w _ x1 _ e_1) (cwV 1 hts gX7_mark_X2_hasSaying rfl rfl rfl (by decide +kernel) ⟨by decide, by decide⟩) (gC23 c3 ad w) rfl rfl rfl hl.1 rfl (Nat.le_of_ble_eq_true rfl) dX7_mark_5) (fun H locs hP hS => ?_)
  refine lv_if_eq (tgt := 21) hx hb dX7_mark_8 (by decide) (fun c_4 => ?_) (fun c_4 => ?_)
  · replace h := it_p c_4 h
    refine lv_iconst (v := (-1)) hx hb dX7_mark_21 (by decide) ?_
    obtain ⟨rfl, rfl⟩ := Prod.mk.inj (Option.some.inj h)
    exact hret _ _ _ _ hP hS dX7_mark_22
  · replace h := it_n c_4 h
    refine lv_iload_n hx hb dX7_mark_11 rfl (lv_at hl 2 rfl) ?_
    refine lv_iconst (v := 1) hx hb dX7_mark_12 (by decide) ?_
    refine lv_icmp_lt (tgt := 21) hx hb dX7_mark_13 (by decide) (fun c_5 => ?_) (fun c_5 => ?_)
    · replace h := it_p c_5 h
      refine lv_iconst (v := (-1)) hx hb dX7_mark_21 (by decide) ?_
      obtain ⟨rfl, rfl⟩ := Prod.mk.inj (Option.some.inj h)
      exact hret _ _ _ _ hP hS dX7_mark_22
    · replace h := it_n c_5 h
      refine lv_iload_n hx hb dX7_mark_16 rfl (lv_at hl 2 rfl) ?_
      refine lv_iconst (v := 5) hx hb dX7_mark_17 (by decide) ?_
      refine lv_icmp_le (tgt := 23) hx hb dX7_mark_18 (by decide) (fun c_6 => ?_) (fun c_6 => ?_)
      · replace h := it_p c_6 h
        refine lv_aload_n hx hb dX7_mark_23 rfl (lv_at hl 0 rfl) ?_
        refine x_get (rest := []) X hP (gC0 c3 ad w) rfl iwX7_mark_X7 3 (by decide) lkX7_mark_27 rfl dX7_mark_24 ?_
        refine lv_iload_n hx hb dX7_mark_27 rfl (lv_at hl 1 rfl) ?_
        refine lv_iload_n hx hb dX7_mark_28 rfl (lv_at hl 2 rfl) ?_
        obtain ⟨r_8, e_7, h⟩ := bo_s h
        refine x_goi X hS (x_runV (As := [.int x1, .int x2]) (rest := []) X gC_ok hP hS (ctX2_isOfKind_23 l D c3 ad w _ x1 x2 _ e_7) (cwV 2 hts gX7_mark_X2_isOfKind rfl rfl rfl (by decide +kernel) ⟨by decide, by decide⟩) (gC23 c3 ad w) rfl rfl rfl hl.1 rfl (Nat.le_of_ble_eq_true rfl) dX7_mark_29) (fun H locs hP hS => ?_)
        refine lv_if_ne (tgt := 41) hx hb dX7_mark_32 (by decide) (fun c_10 => ?_) (fun c_10 => ?_)
        · replace h := it_n c_10 h
          refine lv_iload_n hx hb dX7_mark_41 rfl (lv_at hl 2 rfl) ?_
          by_cases c_11 : x2 = 1
          · replace h := it_p c_11 h
            refine lv_tableIn (off := 30) (tgt := 72) hx hb dX7_mark_42 (by rw [c_11]; decide) (by rw [c_11]; decide) (by rw [c_11]; decide) (by decide) ?_
            refine lv_aload_n hx hb dX7_mark_72 rfl (lv_at hl 0 rfl) ?_
            refine x_get (rest := []) X hP (gC0 c3 ad w) rfl iwX7_mark_X7 3 (by decide) lkX7_mark_27 rfl dX7_mark_73 ?_
            refine x_get (rest := []) X hP (gC23 c3 ad w) rfl iwX7_mark_X2 10 (by decide) lkX7_mark_135 rfl dX7_mark_76 ?_
            refine lv_iload_n hx hb dX7_mark_79 rfl (lv_at hl 1 rfl) ?_
            obtain ⟨g_12, h⟩ := gd_s h
            refine x_iald X hP (gC28 c3 ad w) g_12 dX7_mark_80 ?_
            obtain ⟨rfl, rfl⟩ := Prod.mk.inj (Option.some.inj h)
            exact hret _ _ _ _ hP hS dX7_mark_81
          replace h := it_n c_11 h
          by_cases c_13 : x2 = 2
          · replace h := it_p c_13 h
            refine lv_tableIn (off := 40) (tgt := 82) hx hb dX7_mark_42 (by rw [c_13]; decide) (by rw [c_13]; decide) (by rw [c_13]; decide) (by decide) ?_
            refine lv_aload_n hx hb dX7_mark_82 rfl (lv_at hl 0 rfl) ?_
            refine x_get (rest := []) X hP (gC0 c3 ad w) rfl iwX7_mark_X7 3 (by decide) lkX7_mark_27 rfl dX7_mark_83 ?_
            refine x_get (rest := []) X hP (gC23 c3 ad w) rfl iwX7_mark_X2 4 (by decide) lkX7_mark_138 rfl dX7_mark_86 ?_
            refine lv_iload_n hx hb dX7_mark_89 rfl (lv_at hl 1 rfl) ?_
            obtain ⟨g_14, h⟩ := gd_s h
            refine x_iald X hP (gC26 c3 ad w) g_14 dX7_mark_90 ?_
            refine lv_aload_n hx hb dX7_mark_91 rfl (lv_at hl 0 rfl) ?_
            refine x_get (rest := [.int (w.1 26 x1.toNatClampNeg)]) X hP (gC0 c3 ad w) rfl iwX7_mark_X7 3 (by decide) lkX7_mark_27 rfl dX7_mark_92 ?_
            refine x_get (rest := [.int (w.1 26 x1.toNatClampNeg)]) X hP (gC23 c3 ad w) rfl iwX7_mark_X2 4 (by decide) lkX7_mark_138 rfl dX7_mark_95 ?_
            refine lv_iload_n hx hb dX7_mark_98 rfl (lv_at hl 1 rfl) ?_
            refine x_iald X hP (gC26 c3 ad w) g_14 dX7_mark_99 ?_
            refine lv_iconst (v := 2) hx hb dX7_mark_100 (by decide) ?_
            refine lv_idiv hx hb dX7_mark_101 (by decide) ?_
            refine lv_isub hx hb dX7_mark_102 ?_
            obtain ⟨rfl, rfl⟩ := Prod.mk.inj (Option.some.inj h)
            exact hret _ _ _ _ hP hS dX7_mark_103
          replace h := it_n c_13 h
          by_cases c_15 : x2 = 3
          · replace h := it_p c_15 h
            refine lv_tableIn (off := 62) (tgt := 104) hx hb dX7_mark_42 (by rw [c_15]; decide) (by rw [c_15]; decide) (by rw [c_15]; decide) (by decide) ?_
            refine lv_iconst (v := 0) hx hb dX7_mark_104 (by decide) ?_
            refine lv_iconst (v := 3) hx hb dX7_mark_105 (by decide) ?_
            refine lv_aload_n hx hb dX7_mark_106 rfl (lv_at hl 0 rfl) ?_
            refine x_get (rest := [.int 3, .int 0]) X hP (gC0 c3 ad w) rfl iwX7_mark_X7 3 (by decide) lkX7_mark_27 rfl dX7_mark_107 ?_
            refine x_get (rest := [.int 3, .int 0]) X hP (gC23 c3 ad w) rfl iwX7_mark_X2 4 (by decide) lkX7_mark_138 rfl dX7_mark_110 ?_
            refine lv_iload_n hx hb dX7_mark_113 rfl (lv_at hl 1 rfl) ?_
            obtain ⟨g_16, h⟩ := gd_s h
            refine x_iald X hP (gC26 c3 ad w) g_16 dX7_mark_114 ?_
            refine lv_isub hx hb dX7_mark_115 ?_
            refine lv_aload_n hx hb dX7_mark_116 rfl (lv_at hl 0 rfl) ?_
            refine x_get (rest := [.int (3 - (w.1 26 x1.toNatClampNeg)), .int 0]) X hP (gC0 c3 ad w) rfl iwX7_mark_X7 3 (by decide) lkX7_mark_27 rfl dX7_mark_117 ?_
            refine x_get (rest := [.int (3 - (w.1 26 x1.toNatClampNeg)), .int 0]) X hP (gC23 c3 ad w) rfl iwX7_mark_X2 10 (by decide) lkX7_mark_135 rfl dX7_mark_120 ?_
            refine lv_iload_n hx hb dX7_mark_123 rfl (lv_at hl 1 rfl) ?_
            refine x_iald X hP (gC28 c3 ad w) g_16 dX7_mark_124 ?_
            refine lv_isub hx hb dX7_mark_125 ?_
            refine va_mmax hx hb (by rw [hml]; exact hl.1.symm) hown (hts (.methodLink RX7 141 Lib.Math.max.name) (by decide +kernel)) (hts (.static Lib.Math.max.name) (by decide +kernel)) (hts (.initialized "java/lang/Math") (by decide +kernel)) (hts (.code Lib.Math.max.name Lib.Math.max.code 2 (some .int)) (by decide +kernel)) (Nat.le_of_ble_eq_true rfl) (Nat.le_of_ble_eq_true rfl) (Nat.zero_le _) (Nat.zero_le _) dX7_mark_126 ?_
            obtain ⟨rfl, rfl⟩ := Prod.mk.inj (Option.some.inj h)
            exact hret _ _ _ _ hP hS dX7_mark_129
          replace h := it_n c_15 h
          by_cases c_17 : x2 = 4
          · replace h := it_p c_17 h
            refine lv_tableIn (off := 88) (tgt := 130) hx hb dX7_mark_42 (by rw [c_17]; decide) (by rw [c_17]; decide) (by rw [c_17]; decide) (by decide) ?_
            refine lv_aload_n hx hb dX7_mark_130 rfl (lv_at hl 0 rfl) ?_
            refine x_get (rest := []) X hP (gC0 c3 ad w) rfl iwX7_mark_X7 3 (by decide) lkX7_mark_27 rfl dX7_mark_131 ?_
            obtain ⟨r_19, e_18, h⟩ := bo_s h
            refine x_goi X hS (x_runV (As := []) (rest := []) X gC_ok hP hS (ctX2_openTopics_23 l D c3 ad w _ _ e_18) (cwV 0 hts gX7_mark_X2_openTopics rfl rfl rfl (by decide +kernel) ⟨by decide, by decide⟩) (gC23 c3 ad w) rfl rfl rfl hl.1 rfl (Nat.le_of_ble_eq_true rfl) dX7_mark_134) (fun H locs hP hS => ?_)
            obtain ⟨rfl, rfl⟩ := Prod.mk.inj (Option.some.inj h)
            exact hret _ _ _ _ hP hS dX7_mark_137
          replace h := it_n c_17 h
          refine lv_tableOut (tgt := 138) hx hb dX7_mark_42 (by have := lv_neT c_11 (a := 1) rfl; have := lv_neT c_13 (a := 2) rfl; have := lv_neT c_15 (a := 3) rfl; have := lv_neT c_17 (a := 4) rfl; omega) (by decide) ?_
          refine lv_aload_n hx hb dX7_mark_138 rfl (lv_at hl 0 rfl) ?_
          refine x_get (rest := []) X hP (gC0 c3 ad w) rfl iwX7_mark_X7 3 (by decide) lkX7_mark_27 rfl dX7_mark_139 ?_
          refine lv_iload_n hx hb dX7_mark_142 rfl (lv_at hl 1 rfl) ?_
          obtain ⟨r_22, e_21, h⟩ := bo_s h
          refine x_goi X hS (x_runV (As := [.int x1]) (rest := []) X gC_ok hP hS (ctX2_whoWouldBeOver_23 l D c3 ad w _ x1 _ e_21) (cwV 1 hts gX7_mark_X2_whoWouldBeOver rfl rfl rfl (by decide +kernel) ⟨by decide, by decide⟩) (gC23 c3 ad w) rfl rfl rfl hl.1 rfl (Nat.le_of_ble_eq_true rfl) dX7_mark_143) (fun H locs hP hS => ?_)
          obtain ⟨r_25, e_24, h⟩ := bo_s h
          refine x_goi X hS (x_runS (As := [.int r_22]) (rest := []) X gC_ok hP hS (ctJ6_bitCount_0f7a4 l D c3 ad w _ r_22 _ e_24) (va_cwS 1 hts gX7_mark_J6_bitCount_0f7a4 rfl rfl rfl (by decide +kernel) ⟨by decide, by decide⟩) rfl hl.1 rfl (Nat.le_of_ble_eq_true rfl) dX7_mark_146) (fun H locs hP hS => ?_)
          obtain ⟨rfl, rfl⟩ := Prod.mk.inj (Option.some.inj h)
          exact hret _ _ _ _ hP hS dX7_mark_149
        · replace h := it_p c_10 h
          refine lv_aload_n hx hb dX7_mark_35 rfl (lv_at hl 0 rfl) ?_
          refine lv_iconst (v := 3) hx hb dX7_mark_36 (by decide) ?_
          obtain ⟨r_28, w_29, e_27, h⟩ := bd_s h
          refine x_goi X hS (x_runV (As := [.int 3]) (rest := []) X gC_ok hP hS (ctX7_refuse l D c3 ad w _ 3 _ _ e_27) (cwV 1 hts gX7_mark_X7_refuse rfl rfl rfl (by decide +kernel) ⟨by decide, by decide⟩) (gC0 c3 ad w) rfl rfl rfl hl.1 rfl (Nat.le_of_ble_eq_true rfl) dX7_mark_37) (fun H locs hP hS => ?_)
          obtain ⟨rfl, rfl⟩ := Prod.mk.inj (Option.some.inj h)
          exact hret _ _ _ _ hP hS dX7_mark_40
      · replace h := it_n c_6 h
        refine lv_iconst (v := (-1)) hx hb dX7_mark_21 (by decide) ?_
        obtain ⟨rfl, rfl⟩ := Prod.mk.inj (Option.some.inj h)
        exact hret _ _ _ _ hP hS dX7_mark_22
def fX7_mark (x1 : Int32) (x2 : Int32) (w : Mm) : Option (Int32 × Mm) := fX7_mark_E x1 x2 w
theorem ctX7_mark (l : Launch) (D : va_G) (c3 : C3) (ad : Nat → Nat) (w : Mm) (sz : Nat) (x1 : Int32) (x2 : Int32) (r : Int32) (w' : Mm) (h : fX7_mark x1 x2 w = some (r, w')) : Ci l yX7_mark wsX7_mark rmX7_mark D c3 (encC c3 ad) gC [.ref (ad 0), .int x1, .int x2] w sz r w' := by
  refine Ci.of (cc := cX7_mark) (maxL := 3) (encC_ok c3 ad) (by decide) rfl (Nat.le_of_ble_eq_true rfl) ?_
  intro p e s m below meth c A Q ls X hret hP hS hl
  exact bX7_mark_E X hret x1 x2 w _ _ ls hP hS hl h
theorem iwX2_hasPerson_X2 : ∀ w ∈ wsX20, w ∈ wsX2_hasPerson := fun _ h => List.mem_cons_of_mem _ (List.mem_append_right _ h)
theorem lkX2_hasPerson_9 : Cond.fieldLink RX2 9 "StuckDoor$Family" "people" "I" ∈ wsX2_hasPerson := by decide +kernel
def rmX2_hasPerson_23 : Room := { frames := 0, cells := 0, slots := 0, locals := 0 }
def fX2_hasPerson_23_E (x1 : Int32) (w : Mm) : Option (Int32) := (if x1 < 0 then some 0 else (if (w.1 23 0) ≤ x1 then some 0 else some 1))
set_option maxRecDepth 20000 in
theorem bX2_hasPerson_23_E {p : Program} {l : Launch} {e : Env} {s : State} {m : MethodId} {args : Array Value} {below : List Frame} {meth : Method} {c : Code} {Q : State → Prop} {D : va_G} {c3 : C3} {ad : Nat → Nat} {A : Nat → Prop} {r : Int32} {w : Mm} (X : Cx p s m args c cX2_hasPerson 2 RX2 wsX2_hasPerson D c3 (encC c3 ad) gC A) (hret : Rz p l e (rmX2_hasPerson_23) s m args below meth c Q cX2_hasPerson D (encC c3 ad) A r w) : ∀ (x1 : Int32) (H : Heap) (locs : List Loc) (ls : Array Slot), va_P D vwCl ((encC c3 ad) w) H → va_S A s.heap H locs → lv_has ls 2 [(0, .ref (ad 23)), (1, .int x1)] → fX2_hasPerson_23_E x1 w = some r → W p l e (rmX2_hasPerson_23) s m args below meth c H locs 0 0 Q (F0 m 0 ls []) := by
  have hx := X.1
  have hb := X.2.1
  have hml := X.2.2.1
  have hown := X.2.2.2.1
  have hts := X.2.2.2.2.1
  intro x1 H locs ls hP hS hl h
  unfold fX2_hasPerson_23_E at h
  refine lv_iload_n hx hb dX2_hasPerson_0 rfl (lv_at hl 1 rfl) ?_
  refine lv_if_lt (tgt := 16) hx hb dX2_hasPerson_1 (by decide) (fun c_1 => ?_) (fun c_1 => ?_)
  · replace h := it_p c_1 h
    refine lv_iconst (v := 0) hx hb dX2_hasPerson_16 (by decide) ?_
    obtain rfl := Option.some.inj h
    exact hret (Or.inl rfl) _ _ _ _ hP hS dX2_hasPerson_17
  · replace h := it_n c_1 h
    refine lv_iload_n hx hb dX2_hasPerson_4 rfl (lv_at hl 1 rfl) ?_
    refine lv_aload_n hx hb dX2_hasPerson_5 rfl (lv_at hl 0 rfl) ?_
    refine x_get (rest := [.int x1]) X hP (gC23 c3 ad w) rfl iwX2_hasPerson_X2 0 (by decide) lkX2_hasPerson_9 rfl dX2_hasPerson_6 ?_
    refine lv_icmp_ge (tgt := 16) hx hb dX2_hasPerson_9 (by decide) (fun c_2 => ?_) (fun c_2 => ?_)
    · replace h := it_p c_2 h
      refine lv_iconst (v := 0) hx hb dX2_hasPerson_16 (by decide) ?_
      obtain rfl := Option.some.inj h
      exact hret (Or.inl rfl) _ _ _ _ hP hS dX2_hasPerson_17
    · replace h := it_n c_2 h
      refine lv_iconst (v := 1) hx hb dX2_hasPerson_12 (by decide) ?_
      refine lv_goto (tgt := 17) hx hb dX2_hasPerson_13 (by decide) ?_
      obtain rfl := Option.some.inj h
      exact hret (Or.inr rfl) _ _ _ _ hP hS dX2_hasPerson_17
def fX2_hasPerson_23 (x1 : Int32) (w : Mm) : Option (Int32) := fX2_hasPerson_23_E x1 w
theorem ctX2_hasPerson_23 (l : Launch) (D : va_G) (c3 : C3) (ad : Nat → Nat) (w : Mm) (sz : Nat) (x1 : Int32) (r : Int32) (h : fX2_hasPerson_23 x1 w = some r) : Ci l yX2_hasPerson wsX2_hasPerson rmX2_hasPerson_23 D c3 (encC c3 ad) gC [.ref (ad 23), .int x1] w sz r w := by
  refine Ci.ofz (cc := cX2_hasPerson) (maxL := 2) (encC_ok c3 ad) (by decide) rfl (Nat.le_of_ble_eq_true rfl) ?_
  intro p e s m below meth c A Q ls X hret hP hS hl
  exact bX2_hasPerson_23_E X hret x1 _ _ ls hP hS hl h
theorem iwX7_bears_X2 : ∀ w ∈ wsX20, w ∈ wsX7_bears := fun _ h => List.mem_cons_of_mem _ (List.mem_append_right _ h)
theorem iwX7_bears_X7 : ∀ w ∈ wsX70, w ∈ wsX7_bears := fun _ h => List.mem_cons_of_mem _ (List.mem_append_left _ (List.mem_append_right _ h))
theorem lkX7_bears_27 : Cond.fieldLink RX7 27 "StuckDoor" "family" "LStuckDoor$Family;" ∈ wsX7_bears := by decide +kernel
theorem lkX7_bears_161 : Cond.fieldLink RX7 161 "StuckDoor$Family" "bearing" "[I" ∈ wsX7_bears := by decide +kernel
def rmX7_bears : Room := { frames := 1, cells := 0, slots := 0, locals := 21 }
def fX7_bears_E (x1 : Int32) (w : Mm) : Option (Int32) := bo (fX2_hasPerson_23 x1 w) (fun r_2 => (if r_2 = 0 then some (-1) else gd (inb x1 4 = true) (some (w.1 24 x1.toNatClampNeg))))
set_option maxRecDepth 20000 in
theorem bX7_bears_E {p : Program} {l : Launch} {e : Env} {s : State} {m : MethodId} {args : Array Value} {below : List Frame} {meth : Method} {c : Code} {Q : State → Prop} {D : va_G} {c3 : C3} {ad : Nat → Nat} {A : Nat → Prop} {r : Int32} {w : Mm} (X : Cx p s m args c cX7_bears 2 RX7 wsX7_bears D c3 (encC c3 ad) gC A) (hret : Ri p l e (rmX7_bears) s m args below meth c Q cX7_bears D (encC c3 ad) A r w) : ∀ (x1 : Int32) (H : Heap) (locs : List Loc) (ls : Array Slot), va_P D vwCl ((encC c3 ad) w) H → va_S A s.heap H locs → lv_has ls 2 [(0, .ref (ad 0)), (1, .int x1)] → fX7_bears_E x1 w = some r → W p l e (rmX7_bears) s m args below meth c H locs 0 0 Q (F0 m 0 ls []) := by
  have hx := X.1
  have hb := X.2.1
  have hml := X.2.2.1
  have hown := X.2.2.2.1
  have hts := X.2.2.2.2.1
  intro x1 H locs ls hP hS hl h
  unfold fX7_bears_E at h
  refine lv_aload_n hx hb dX7_bears_0 rfl (lv_at hl 0 rfl) ?_
  refine x_get (rest := []) X hP (gC0 c3 ad w) rfl iwX7_bears_X7 3 (by decide) lkX7_bears_27 rfl dX7_bears_1 ?_
  refine lv_iload_n hx hb dX7_bears_4 rfl (lv_at hl 1 rfl) ?_
  obtain ⟨r_2, e_1, h⟩ := bo_s h
  refine x_goi X hS (x_runV (As := [.int x1]) (rest := []) X gC_ok hP hS (ctX2_hasPerson_23 l D c3 ad w _ x1 _ e_1) (cwV 1 hts gX7_bears_X2_hasPerson rfl rfl rfl (by decide +kernel) ⟨by decide, by decide⟩) (gC23 c3 ad w) rfl rfl rfl hl.1 rfl (Nat.le_of_ble_eq_true rfl) dX7_bears_5) (fun H locs hP hS => ?_)
  refine lv_if_eq (tgt := 23) hx hb dX7_bears_8 (by decide) (fun c_4 => ?_) (fun c_4 => ?_)
  · replace h := it_p c_4 h
    refine lv_iconst (v := (-1)) hx hb dX7_bears_23 (by decide) ?_
    obtain rfl := Option.some.inj h
    exact hret _ _ _ _ hP hS dX7_bears_24
  · replace h := it_n c_4 h
    refine lv_aload_n hx hb dX7_bears_11 rfl (lv_at hl 0 rfl) ?_
    refine x_get (rest := []) X hP (gC0 c3 ad w) rfl iwX7_bears_X7 3 (by decide) lkX7_bears_27 rfl dX7_bears_12 ?_
    refine x_get (rest := []) X hP (gC23 c3 ad w) rfl iwX7_bears_X2 1 (by decide) lkX7_bears_161 rfl dX7_bears_15 ?_
    refine lv_iload_n hx hb dX7_bears_18 rfl (lv_at hl 1 rfl) ?_
    obtain ⟨g_5, h⟩ := gd_s h
    refine x_iald X hP (gC24 c3 ad w) g_5 dX7_bears_19 ?_
    refine lv_goto (tgt := 24) hx hb dX7_bears_20 (by decide) ?_
    obtain rfl := Option.some.inj h
    exact hret _ _ _ _ hP hS dX7_bears_24
def fX7_bears (x1 : Int32) (w : Mm) : Option (Int32) := fX7_bears_E x1 w
theorem ctX7_bears (l : Launch) (D : va_G) (c3 : C3) (ad : Nat → Nat) (w : Mm) (sz : Nat) (x1 : Int32) (r : Int32) (h : fX7_bears x1 w = some r) : Ci l yX7_bears wsX7_bears rmX7_bears D c3 (encC c3 ad) gC [.ref (ad 0), .int x1] w sz r w := by
  refine Ci.of (cc := cX7_bears) (maxL := 2) (encC_ok c3 ad) (by decide) rfl (Nat.le_of_ble_eq_true rfl) ?_
  intro p e s m below meth c A Q ls X hret hP hS hl
  exact bX7_bears_E X hret x1 _ _ ls hP hS hl h
def rmX2_deedOf : Room := { frames := 0, cells := 0, slots := 0, locals := 0 }
def fX2_deedOf_E (x0 : Int32) (x1 : Int32) : Option (Int32) := some ((x0 * 6) + x1)
set_option maxRecDepth 20000 in
theorem bX2_deedOf_E {p : Program} {l : Launch} {e : Env} {s : State} {m : MethodId} {args : Array Value} {below : List Frame} {meth : Method} {c : Code} {Q : State → Prop} {D : va_G} {c3 : C3} {ad : Nat → Nat} {A : Nat → Prop} {r : Int32} {w : Mm} (X : Cx p s m args c cX2_deedOf 2 RX2 wsX2_deedOf D c3 (encC c3 ad) gC A) (hret : Ri p l e (rmX2_deedOf) s m args below meth c Q cX2_deedOf D (encC c3 ad) A r w) : ∀ (x0 : Int32) (x1 : Int32) (H : Heap) (locs : List Loc) (ls : Array Slot), va_P D vwCl ((encC c3 ad) w) H → va_S A s.heap H locs → lv_has ls 2 [(0, .int x0), (1, .int x1)] → fX2_deedOf_E x0 x1 = some r → W p l e (rmX2_deedOf) s m args below meth c H locs 0 0 Q (F0 m 0 ls []) := by
  have hx := X.1
  have hb := X.2.1
  have hml := X.2.2.1
  have hown := X.2.2.2.1
  have hts := X.2.2.2.2.1
  intro x0 x1 H locs ls hP hS hl h
  unfold fX2_deedOf_E at h
  refine lv_iload_n hx hb dX2_deedOf_0 rfl (lv_at hl 0 rfl) ?_
  refine lv_bipush (v := 6) hx hb dX2_deedOf_1 (by decide) ?_
  refine lv_imul hx hb dX2_deedOf_3 ?_
  refine lv_iload_n hx hb dX2_deedOf_4 rfl (lv_at hl 1 rfl) ?_
  refine lv_iadd hx hb dX2_deedOf_5 ?_
  obtain rfl := Option.some.inj h
  exact hret _ _ _ _ hP hS dX2_deedOf_6
def fX2_deedOf (x0 : Int32) (x1 : Int32) : Option (Int32) := fX2_deedOf_E x0 x1
theorem ctX2_deedOf (l : Launch) (D : va_G) (c3 : C3) (ad : Nat → Nat) (w : Mm) (sz : Nat) (x0 : Int32) (x1 : Int32) (r : Int32) (h : fX2_deedOf x0 x1 = some r) : Ci l yX2_deedOf wsX2_deedOf rmX2_deedOf D c3 (encC c3 ad) gC [.int x0, .int x1] w sz r w := by
  refine Ci.of (cc := cX2_deedOf) (maxL := 2) (encC_ok c3 ad) (by decide) rfl (Nat.le_of_ble_eq_true rfl) ?_
  intro p e s m below meth c A Q ls X hret hP hS hl
  exact bX2_deedOf_E X hret x0 x1 _ _ ls hP hS hl h
theorem iwX2_utter_X2 : ∀ w ∈ wsX20, w ∈ wsX2_utter := fun _ h => List.mem_cons_of_mem _ (List.mem_append_right _ h)
theorem lkX2_utter_15 : Cond.fieldLink RX2 15 "StuckDoor$Family" "bearing" "[I" ∈ wsX2_utter := by decide +kernel
theorem lkX2_utter_28 : Cond.fieldLink RX2 28 "StuckDoor$Family" "topics" "[I" ∈ wsX2_utter := by decide +kernel
theorem lkX2_utter_34 : Cond.fieldLink RX2 34 "StuckDoor$Family" "strain" "I" ∈ wsX2_utter := by decide +kernel
theorem lkX2_utter_37 : Cond.fieldLink RX2 37 "StuckDoor$Family" "settled" "I" ∈ wsX2_utter := by decide +kernel
theorem lkX2_utter_40 : Cond.fieldLink RX2 40 "StuckDoor$Family" "whoIsOver" "I" ∈ wsX2_utter := by decide +kernel
theorem lkX2_utter_43 : Cond.fieldLink RX2 43 "StuckDoor$Family" "said" "[I" ∈ wsX2_utter := by decide +kernel
def rmX2_utter_23 : Room := { frames := 3, cells := 0, slots := 0, locals := 65 }
def fX2_utter_23_E (x1 : Int32) (x2 : Int32) (w : Mm) : Option (Mm) := bo (fX2_nearNow_23 x2 w) (fun r_2 => nm (sA w 23 7 ((w.1 23 7) + r_2)) (fun w_4 => gd (inb x2 6 = true) (nm (sA w_4 23 8 ((w_4.1 23 8) ||| (w_4.1 27 x2.toNatClampNeg))) (fun w_6 => nm (sA w_6 28 x2.toNatClampNeg ((w_6.1 28 x2.toNatClampNeg) + 1)) (fun w_7 => gd (inb x1 4 = true) ((if (w_7.1 23 7) ≤ (w_7.1 24 x1.toNatClampNeg) then some w_7 else nm (sA w_7 23 9 x1) (fun w_10 => some w_10))))))))
set_option maxRecDepth 20000 in
theorem bX2_utter_23_E {p : Program} {l : Launch} {e : Env} {s : State} {m : MethodId} {args : Array Value} {below : List Frame} {meth : Method} {c : Code} {Q : State → Prop} {D : va_G} {c3 : C3} {ad : Nat → Nat} {A : Nat → Prop} {w' : Mm} (X : Cx p s m args c cX2_utter 3 RX2 wsX2_utter D c3 (encC c3 ad) gC A) (hret : Rv p l e (rmX2_utter_23) s m args below meth c Q cX2_utter D (encC c3 ad) A w') : ∀ (x1 : Int32) (x2 : Int32) (w : Mm) (H : Heap) (locs : List Loc) (ls : Array Slot), va_P D vwCl ((encC c3 ad) w) H → va_S A s.heap H locs → lv_has ls 3 [(0, .ref (ad 23)), (1, .int x1), (2, .int x2)] → fX2_utter_23_E x1 x2 w = some w' → W p l e (rmX2_utter_23) s m args below meth c H locs 0 0 Q (F0 m 0 ls []) := by
  have hx := X.1
  have hb := X.2.1
  have hml := X.2.2.1
  have hown := X.2.2.2.1
  have hts := X.2.2.2.2.1
  intro x1 x2 w H locs ls hP hS hl h
  unfold fX2_utter_23_E at h
  refine lv_aload_n hx hb dX2_utter_0 rfl (lv_at hl 0 rfl) ?_
  refine lv_dup hx hb dX2_utter_1 rfl ?_
  refine x_get (rest := [.ref (ad 23)]) X hP (gC23 c3 ad w) rfl iwX2_utter_X2 7 (by decide) lkX2_utter_34 rfl dX2_utter_2 ?_
  refine lv_aload_n hx hb dX2_utter_5 rfl (lv_at hl 0 rfl) ?_
  refine lv_iload_n hx hb dX2_utter_6 rfl (lv_at hl 2 rfl) ?_
  obtain ⟨r_2, e_1, h⟩ := bo_s h
  refine x_goi X hS (x_runV (As := [.int x2]) (rest := [.int (w.1 23 7), .ref (ad 23)]) X gC_ok hP hS (ctX2_nearNow_23 l D c3 ad w _ x2 _ e_1) (cwV 1 hts gX2_utter_X2_nearNow rfl rfl rfl (by decide +kernel) ⟨by decide, by decide⟩) (gC23 c3 ad w) rfl rfl rfl hl.1 rfl (Nat.le_of_ble_eq_true rfl) dX2_utter_7) (fun H locs hP hS => ?_)
  refine lv_iadd hx hb dX2_utter_10 ?_
  refine x_put (v := .int ((w.1 23 7) + r_2)) X hP hS (gC23 c3 ad w) rfl iwX2_utter_X2 tyX2 tyX2_ok nmX2 7 (by decide) lkX2_utter_34 rfl rfl rfl (Nat.le_of_ble_eq_true rfl) (pC23_7 c3 ad w ((w.1 23 7) + r_2)) dX2_utter_11 (fun H locs hP hS => ?_)
  refine x_nmw h hP (fun w_4 h hP => ?_)
  refine lv_aload_n hx hb dX2_utter_14 rfl (lv_at hl 0 rfl) ?_
  refine lv_dup hx hb dX2_utter_15 rfl ?_
  refine x_get (rest := [.ref (ad 23)]) X hP (gC23 c3 ad w_4) rfl iwX2_utter_X2 8 (by decide) lkX2_utter_37 rfl dX2_utter_16 ?_
  refine lv_aload_n hx hb dX2_utter_19 rfl (lv_at hl 0 rfl) ?_
  refine x_get (rest := [.int (w_4.1 23 8), .ref (ad 23)]) X hP (gC23 c3 ad w_4) rfl iwX2_utter_X2 5 (by decide) lkX2_utter_28 rfl dX2_utter_20 ?_
  refine lv_iload_n hx hb dX2_utter_23 rfl (lv_at hl 2 rfl) ?_
  obtain ⟨g_5, h⟩ := gd_s h
  refine x_iald X hP (gC27 c3 ad w_4) g_5 dX2_utter_24 ?_
  refine lv_ior hx hb dX2_utter_25 ?_
  refine x_put (v := .int ((w_4.1 23 8) ||| (w_4.1 27 x2.toNatClampNeg))) X hP hS (gC23 c3 ad w_4) rfl iwX2_utter_X2 tyX2 tyX2_ok nmX2 8 (by decide) lkX2_utter_37 rfl rfl rfl (Nat.le_of_ble_eq_true rfl) (pC23_8 c3 ad w_4 ((w_4.1 23 8) ||| (w_4.1 27 x2.toNatClampNeg))) dX2_utter_26 (fun H locs hP hS => ?_)
  refine x_nmw h hP (fun w_6 h hP => ?_)
  refine lv_aload_n hx hb dX2_utter_29 rfl (lv_at hl 0 rfl) ?_
  refine x_get (rest := []) X hP (gC23 c3 ad w_6) rfl iwX2_utter_X2 10 (by decide) lkX2_utter_43 rfl dX2_utter_30 ?_
  refine lv_iload_n hx hb dX2_utter_33 rfl (lv_at hl 2 rfl) ?_
  refine lv_dup2_11 hx hb dX2_utter_34 rfl rfl ?_
  refine x_iald X hP (gC28 c3 ad w_6) g_5 dX2_utter_35 ?_
  refine lv_iconst (v := 1) hx hb dX2_utter_36 (by decide) ?_
  refine lv_iadd hx hb dX2_utter_37 ?_
  refine x_iast X hP hS (gC28 c3 ad w_6) (sC28 c3 ad w_6 _ _) g_5 dX2_utter_38 (fun H locs hP hS => ?_)
  refine x_nmw h hP (fun w_7 h hP => ?_)
  refine lv_aload_n hx hb dX2_utter_39 rfl (lv_at hl 0 rfl) ?_
  refine x_get (rest := []) X hP (gC23 c3 ad w_7) rfl iwX2_utter_X2 7 (by decide) lkX2_utter_34 rfl dX2_utter_40 ?_
  refine lv_aload_n hx hb dX2_utter_43 rfl (lv_at hl 0 rfl) ?_
  refine x_get (rest := [.int (w_7.1 23 7)]) X hP (gC23 c3 ad w_7) rfl iwX2_utter_X2 1 (by decide) lkX2_utter_15 rfl dX2_utter_44 ?_
  refine lv_iload_n hx hb dX2_utter_47 rfl (lv_at hl 1 rfl) ?_
  obtain ⟨g_8, h⟩ := gd_s h
  refine x_iald X hP (gC24 c3 ad w_7) g_8 dX2_utter_48 ?_
  refine lv_icmp_le (tgt := 57) hx hb dX2_utter_49 (by decide) (fun c_9 => ?_) (fun c_9 => ?_)
  · replace h := it_p c_9 h
    obtain rfl := Option.some.inj h
    exact hret _ _ _ _ hP hS dX2_utter_57
  · replace h := it_n c_9 h
    refine lv_aload_n hx hb dX2_utter_52 rfl (lv_at hl 0 rfl) ?_
    refine lv_iload_n hx hb dX2_utter_53 rfl (lv_at hl 1 rfl) ?_
    refine x_put (v := .int x1) X hP hS (gC23 c3 ad w_7) rfl iwX2_utter_X2 tyX2 tyX2_ok nmX2 9 (by decide) lkX2_utter_40 rfl rfl rfl (Nat.le_of_ble_eq_true rfl) (pC23_9 c3 ad w_7 x1) dX2_utter_54 (fun H locs hP hS => ?_)
    refine x_nmw h hP (fun w_10 h hP => ?_)
    obtain rfl := Option.some.inj h
    exact hret _ _ _ _ hP hS dX2_utter_57
def fX2_utter_23 (x1 : Int32) (x2 : Int32) (w : Mm) : Option (Mm) := fX2_utter_23_E x1 x2 w
theorem ctX2_utter_23 (l : Launch) (D : va_G) (c3 : C3) (ad : Nat → Nat) (w : Mm) (sz : Nat) (x1 : Int32) (x2 : Int32) (w' : Mm) (h : fX2_utter_23 x1 x2 w = some w') : Cv l yX2_utter wsX2_utter rmX2_utter_23 D c3 (encC c3 ad) gC [.ref (ad 23), .int x1, .int x2] w sz w' := by
  refine Cv.of (cc := cX2_utter) (maxL := 3) (encC_ok c3 ad) (by decide) rfl (Nat.le_of_ble_eq_true rfl) ?_
  intro p e s m below meth c A Q ls X hret hP hS hl
  exact bX2_utter_23_E X hret x1 x2 w _ _ ls hP hS hl h
theorem iwX2_ease_X2 : ∀ w ∈ wsX20, w ∈ wsX2_ease := fun _ h => List.mem_cons_of_mem _ (List.mem_append_right _ h)
theorem lkX2_ease_34 : Cond.fieldLink RX2 34 "StuckDoor$Family" "strain" "I" ∈ wsX2_ease := by decide +kernel
def rmX2_ease_23 : Room := { frames := 1, cells := 0, slots := 0, locals := 21 }
def fX2_ease_23_E (w : Mm) : Option (Mm) := nm (sA w 23 7 (if 0 < ((w.1 23 7) - 1) then ((w.1 23 7) - 1) else 0)) (fun w_1 => some w_1)
set_option maxRecDepth 20000 in
theorem bX2_ease_23_E {p : Program} {l : Launch} {e : Env} {s : State} {m : MethodId} {args : Array Value} {below : List Frame} {meth : Method} {c : Code} {Q : State → Prop} {D : va_G} {c3 : C3} {ad : Nat → Nat} {A : Nat → Prop} {w' : Mm} (X : Cx p s m args c cX2_ease 1 RX2 wsX2_ease D c3 (encC c3 ad) gC A) (hret : Rv p l e (rmX2_ease_23) s m args below meth c Q cX2_ease D (encC c3 ad) A w') : ∀ (w : Mm) (H : Heap) (locs : List Loc) (ls : Array Slot), va_P D vwCl ((encC c3 ad) w) H → va_S A s.heap H locs → lv_has ls 1 [(0, .ref (ad 23))] → fX2_ease_23_E w = some w' → W p l e (rmX2_ease_23) s m args below meth c H locs 0 0 Q (F0 m 0 ls []) := by
  have hx := X.1
  have hb := X.2.1
  have hml := X.2.2.1
  have hown := X.2.2.2.1
  have hts := X.2.2.2.2.1
  intro w H locs ls hP hS hl h
  unfold fX2_ease_23_E at h
  refine lv_aload_n hx hb dX2_ease_0 rfl (lv_at hl 0 rfl) ?_
  refine lv_iconst (v := 0) hx hb dX2_ease_1 (by decide) ?_
  refine lv_aload_n hx hb dX2_ease_2 rfl (lv_at hl 0 rfl) ?_
  refine x_get (rest := [.int 0, .ref (ad 23)]) X hP (gC23 c3 ad w) rfl iwX2_ease_X2 7 (by decide) lkX2_ease_34 rfl dX2_ease_3 ?_
  refine lv_iconst (v := 1) hx hb dX2_ease_6 (by decide) ?_
  refine lv_isub hx hb dX2_ease_7 ?_
  refine va_mmax hx hb (by rw [hml]; exact hl.1.symm) hown (hts (.methodLink RX2 80 Lib.Math.max.name) (by decide +kernel)) (hts (.static Lib.Math.max.name) (by decide +kernel)) (hts (.initialized "java/lang/Math") (by decide +kernel)) (hts (.code Lib.Math.max.name Lib.Math.max.code 2 (some .int)) (by decide +kernel)) (Nat.le_of_ble_eq_true rfl) (Nat.le_of_ble_eq_true rfl) (Nat.zero_le _) (Nat.zero_le _) dX2_ease_8 ?_
  refine x_put (v := .int (if 0 < ((w.1 23 7) - 1) then ((w.1 23 7) - 1) else 0)) X hP hS (gC23 c3 ad w) rfl iwX2_ease_X2 tyX2 tyX2_ok nmX2 7 (by decide) lkX2_ease_34 rfl rfl rfl (Nat.le_of_ble_eq_true rfl) (pC23_7 c3 ad w (if 0 < ((w.1 23 7) - 1) then ((w.1 23 7) - 1) else 0)) dX2_ease_11 (fun H locs hP hS => ?_)
  refine x_nmw h hP (fun w_1 h hP => ?_)
  obtain rfl := Option.some.inj h
  exact hret _ _ _ _ hP hS dX2_ease_14
def fX2_ease_23 (w : Mm) : Option (Mm) := fX2_ease_23_E w
theorem ctX2_ease_23 (l : Launch) (D : va_G) (c3 : C3) (ad : Nat → Nat) (w : Mm) (sz : Nat) (w' : Mm) (h : fX2_ease_23 w = some w') : Cv l yX2_ease wsX2_ease rmX2_ease_23 D c3 (encC c3 ad) gC [.ref (ad 23)] w sz w' := by
  refine Cv.of (cc := cX2_ease) (maxL := 1) (encC_ok c3 ad) (by decide) rfl (Nat.le_of_ble_eq_true rfl) ?_
  intro p e s m below meth c A Q ls X hret hP hS hl
  exact bX2_ease_23_E X hret w _ _ ls hP hS hl h
def rmX2_enact_23 : Room := { frames := 4, cells := 0, slots := 0, locals := 87 }
def fX2_enact_23_E (x1 : Int32) (w : Mm) : Option (Mm) := nm (x1 / 6) (fun x2_1 => nm (x1 - x1 / 6 * 6) (fun x3_2 => (if x1 = (-1) then bo (fX2_ease_23 w) (fun w_17 => some w_17) else bo (fX2_hasPerson_23 x2_1 w) (fun r_5 => (if r_5 = 0 then some w else bo (fX2_hasSaying_23 x3_2 w) (fun r_9 => (if r_9 = 0 then some w else bo (fX2_utter_23 x2_1 x3_2 w) (fun w_14 => some w_14))))))))
set_option maxRecDepth 20000 in
theorem bX2_enact_23_E {p : Program} {l : Launch} {e : Env} {s : State} {m : MethodId} {args : Array Value} {below : List Frame} {meth : Method} {c : Code} {Q : State → Prop} {D : va_G} {c3 : C3} {ad : Nat → Nat} {A : Nat → Prop} {w' : Mm} (X : Cx p s m args c cX2_enact 4 RX2 wsX2_enact D c3 (encC c3 ad) gC A) (hret : Rv p l e (rmX2_enact_23) s m args below meth c Q cX2_enact D (encC c3 ad) A w') : ∀ (x1 : Int32) (w : Mm) (H : Heap) (locs : List Loc) (ls : Array Slot), va_P D vwCl ((encC c3 ad) w) H → va_S A s.heap H locs → lv_has ls 4 [(0, .ref (ad 23)), (1, .int x1)] → fX2_enact_23_E x1 w = some w' → W p l e (rmX2_enact_23) s m args below meth c H locs 0 0 Q (F0 m 0 ls []) := by
  have hx := X.1
  have hb := X.2.1
  have hml := X.2.2.1
  have hown := X.2.2.2.1
  have hts := X.2.2.2.2.1
  intro x1 w H locs ls hP hS hl h
  unfold fX2_enact_23_E at h
  refine lv_iload_n hx hb dX2_enact_0 rfl (lv_at hl 1 rfl) ?_
  refine lv_bipush (v := 6) hx hb dX2_enact_1 (by decide) ?_
  refine lv_idiv hx hb dX2_enact_3 (by decide) ?_
  refine x_nmi h (fun x2_1 h => ?_)
  refine lv_istore_n (lv' := [(2, .int x2_1), (0, .ref (ad 23)), (1, .int x1)]) hx hb dX2_enact_4 rfl hl (by decide) rfl (fun ls hl => ?_)
  refine lv_iload_n hx hb dX2_enact_5 rfl (lv_at hl 2 rfl) ?_
  refine lv_bipush (v := 6) hx hb dX2_enact_6 (by decide) ?_
  refine lv_irem hx hb dX2_enact_8 (by decide) ?_
  refine x_nmi h (fun x3_2 h => ?_)
  refine lv_istore_n (lv' := [(3, .int x3_2), (2, .int x2_1), (0, .ref (ad 23)), (1, .int x1)]) hx hb dX2_enact_9 rfl hl (by decide) rfl (fun ls hl => ?_)
  refine lv_iload_n hx hb dX2_enact_10 rfl (lv_at hl 3 rfl) ?_
  refine lv_iconst (v := (-1)) hx hb dX2_enact_11 (by decide) ?_
  refine lv_icmp_ne (tgt := 22) hx hb dX2_enact_12 (by decide) (fun c_3 => ?_) (fun c_3 => ?_)
  · replace h := it_n c_3 h
    refine lv_aload_n hx hb dX2_enact_22 rfl (lv_at hl 2 rfl) ?_
    refine lv_iload_n hx hb dX2_enact_23 rfl (lv_at hl 1 rfl) ?_
    obtain ⟨r_5, e_4, h⟩ := bo_s h
    refine x_goi X hS (x_runV (As := [.int x2_1]) (rest := []) X gC_ok hP hS (ctX2_hasPerson_23 l D c3 ad w _ x2_1 _ e_4) (cwV 1 hts gX2_enact_X2_hasPerson rfl rfl rfl (by decide +kernel) ⟨by decide, by decide⟩) (gC23 c3 ad w) rfl rfl rfl hl.1 rfl (Nat.le_of_ble_eq_true rfl) dX2_enact_24) (fun H locs hP hS => ?_)
    refine lv_if_eq (tgt := 44) hx hb dX2_enact_27 (by decide) (fun c_7 => ?_) (fun c_7 => ?_)
    · replace h := it_p c_7 h
      obtain rfl := Option.some.inj h
      exact hret _ _ _ _ hP hS dX2_enact_44
    · replace h := it_n c_7 h
      refine lv_aload_n hx hb dX2_enact_30 rfl (lv_at hl 2 rfl) ?_
      refine lv_iload_n hx hb dX2_enact_31 rfl (lv_at hl 0 rfl) ?_
      obtain ⟨r_9, e_8, h⟩ := bo_s h
      refine x_goi X hS (x_runV (As := [.int x3_2]) (rest := []) X gC_ok hP hS (ctX2_hasSaying_23 l D c3 ad w _ x3_2 _ e_8) (cwV 1 hts gX2_enact_X2_hasSaying rfl rfl rfl (by decide +kernel) ⟨by decide, by decide⟩) (gC23 c3 ad w) rfl rfl rfl hl.1 rfl (Nat.le_of_ble_eq_true rfl) dX2_enact_32) (fun H locs hP hS => ?_)
      refine lv_if_eq (tgt := 44) hx hb dX2_enact_35 (by decide) (fun c_11 => ?_) (fun c_11 => ?_)
      · replace h := it_p c_11 h
        obtain rfl := Option.some.inj h
        exact hret _ _ _ _ hP hS dX2_enact_44
      · replace h := it_n c_11 h
        refine lv_aload_n hx hb dX2_enact_38 rfl (lv_at hl 2 rfl) ?_
        refine lv_iload_n hx hb dX2_enact_39 rfl (lv_at hl 1 rfl) ?_
        refine lv_iload_n hx hb dX2_enact_40 rfl (lv_at hl 0 rfl) ?_
        obtain ⟨w_14, e_12, h⟩ := bo_s h
        refine x_gov X hS (x_runV (As := [.int x2_1, .int x3_2]) (rest := []) X gC_ok hP hS (ctX2_utter_23 l D c3 ad w _ x2_1 x3_2 _ e_12) (cwV 2 hts gX2_enact_X2_utter rfl rfl rfl (by decide +kernel) ⟨by decide, by decide⟩) (gC23 c3 ad w) rfl rfl rfl hl.1 rfl (Nat.le_of_ble_eq_true rfl) dX2_enact_41) (fun H locs hP hS => ?_)
        obtain rfl := Option.some.inj h
        exact hret _ _ _ _ hP hS dX2_enact_44
  · replace h := it_p c_3 h
    refine lv_aload_n hx hb dX2_enact_15 rfl (lv_at hl 2 rfl) ?_
    obtain ⟨w_17, e_15, h⟩ := bo_s h
    refine x_gov X hS (x_runV (As := []) (rest := []) X gC_ok hP hS (ctX2_ease_23 l D c3 ad w _ _ e_15) (cwV 0 hts gX2_enact_X2_ease rfl rfl rfl (by decide +kernel) ⟨by decide, by decide⟩) (gC23 c3 ad w) rfl rfl rfl hl.1 rfl (Nat.le_of_ble_eq_true rfl) dX2_enact_16) (fun H locs hP hS => ?_)
    refine lv_goto (tgt := 44) hx hb dX2_enact_19 (by decide) ?_
    obtain rfl := Option.some.inj h
    exact hret _ _ _ _ hP hS dX2_enact_44
def fX2_enact_23 (x1 : Int32) (w : Mm) : Option (Mm) := fX2_enact_23_E x1 w
theorem ctX2_enact_23 (l : Launch) (D : va_G) (c3 : C3) (ad : Nat → Nat) (w : Mm) (sz : Nat) (x1 : Int32) (w' : Mm) (h : fX2_enact_23 x1 w = some w') : Cv l yX2_enact wsX2_enact rmX2_enact_23 D c3 (encC c3 ad) gC [.ref (ad 23), .int x1] w sz w' := by
  refine Cv.of (cc := cX2_enact) (maxL := 4) (encC_ok c3 ad) (by decide) rfl (Nat.le_of_ble_eq_true rfl) ?_
  intro p e s m below meth c A Q ls X hret hP hS hl
  exact bX2_enact_23_E X hret x1 w _ _ ls hP hS hl h
theorem iwX2_record_X2 : ∀ w ∈ wsX20, w ∈ wsX2_record := fun _ h => List.mem_cons_of_mem _ (List.mem_append_right _ h)
theorem lkX2_record_46 : Cond.fieldLink RX2 46 "StuckDoor$Family" "deeds" "I" ∈ wsX2_record := by decide +kernel
theorem lkX2_record_49 : Cond.fieldLink RX2 49 "StuckDoor$Family" "deed" "[I" ∈ wsX2_record := by decide +kernel
def rmX2_record_23 : Room := { frames := 5, cells := 0, slots := 0, locals := 110 }
def fX2_record_23_E (x1 : Int32) (w : Mm) : Option (Mm) := (if 40 ≤ (w.1 23 11) then some w else gd (inb (w.1 23 11) 40 = true) (nm (sA w 29 (w.1 23 11).toNatClampNeg x1) (fun w_3 => nm (sA w_3 23 11 ((w_3.1 23 11) + 1)) (fun w_4 => bo (fX2_enact_23 x1 w_4) (fun w_7 => some w_7)))))
set_option maxRecDepth 20000 in
theorem bX2_record_23_E {p : Program} {l : Launch} {e : Env} {s : State} {m : MethodId} {args : Array Value} {below : List Frame} {meth : Method} {c : Code} {Q : State → Prop} {D : va_G} {c3 : C3} {ad : Nat → Nat} {A : Nat → Prop} {w' : Mm} (X : Cx p s m args c cX2_record 2 RX2 wsX2_record D c3 (encC c3 ad) gC A) (hret : Rv p l e (rmX2_record_23) s m args below meth c Q cX2_record D (encC c3 ad) A w') : ∀ (x1 : Int32) (w : Mm) (H : Heap) (locs : List Loc) (ls : Array Slot), va_P D vwCl ((encC c3 ad) w) H → va_S A s.heap H locs → lv_has ls 2 [(0, .ref (ad 23)), (1, .int x1)] → fX2_record_23_E x1 w = some w' → W p l e (rmX2_record_23) s m args below meth c H locs 0 0 Q (F0 m 0 ls []) := by
  have hx := X.1
  have hb := X.2.1
  have hml := X.2.2.1
  have hown := X.2.2.2.1
  have hts := X.2.2.2.2.1
  intro x1 w H locs ls hP hS hl h
  unfold fX2_record_23_E at h
  refine lv_aload_n hx hb dX2_record_0 rfl (lv_at hl 0 rfl) ?_
  refine x_get (rest := []) X hP (gC23 c3 ad w) rfl iwX2_record_X2 11 (by decide) lkX2_record_46 rfl dX2_record_1 ?_
  refine lv_bipush (v := 40) hx hb dX2_record_4 (by decide) ?_
  refine lv_icmp_ge (tgt := 34) hx hb dX2_record_6 (by decide) (fun c_1 => ?_) (fun c_1 => ?_)
  · replace h := it_p c_1 h
    obtain rfl := Option.some.inj h
    exact hret _ _ _ _ hP hS dX2_record_34
  · replace h := it_n c_1 h
    refine lv_aload_n hx hb dX2_record_9 rfl (lv_at hl 0 rfl) ?_
    refine x_get (rest := []) X hP (gC23 c3 ad w) rfl iwX2_record_X2 12 (by decide) lkX2_record_49 rfl dX2_record_10 ?_
    refine lv_aload_n hx hb dX2_record_13 rfl (lv_at hl 0 rfl) ?_
    refine x_get (rest := [.ref (ad 29)]) X hP (gC23 c3 ad w) rfl iwX2_record_X2 11 (by decide) lkX2_record_46 rfl dX2_record_14 ?_
    refine lv_iload_n hx hb dX2_record_17 rfl (lv_at hl 1 rfl) ?_
    obtain ⟨g_2, h⟩ := gd_s h
    refine x_iast X hP hS (gC29 c3 ad w) (sC29 c3 ad w _ _) g_2 dX2_record_18 (fun H locs hP hS => ?_)
    refine x_nmw h hP (fun w_3 h hP => ?_)
    refine lv_aload_n hx hb dX2_record_19 rfl (lv_at hl 0 rfl) ?_
    refine lv_dup hx hb dX2_record_20 rfl ?_
    refine x_get (rest := [.ref (ad 23)]) X hP (gC23 c3 ad w_3) rfl iwX2_record_X2 11 (by decide) lkX2_record_46 rfl dX2_record_21 ?_
    refine lv_iconst (v := 1) hx hb dX2_record_24 (by decide) ?_
    refine lv_iadd hx hb dX2_record_25 ?_
    refine x_put (v := .int ((w_3.1 23 11) + 1)) X hP hS (gC23 c3 ad w_3) rfl iwX2_record_X2 tyX2 tyX2_ok nmX2 11 (by decide) lkX2_record_46 rfl rfl rfl (Nat.le_of_ble_eq_true rfl) (pC23_11 c3 ad w_3 ((w_3.1 23 11) + 1)) dX2_record_26 (fun H locs hP hS => ?_)
    refine x_nmw h hP (fun w_4 h hP => ?_)
    refine lv_aload_n hx hb dX2_record_29 rfl (lv_at hl 0 rfl) ?_
    refine lv_iload_n hx hb dX2_record_30 rfl (lv_at hl 1 rfl) ?_
    obtain ⟨w_7, e_5, h⟩ := bo_s h
    refine x_gov X hS (x_runV (As := [.int x1]) (rest := []) X gC_ok hP hS (ctX2_enact_23 l D c3 ad w_4 _ x1 _ e_5) (cwV 1 hts gX2_record_X2_enact rfl rfl rfl (by decide +kernel) ⟨by decide, by decide⟩) (gC23 c3 ad w_4) rfl rfl rfl hl.1 rfl (Nat.le_of_ble_eq_true rfl) dX2_record_31) (fun H locs hP hS => ?_)
    obtain rfl := Option.some.inj h
    exact hret _ _ _ _ hP hS dX2_record_34
def fX2_record_23 (x1 : Int32) (w : Mm) : Option (Mm) := fX2_record_23_E x1 w
theorem ctX2_record_23 (l : Launch) (D : va_G) (c3 : C3) (ad : Nat → Nat) (w : Mm) (sz : Nat) (x1 : Int32) (w' : Mm) (h : fX2_record_23 x1 w = some w') : Cv l yX2_record wsX2_record rmX2_record_23 D c3 (encC c3 ad) gC [.ref (ad 23), .int x1] w sz w' := by
  refine Cv.of (cc := cX2_record) (maxL := 2) (encC_ok c3 ad) (by decide) rfl (Nat.le_of_ble_eq_true rfl) ?_
  intro p e s m below meth c A Q ls X hret hP hS hl
  exact bX2_record_23_E X hret x1 w _ _ ls hP hS hl h
theorem iwX7_say_X2 : ∀ w ∈ wsX20, w ∈ wsX7_say := fun _ h => List.mem_cons_of_mem _ (List.mem_append_right _ h)
theorem iwX7_say_X7 : ∀ w ∈ wsX70, w ∈ wsX7_say := fun _ h => List.mem_cons_of_mem _ (List.mem_append_left _ (List.mem_append_right _ h))
theorem lkX7_say_27 : Cond.fieldLink RX7 27 "StuckDoor" "family" "LStuckDoor$Family;" ∈ wsX7_say := by decide +kernel
theorem lkX7_say_168 : Cond.fieldLink RX7 168 "StuckDoor$Family" "deeds" "I" ∈ wsX7_say := by decide +kernel
theorem lkX7_say_178 : Cond.fieldLink RX7 178 "StuckDoor$Family" "strain" "I" ∈ wsX7_say := by decide +kernel
def rmX7_say : Room := { frames := 6, cells := 0, slots := 0, locals := 131 }
def fX7_say_E (x1 : Int32) (x2 : Int32) (w : Mm) : Option (Int32 × Mm) := bo (fX2_hasPerson_23 x1 w) (fun r_2 => (if r_2 = 0 then some ((-1), w) else bo (fX2_hasSaying_23 x2 w) (fun r_6 => (if r_6 = 0 then some ((-1), w) else bo (fX2_isAnyOver_23 w) (fun r_10 => (if r_10 = 0 then (if (w.1 23 11) < 40 then bo (fX2_deedOf x1 x2) (fun r_15 => bo (fX2_record_23 r_15 w) (fun w_19 => some ((w_19.1 23 7), w_19))) else some ((-2), w)) else some ((-4), w)))))))
set_option maxRecDepth 20000 in
theorem bX7_say_E {p : Program} {l : Launch} {e : Env} {s : State} {m : MethodId} {args : Array Value} {below : List Frame} {meth : Method} {c : Code} {Q : State → Prop} {D : va_G} {c3 : C3} {ad : Nat → Nat} {A : Nat → Prop} {r : Int32} {w' : Mm} (X : Cx p s m args c cX7_say 3 RX7 wsX7_say D c3 (encC c3 ad) gC A) (hret : Ri p l e (rmX7_say) s m args below meth c Q cX7_say D (encC c3 ad) A r w') : ∀ (x1 : Int32) (x2 : Int32) (w : Mm) (H : Heap) (locs : List Loc) (ls : Array Slot), va_P D vwCl ((encC c3 ad) w) H → va_S A s.heap H locs → lv_has ls 3 [(0, .ref (ad 0)), (1, .int x1), (2, .int x2)] → fX7_say_E x1 x2 w = some (r, w') → W p l e (rmX7_say) s m args below meth c H locs 0 0 Q (F0 m 0 ls []) := by
  have hx := X.1
  have hb := X.2.1
  have hml := X.2.2.1
  have hown := X.2.2.2.1
  have hts := X.2.2.2.2.1
  intro x1 x2 w H locs ls hP hS hl h
  unfold fX7_say_E at h
  refine lv_aload_n hx hb dX7_say_0 rfl (lv_at hl 0 rfl) ?_
  refine x_get (rest := []) X hP (gC0 c3 ad w) rfl iwX7_say_X7 3 (by decide) lkX7_say_27 rfl dX7_say_1 ?_
  refine lv_iload_n hx hb dX7_say_4 rfl (lv_at hl 1 rfl) ?_
  obtain ⟨r_2, e_1, h⟩ := bo_s h
  refine x_goi X hS (x_runV (As := [.int x1]) (rest := []) X gC_ok hP hS (ctX2_hasPerson_23 l D c3 ad w _ x1 _ e_1) (cwV 1 hts gX7_say_X2_hasPerson rfl rfl rfl (by decide +kernel) ⟨by decide, by decide⟩) (gC23 c3 ad w) rfl rfl rfl hl.1 rfl (Nat.le_of_ble_eq_true rfl) dX7_say_5) (fun H locs hP hS => ?_)
  refine lv_if_eq (tgt := 22) hx hb dX7_say_8 (by decide) (fun c_4 => ?_) (fun c_4 => ?_)
  · replace h := it_p c_4 h
    refine lv_iconst (v := (-1)) hx hb dX7_say_22 (by decide) ?_
    obtain ⟨rfl, rfl⟩ := Prod.mk.inj (Option.some.inj h)
    exact hret _ _ _ _ hP hS dX7_say_23
  · replace h := it_n c_4 h
    refine lv_aload_n hx hb dX7_say_11 rfl (lv_at hl 0 rfl) ?_
    refine x_get (rest := []) X hP (gC0 c3 ad w) rfl iwX7_say_X7 3 (by decide) lkX7_say_27 rfl dX7_say_12 ?_
    refine lv_iload_n hx hb dX7_say_15 rfl (lv_at hl 2 rfl) ?_
    obtain ⟨r_6, e_5, h⟩ := bo_s h
    refine x_goi X hS (x_runV (As := [.int x2]) (rest := []) X gC_ok hP hS (ctX2_hasSaying_23 l D c3 ad w _ x2 _ e_5) (cwV 1 hts gX7_say_X2_hasSaying rfl rfl rfl (by decide +kernel) ⟨by decide, by decide⟩) (gC23 c3 ad w) rfl rfl rfl hl.1 rfl (Nat.le_of_ble_eq_true rfl) dX7_say_16) (fun H locs hP hS => ?_)
    refine lv_if_ne (tgt := 24) hx hb dX7_say_19 (by decide) (fun c_8 => ?_) (fun c_8 => ?_)
    · replace h := it_n c_8 h
      refine lv_aload_n hx hb dX7_say_24 rfl (lv_at hl 0 rfl) ?_
      refine x_get (rest := []) X hP (gC0 c3 ad w) rfl iwX7_say_X7 3 (by decide) lkX7_say_27 rfl dX7_say_25 ?_
      obtain ⟨r_10, e_9, h⟩ := bo_s h
      refine x_goi X hS (x_runV (As := []) (rest := []) X gC_ok hP hS (ctX2_isAnyOver_23 l D c3 ad w _ _ e_9) (cwV 0 hts gX7_say_X2_isAnyOver rfl rfl rfl (by decide +kernel) ⟨by decide, by decide⟩) (gC23 c3 ad w) rfl rfl rfl hl.1 rfl (Nat.le_of_ble_eq_true rfl) dX7_say_28) (fun H locs hP hS => ?_)
      refine lv_if_eq (tgt := 37) hx hb dX7_say_31 (by decide) (fun c_12 => ?_) (fun c_12 => ?_)
      · replace h := it_p c_12 h
        refine lv_aload_n hx hb dX7_say_37 rfl (lv_at hl 0 rfl) ?_
        refine x_get (rest := []) X hP (gC0 c3 ad w) rfl iwX7_say_X7 3 (by decide) lkX7_say_27 rfl dX7_say_38 ?_
        refine x_get (rest := []) X hP (gC23 c3 ad w) rfl iwX7_say_X2 11 (by decide) lkX7_say_168 rfl dX7_say_41 ?_
        refine lv_bipush (v := 40) hx hb dX7_say_44 (by decide) ?_
        refine lv_icmp_lt (tgt := 52) hx hb dX7_say_46 (by decide) (fun c_13 => ?_) (fun c_13 => ?_)
        · replace h := it_p c_13 h
          refine lv_aload_n hx hb dX7_say_52 rfl (lv_at hl 0 rfl) ?_
          refine x_get (rest := []) X hP (gC0 c3 ad w) rfl iwX7_say_X7 3 (by decide) lkX7_say_27 rfl dX7_say_53 ?_
          refine lv_iload_n hx hb dX7_say_56 rfl (lv_at hl 1 rfl) ?_
          refine lv_iload_n hx hb dX7_say_57 rfl (lv_at hl 2 rfl) ?_
          obtain ⟨r_15, e_14, h⟩ := bo_s h
          refine x_goi X hS (x_runS (As := [.int x1, .int x2]) (rest := [.ref (ad 23)]) X gC_ok hP hS (ctX2_deedOf l D c3 ad w _ x1 x2 _ e_14) (va_cwS 2 hts gX7_say_X2_deedOf rfl rfl rfl (by decide +kernel) ⟨by decide, by decide⟩) rfl hl.1 rfl (Nat.le_of_ble_eq_true rfl) dX7_say_58) (fun H locs hP hS => ?_)
          obtain ⟨w_19, e_17, h⟩ := bo_s h
          refine x_gov X hS (x_runV (As := [.int r_15]) (rest := []) X gC_ok hP hS (ctX2_record_23 l D c3 ad w _ r_15 _ e_17) (cwV 1 hts gX7_say_X2_record rfl rfl rfl (by decide +kernel) ⟨by decide, by decide⟩) (gC23 c3 ad w) rfl rfl rfl hl.1 rfl (Nat.le_of_ble_eq_true rfl) dX7_say_61) (fun H locs hP hS => ?_)
          refine lv_aload_n hx hb dX7_say_64 rfl (lv_at hl 0 rfl) ?_
          refine x_get (rest := []) X hP (gC0 c3 ad w_19) rfl iwX7_say_X7 3 (by decide) lkX7_say_27 rfl dX7_say_65 ?_
          refine x_get (rest := []) X hP (gC23 c3 ad w_19) rfl iwX7_say_X2 7 (by decide) lkX7_say_178 rfl dX7_say_68 ?_
          obtain ⟨rfl, rfl⟩ := Prod.mk.inj (Option.some.inj h)
          exact hret _ _ _ _ hP hS dX7_say_71
        · replace h := it_n c_13 h
          refine lv_bipush (v := (-2)) hx hb dX7_say_49 (by decide) ?_
          obtain ⟨rfl, rfl⟩ := Prod.mk.inj (Option.some.inj h)
          exact hret _ _ _ _ hP hS dX7_say_51
      · replace h := it_n c_12 h
        refine lv_bipush (v := (-4)) hx hb dX7_say_34 (by decide) ?_
        obtain ⟨rfl, rfl⟩ := Prod.mk.inj (Option.some.inj h)
        exact hret _ _ _ _ hP hS dX7_say_36
    · replace h := it_p c_8 h
      refine lv_iconst (v := (-1)) hx hb dX7_say_22 (by decide) ?_
      obtain ⟨rfl, rfl⟩ := Prod.mk.inj (Option.some.inj h)
      exact hret _ _ _ _ hP hS dX7_say_23
def fX7_say (x1 : Int32) (x2 : Int32) (w : Mm) : Option (Int32 × Mm) := fX7_say_E x1 x2 w
theorem ctX7_say (l : Launch) (D : va_G) (c3 : C3) (ad : Nat → Nat) (w : Mm) (sz : Nat) (x1 : Int32) (x2 : Int32) (r : Int32) (w' : Mm) (h : fX7_say x1 x2 w = some (r, w')) : Ci l yX7_say wsX7_say rmX7_say D c3 (encC c3 ad) gC [.ref (ad 0), .int x1, .int x2] w sz r w' := by
  refine Ci.of (cc := cX7_say) (maxL := 3) (encC_ok c3 ad) (by decide) rfl (Nat.le_of_ble_eq_true rfl) ?_
  intro p e s m below meth c A Q ls X hret hP hS hl
  exact bX7_say_E X hret x1 x2 w _ _ ls hP hS hl h
theorem iwX2_isEmpty_X2 : ∀ w ∈ wsX20, w ∈ wsX2_isEmpty := fun _ h => List.mem_cons_of_mem _ (List.mem_append_right _ h)
theorem lkX2_isEmpty_9 : Cond.fieldLink RX2 9 "StuckDoor$Family" "people" "I" ∈ wsX2_isEmpty := by decide +kernel
theorem lkX2_isEmpty_19 : Cond.fieldLink RX2 19 "StuckDoor$Family" "sayings" "I" ∈ wsX2_isEmpty := by decide +kernel
def rmX2_isEmpty_23 : Room := { frames := 0, cells := 0, slots := 0, locals := 0 }
def fX2_isEmpty_23_14 (w : Mm) : Option (Int32) := some 1
set_option maxRecDepth 20000 in
theorem bX2_isEmpty_23_14 {p : Program} {l : Launch} {e : Env} {s : State} {m : MethodId} {args : Array Value} {below : List Frame} {meth : Method} {c : Code} {Q : State → Prop} {D : va_G} {c3 : C3} {ad : Nat → Nat} {A : Nat → Prop} {r : Int32} {w : Mm} (X : Cx p s m args c cX2_isEmpty 1 RX2 wsX2_isEmpty D c3 (encC c3 ad) gC A) (hret : Rz p l e (rmX2_isEmpty_23) s m args below meth c Q cX2_isEmpty D (encC c3 ad) A r w) : ∀ (H : Heap) (locs : List Loc) (ls : Array Slot), va_P D vwCl ((encC c3 ad) w) H → va_S A s.heap H locs → lv_has ls 1 [] → fX2_isEmpty_23_14 w = some r → W p l e (rmX2_isEmpty_23) s m args below meth c H locs 0 0 Q (F0 m 14 ls []) := by
  have hx := X.1
  have hb := X.2.1
  have hml := X.2.2.1
  have hown := X.2.2.2.1
  have hts := X.2.2.2.2.1
  intro H locs ls hP hS hl h
  unfold fX2_isEmpty_23_14 at h
  refine lv_iconst (v := 1) hx hb dX2_isEmpty_14 (by decide) ?_
  refine lv_goto (tgt := 19) hx hb dX2_isEmpty_15 (by decide) ?_
  obtain rfl := Option.some.inj h
  exact hret (Or.inr rfl) _ _ _ _ hP hS dX2_isEmpty_19
def fX2_isEmpty_23_E (w : Mm) : Option (Int32) := (if (w.1 23 2) = 0 then fX2_isEmpty_23_14 w else (if (w.1 23 0) = 0 then fX2_isEmpty_23_14 w else some 0))
set_option maxRecDepth 20000 in
theorem bX2_isEmpty_23_E {p : Program} {l : Launch} {e : Env} {s : State} {m : MethodId} {args : Array Value} {below : List Frame} {meth : Method} {c : Code} {Q : State → Prop} {D : va_G} {c3 : C3} {ad : Nat → Nat} {A : Nat → Prop} {r : Int32} {w : Mm} (X : Cx p s m args c cX2_isEmpty 1 RX2 wsX2_isEmpty D c3 (encC c3 ad) gC A) (hret : Rz p l e (rmX2_isEmpty_23) s m args below meth c Q cX2_isEmpty D (encC c3 ad) A r w) : ∀ (H : Heap) (locs : List Loc) (ls : Array Slot), va_P D vwCl ((encC c3 ad) w) H → va_S A s.heap H locs → lv_has ls 1 [(0, .ref (ad 23))] → fX2_isEmpty_23_E w = some r → W p l e (rmX2_isEmpty_23) s m args below meth c H locs 0 0 Q (F0 m 0 ls []) := by
  have hx := X.1
  have hb := X.2.1
  have hml := X.2.2.1
  have hown := X.2.2.2.1
  have hts := X.2.2.2.2.1
  intro H locs ls hP hS hl h
  unfold fX2_isEmpty_23_E at h
  refine lv_aload_n hx hb dX2_isEmpty_0 rfl (lv_at hl 0 rfl) ?_
  refine x_get (rest := []) X hP (gC23 c3 ad w) rfl iwX2_isEmpty_X2 2 (by decide) lkX2_isEmpty_19 rfl dX2_isEmpty_1 ?_
  refine lv_if_eq (tgt := 14) hx hb dX2_isEmpty_4 (by decide) (fun c_1 => ?_) (fun c_1 => ?_)
  · replace h := it_p c_1 h
    exact bX2_isEmpty_23_14 X hret _ _ _ hP hS (lv_sub hl [] rfl) h
  · replace h := it_n c_1 h
    refine lv_aload_n hx hb dX2_isEmpty_7 rfl (lv_at hl 0 rfl) ?_
    refine x_get (rest := []) X hP (gC23 c3 ad w) rfl iwX2_isEmpty_X2 0 (by decide) lkX2_isEmpty_9 rfl dX2_isEmpty_8 ?_
    refine lv_if_ne (tgt := 18) hx hb dX2_isEmpty_11 (by decide) (fun c_2 => ?_) (fun c_2 => ?_)
    · replace h := it_n c_2 h
      refine lv_iconst (v := 0) hx hb dX2_isEmpty_18 (by decide) ?_
      obtain rfl := Option.some.inj h
      exact hret (Or.inl rfl) _ _ _ _ hP hS dX2_isEmpty_19
    · replace h := it_p c_2 h
      exact bX2_isEmpty_23_14 X hret _ _ _ hP hS (lv_sub hl [] rfl) h
def fX2_isEmpty_23 (w : Mm) : Option (Int32) := fX2_isEmpty_23_E w
theorem ctX2_isEmpty_23 (l : Launch) (D : va_G) (c3 : C3) (ad : Nat → Nat) (w : Mm) (sz : Nat) (r : Int32) (h : fX2_isEmpty_23 w = some r) : Ci l yX2_isEmpty wsX2_isEmpty rmX2_isEmpty_23 D c3 (encC c3 ad) gC [.ref (ad 23)] w sz r w := by
  refine Ci.ofz (cc := cX2_isEmpty) (maxL := 1) (encC_ok c3 ad) (by decide) rfl (Nat.le_of_ble_eq_true rfl) ?_
  intro p e s m below meth c A Q ls X hret hP hS hl
  exact bX2_isEmpty_23_E X hret _ _ ls hP hS hl h

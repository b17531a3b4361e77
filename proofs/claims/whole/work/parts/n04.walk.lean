def rmX2_hasPerson_23 : Room := { frames := 0, cells := 0, slots := 0, locals := 0 }
def fX2_hasPerson_23_E (x1 : Int32) (w : Mm) : Option (Int32) := (if x1 < 0 then some 0 else (if (w.1 23 0) ≤ x1 then some 0 else some 1))
set_option maxRecDepth 20000 in
theorem bX2_hasPerson_23_E {p : Program} {l : Launch} {e : Env} {s : State} {m : MethodId} {args : Array Value} {below : List Frame} {meth : Method} {c : Code} {Q : State → Prop} {D : va_G} {c3 : C3} {ad : Nat → Nat} {A : Nat → Prop} {r : Int32} {w : Mm} (X : Cx p s m args c cX2_hasPerson 2 RX2 wsX2_hasPerson D c3 (encC c3 ad) gC A) (hret : Rz p l e (rmX2_hasPerson_23) s m args below meth c Q cX2_hasPerson D (encC c3 ad) A r w) : ∀ (x1 : Int32) (H : Heap) (locs : List Loc) (ls : Array Slot), va_P D vwCl ((encC c3 ad) w) H → va_S A s.heap H locs → lv_has ls 2 [(0, .ref (ad 23)), (1, .int x1)] → fX2_hasPerson_23_E x1 w = some r → W p l e (rmX2_hasPerson_23) s m args below meth c H locs 0 0 Q (F0 m 0 ls []) := by
  have hx := X.1
  have hb := X.2.1
  have hml := X.2.2.1
  have hown := X.2.2.2.1
  have hts := X.2.2.2.2.1
  intro x1 H locs ls hP hS hl h
  unfold fX2_hasPerson_23_E at h
  refine lv_iload_n hx hb dX2_hasPerson_0 rfl (lv_at hl 1 rfl) ?_
  refine lv_if_lt (tgt := 16) hx hb dX2_hasPerson_1 (by decide) (fun c_1 => ?_) (fun c_1 => ?_)
  · replace h := it_p c_1 h
    refine lv_iconst (v := 0) hx hb dX2_hasPerson_16 (by decide) ?_
    obtain rfl := Option.some.inj h
    exact hret (Or.inl rfl) _ _ _ _ hP hS dX2_hasPerson_17
  · replace h := it_n c_1 h
    refine lv_iload_n hx hb dX2_hasPerson_4 rfl (lv_at hl 1 rfl) ?_
    refine lv_aload_n hx hb dX2_hasPerson_5 rfl (lv_at hl 0 rfl) ?_
    refine x_get (rest := [.int x1]) X hP (gC23 c3 ad w) rfl iwX2_hasPerson_X2 0 (by decide) lkX2_hasPerson_9 rfl dX2_hasPerson_6 ?_
    refine lv_icmp_ge (tgt := 16) hx hb dX2_hasPerson_9 (by decide) (fun c_2 => ?_) (fun c_2 => ?_)
    · replace h := it_p c_2 h
      refine lv_iconst (v := 0) hx hb dX2_hasPerson_16 (by decide) ?_
      obtain rfl := Option.some.inj h
      exact hret (Or.inl rfl) _ _ _ _ hP hS dX2_hasPerson_17
    · replace h := it_n c_2 h
      refine lv_iconst (v := 1) hx hb dX2_hasPerson_12 (by decide) ?_
      refine lv_goto (tgt := 17) hx hb dX2_hasPerson_13 (by decide) ?_
      obtain rfl := Option.some.inj h
      exact hret (Or.inr rfl) _ _ _ _ hP hS dX2_hasPerson_17
def fX2_hasPerson_23 (x1 : Int32) (w : Mm) : Option (Int32) := fX2_hasPerson_23_E x1 w
theorem ctX2_hasPerson_23 (l : Launch) (D : va_G) (c3 : C3) (ad : Nat → Nat) (w : Mm) (sz : Nat) (x1 : Int32) (r : Int32) (h : fX2_hasPerson_23 x1 w = some r) : Ci l yX2_hasPerson wsX2_hasPerson rmX2_hasPerson_23 D c3 (encC c3 ad) gC [.ref (ad 23), .int x1] w sz r w := by
  refine Ci.ofz (cc := cX2_hasPerson) (maxL := 2) (encC_ok c3 ad) (by decide) rfl (Nat.le_of_ble_eq_true rfl) ?_
  intro p e s m below meth c A Q ls X hret hP hS hl
  exact bX2_hasPerson_23_E X hret x1 _ _ ls hP hS hl h
def rmX2_hasSaying_23 : Room := { frames := 0, cells := 0, slots := 0, locals := 0 }
def fX2_hasSaying_23_E (x1 : Int32) (w : Mm) : Option (Int32) := (if x1 < 0 then some 0 else (if (w.1 23 2) ≤ x1 then some 0 else some 1))
set_option maxRecDepth 20000 in
theorem bX2_hasSaying_23_E {p : Program} {l : Launch} {e : Env} {s : State} {m : MethodId} {args : Array Value} {below : List Frame} {meth : Method} {c : Code} {Q : State → Prop} {D : va_G} {c3 : C3} {ad : Nat → Nat} {A : Nat → Prop} {r : Int32} {w : Mm} (X : Cx p s m args c cX2_hasSaying 2 RX2 wsX2_hasSaying D c3 (encC c3 ad) gC A) (hret : Rz p l e (rmX2_hasSaying_23) s m args below meth c Q cX2_hasSaying D (encC c3 ad) A r w) : ∀ (x1 : Int32) (H : Heap) (locs : List Loc) (ls : Array Slot), va_P D vwCl ((encC c3 ad) w) H → va_S A s.heap H locs → lv_has ls 2 [(0, .ref (ad 23)), (1, .int x1)] → fX2_hasSaying_23_E x1 w = some r → W p l e (rmX2_hasSaying_23) s m args below meth c H locs 0 0 Q (F0 m 0 ls []) := by
  have hx := X.1
  have hb := X.2.1
  have hml := X.2.2.1
  have hown := X.2.2.2.1
  have hts := X.2.2.2.2.1
  intro x1 H locs ls hP hS hl h
  unfold fX2_hasSaying_23_E at h
  refine lv_iload_n hx hb dX2_hasSaying_0 rfl (lv_at hl 1 rfl) ?_
  refine lv_if_lt (tgt := 16) hx hb dX2_hasSaying_1 (by decide) (fun c_1 => ?_) (fun c_1 => ?_)
  · replace h := it_p c_1 h
    refine lv_iconst (v := 0) hx hb dX2_hasSaying_16 (by decide) ?_
    obtain rfl := Option.some.inj h
    exact hret (Or.inl rfl) _ _ _ _ hP hS dX2_hasSaying_17
  · replace h := it_n c_1 h
    refine lv_iload_n hx hb dX2_hasSaying_4 rfl (lv_at hl 1 rfl) ?_
    refine lv_aload_n hx hb dX2_hasSaying_5 rfl (lv_at hl 0 rfl) ?_
    refine x_get (rest := [.int x1]) X hP (gC23 c3 ad w) rfl iwX2_hasSaying_X2 2 (by decide) lkX2_hasSaying_19 rfl dX2_hasSaying_6 ?_
    refine lv_icmp_ge (tgt := 16) hx hb dX2_hasSaying_9 (by decide) (fun c_2 => ?_) (fun c_2 => ?_)
    · replace h := it_p c_2 h
      refine lv_iconst (v := 0) hx hb dX2_hasSaying_16 (by decide) ?_
      obtain rfl := Option.some.inj h
      exact hret (Or.inl rfl) _ _ _ _ hP hS dX2_hasSaying_17
    · replace h := it_n c_2 h
      refine lv_iconst (v := 1) hx hb dX2_hasSaying_12 (by decide) ?_
      refine lv_goto (tgt := 17) hx hb dX2_hasSaying_13 (by decide) ?_
      obtain rfl := Option.some.inj h
      exact hret (Or.inr rfl) _ _ _ _ hP hS dX2_hasSaying_17
def fX2_hasSaying_23 (x1 : Int32) (w : Mm) : Option (Int32) := fX2_hasSaying_23_E x1 w
theorem ctX2_hasSaying_23 (l : Launch) (D : va_G) (c3 : C3) (ad : Nat → Nat) (w : Mm) (sz : Nat) (x1 : Int32) (r : Int32) (h : fX2_hasSaying_23 x1 w = some r) : Ci l yX2_hasSaying wsX2_hasSaying rmX2_hasSaying_23 D c3 (encC c3 ad) gC [.ref (ad 23), .int x1] w sz r w := by
  refine Ci.ofz (cc := cX2_hasSaying) (maxL := 2) (encC_ok c3 ad) (by decide) rfl (Nat.le_of_ble_eq_true rfl) ?_
  intro p e s m below meth c A Q ls X hret hP hS hl
  exact bX2_hasSaying_23_E X hret x1 _ _ ls hP hS hl h
def rmX2_openTopics_23 : Room := { frames := 1, cells := 0, slots := 0, locals := 20 }
def fX2_openTopics_23_E (w : Mm) : Option (Int32) := bo (fJ6_bitCount_0f7a4 (w.1 23 8)) (fun r_2 => some (3 - r_2))
set_option maxRecDepth 20000 in
theorem bX2_openTopics_23_E {p : Program} {l : Launch} {e : Env} {s : State} {m : MethodId} {args : Array Value} {below : List Frame} {meth : Method} {c : Code} {Q : State → Prop} {D : va_G} {c3 : C3} {ad : Nat → Nat} {A : Nat → Prop} {r : Int32} {w : Mm} (X : Cx p s m args c cX2_openTopics 1 RX2 wsX2_openTopics D c3 (encC c3 ad) gC A) (hret : Ri p l e (rmX2_openTopics_23) s m args below meth c Q cX2_openTopics D (encC c3 ad) A r w) : ∀ (H : Heap) (locs : List Loc) (ls : Array Slot), va_P D vwCl ((encC c3 ad) w) H → va_S A s.heap H locs → lv_has ls 1 [(0, .ref (ad 23))] → fX2_openTopics_23_E w = some r → W p l e (rmX2_openTopics_23) s m args below meth c H locs 0 0 Q (F0 m 0 ls []) := by
  have hx := X.1
  have hb := X.2.1
  have hml := X.2.2.1
  have hown := X.2.2.2.1
  have hts := X.2.2.2.2.1
  intro H locs ls hP hS hl h
  unfold fX2_openTopics_23_E at h
  refine lv_iconst (v := 3) hx hb dX2_openTopics_0 (by decide) ?_
  refine lv_aload_n hx hb dX2_openTopics_1 rfl (lv_at hl 0 rfl) ?_
  refine x_get (rest := [.int 3]) X hP (gC23 c3 ad w) rfl iwX2_openTopics_X2 8 (by decide) lkX2_openTopics_37 rfl dX2_openTopics_2 ?_
  obtain ⟨r_2, e_1, h⟩ := bo_s h
  refine x_goi X hS (x_runS (As := [.int (w.1 23 8)]) (rest := [.int 3]) X gC_ok hP hS (ctJ6_bitCount_0f7a4 l D c3 ad w _ (w.1 23 8) _ e_1) (va_cwS 1 hts gX2_openTopics_J6_bitCount_0f7a4 rfl rfl rfl (by decide +kernel) ⟨by decide, by decide⟩) rfl hl.1 rfl (Nat.le_of_ble_eq_true rfl) dX2_openTopics_5) (fun H locs hP hS => ?_)
  refine lv_isub hx hb dX2_openTopics_8 ?_
  obtain rfl := Option.some.inj h
  exact hret _ _ _ _ hP hS dX2_openTopics_9
def fX2_openTopics_23 (w : Mm) : Option (Int32) := fX2_openTopics_23_E w
theorem ctX2_openTopics_23 (l : Launch) (D : va_G) (c3 : C3) (ad : Nat → Nat) (w : Mm) (sz : Nat) (r : Int32) (h : fX2_openTopics_23 w = some r) : Ci l yX2_openTopics wsX2_openTopics rmX2_openTopics_23 D c3 (encC c3 ad) gC [.ref (ad 23)] w sz r w := by
  refine Ci.of (cc := cX2_openTopics) (maxL := 1) (encC_ok c3 ad) (by decide) rfl (Nat.le_of_ble_eq_true rfl) ?_
  intro p e s m below meth c A Q ls X hret hP hS hl
  exact bX2_openTopics_23_E X hret _ _ ls hP hS hl h
def rmX2_nearNow_23 : Room := { frames := 2, cells := 0, slots := 0, locals := 44 }
def fX2_nearNow_23_E (x1 : Int32) (w : Mm) : Option (Int32) := gd (inb x1 6 = true) (bo (fX2_openTopics_23 w) (fun r_3 => bo (fX2_nearOf (w.1 25 x1.toNatClampNeg) (w.1 26 x1.toNatClampNeg) (w.1 28 x1.toNatClampNeg) r_3) (fun r_6 => some r_6)))
set_option maxRecDepth 20000 in
theorem bX2_nearNow_23_E {p : Program} {l : Launch} {e : Env} {s : State} {m : MethodId} {args : Array Value} {below : List Frame} {meth : Method} {c : Code} {Q : State → Prop} {D : va_G} {c3 : C3} {ad : Nat → Nat} {A : Nat → Prop} {r : Int32} {w : Mm} (X : Cx p s m args c cX2_nearNow 2 RX2 wsX2_nearNow D c3 (encC c3 ad) gC A) (hret : Ri p l e (rmX2_nearNow_23) s m args below meth c Q cX2_nearNow D (encC c3 ad) A r w) : ∀ (x1 : Int32) (H : Heap) (locs : List Loc) (ls : Array Slot), va_P D vwCl ((encC c3 ad) w) H → va_S A s.heap H locs → lv_has ls 2 [(0, .ref (ad 23)), (1, .int x1)] → fX2_nearNow_23_E x1 w = some r → W p l e (rmX2_nearNow_23) s m args below meth c H locs 0 0 Q (F0 m 0 ls []) := by
  have hx := X.1
  have hb := X.2.1
  have hml := X.2.2.1
  have hown := X.2.2.2.1
  have hts := X.2.2.2.2.1
  intro x1 H locs ls hP hS hl h
  unfold fX2_nearNow_23_E at h
  refine lv_aload_n hx hb dX2_nearNow_0 rfl (lv_at hl 0 rfl) ?_
  refine x_get (rest := []) X hP (gC23 c3 ad w) rfl iwX2_nearNow_X2 3 (by decide) lkX2_nearNow_22 rfl dX2_nearNow_1 ?_
  refine lv_iload_n hx hb dX2_nearNow_4 rfl (lv_at hl 1 rfl) ?_
  obtain ⟨g_1, h⟩ := gd_s h
  refine x_iald X hP (gC25 c3 ad w) g_1 dX2_nearNow_5 ?_
  refine lv_aload_n hx hb dX2_nearNow_6 rfl (lv_at hl 0 rfl) ?_
  refine x_get (rest := [.int (w.1 25 x1.toNatClampNeg)]) X hP (gC23 c3 ad w) rfl iwX2_nearNow_X2 4 (by decide) lkX2_nearNow_25 rfl dX2_nearNow_7 ?_
  refine lv_iload_n hx hb dX2_nearNow_10 rfl (lv_at hl 1 rfl) ?_
  refine x_iald X hP (gC26 c3 ad w) g_1 dX2_nearNow_11 ?_
  refine lv_aload_n hx hb dX2_nearNow_12 rfl (lv_at hl 0 rfl) ?_
  refine x_get (rest := [.int (w.1 26 x1.toNatClampNeg), .int (w.1 25 x1.toNatClampNeg)]) X hP (gC23 c3 ad w) rfl iwX2_nearNow_X2 10 (by decide) lkX2_nearNow_43 rfl dX2_nearNow_13 ?_
  refine lv_iload_n hx hb dX2_nearNow_16 rfl (lv_at hl 1 rfl) ?_
  refine x_iald X hP (gC28 c3 ad w) g_1 dX2_nearNow_17 ?_
  refine lv_aload_n hx hb dX2_nearNow_18 rfl (lv_at hl 0 rfl) ?_
  obtain ⟨r_3, e_2, h⟩ := bo_s h
  refine x_goi X hS (x_runV (As := []) (rest := [.int (w.1 28 x1.toNatClampNeg), .int (w.1 26 x1.toNatClampNeg), .int (w.1 25 x1.toNatClampNeg)]) X gC_ok hP hS (ctX2_openTopics_23 l D c3 ad w _ _ e_2) (cwV 0 hts gX2_nearNow_X2_openTopics rfl rfl rfl (by decide +kernel) ⟨by decide, by decide⟩) (gC23 c3 ad w) rfl rfl rfl hl.1 rfl (Nat.le_of_ble_eq_true rfl) dX2_nearNow_19) (fun H locs hP hS => ?_)
  obtain ⟨r_6, e_5, h⟩ := bo_s h
  refine x_goi X hS (x_runS (As := [.int (w.1 25 x1.toNatClampNeg), .int (w.1 26 x1.toNatClampNeg), .int (w.1 28 x1.toNatClampNeg), .int r_3]) (rest := []) X gC_ok hP hS (ctX2_nearOf l D c3 ad w _ (w.1 25 x1.toNatClampNeg) (w.1 26 x1.toNatClampNeg) (w.1 28 x1.toNatClampNeg) r_3 _ e_5) (va_cwS 4 hts gX2_nearNow_X2_nearOf rfl rfl rfl (by decide +kernel) ⟨by decide, by decide⟩) rfl hl.1 rfl (Nat.le_of_ble_eq_true rfl) dX2_nearNow_22) (fun H locs hP hS => ?_)
  obtain rfl := Option.some.inj h
  exact hret _ _ _ _ hP hS dX2_nearNow_25
def fX2_nearNow_23 (x1 : Int32) (w : Mm) : Option (Int32) := fX2_nearNow_23_E x1 w
theorem ctX2_nearNow_23 (l : Launch) (D : va_G) (c3 : C3) (ad : Nat → Nat) (w : Mm) (sz : Nat) (x1 : Int32) (r : Int32) (h : fX2_nearNow_23 x1 w = some r) : Ci l yX2_nearNow wsX2_nearNow rmX2_nearNow_23 D c3 (encC c3 ad) gC [.ref (ad 23), .int x1] w sz r w := by
  refine Ci.of (cc := cX2_nearNow) (maxL := 2) (encC_ok c3 ad) (by decide) rfl (Nat.le_of_ble_eq_true rfl) ?_
  intro p e s m below meth c A Q ls X hret hP hS hl
  exact bX2_nearNow_23_E X hret x1 _ _ ls hP hS hl h
def rmX2_utter_23 : Room := { frames := 3, cells := 0, slots := 0, locals := 65 }
def fX2_utter_23_E (x1 : Int32) (x2 : Int32) (w : Mm) : Option (Mm) := bo (fX2_nearNow_23 x2 w) (fun r_2 => nm (sA w 23 7 ((w.1 23 7) + r_2)) (fun w_4 => gd (inb x2 6 = true) (nm (sA w_4 23 8 ((w_4.1 23 8) ||| (w_4.1 27 x2.toNatClampNeg))) (fun w_6 => nm (sA w_6 28 x2.toNatClampNeg ((w_6.1 28 x2.toNatClampNeg) + 1)) (fun w_7 => gd (inb x1 4 = true) ((if (w_7.1 23 7) ≤ (w_7.1 24 x1.toNatClampNeg) then some w_7 else nm (sA w_7 23 9 x1) (fun w_10 => some w_10))))))))
set_option maxRecDepth 20000 in
theorem bX2_utter_23_E {p : Program} {l : Launch} {e : Env} {s : State} {m : MethodId} {args : Array Value} {below : List Frame} {meth : Method} {c : Code} {Q : State → Prop} {D : va_G} {c3 : C3} {ad : Nat → Nat} {A : Nat → Prop} {w' : Mm} (X : Cx p s m args c cX2_utter 3 RX2 wsX2_utter D c3 (encC c3 ad) gC A) (hret : Rv p l e (rmX2_utter_23) s m args below meth c Q cX2_utter D (encC c3 ad) A w') : ∀ (x1 : Int32) (x2 : Int32) (w : Mm) (H : Heap) (locs : List Loc) (ls : Array Slot), va_P D vwCl ((encC c3 ad) w) H → va_S A s.heap H locs → lv_has ls 3 [(0, .ref (ad 23)), (1, .int x1), (2, .int x2)] → fX2_utter_23_E x1 x2 w = some w' → W p l e (rmX2_utter_23) s m args below meth c H locs 0 0 Q (F0 m 0 ls []) := by
  have hx := X.1
  have hb := X.2.1
  have hml := X.2.2.1
  have hown := X.2.2.2.1
  have hts := X.2.2.2.2.1
  intro x1 x2 w H locs ls hP hS hl h
  unfold fX2_utter_23_E at h
  refine lv_aload_n hx hb dX2_utter_0 rfl (lv_at hl 0 rfl) ?_
  refine lv_dup hx hb dX2_utter_1 rfl ?_
  refine x_get (rest := [.ref (ad 23)]) X hP (gC23 c3 ad w) rfl iwX2_utter_X2 7 (by decide) lkX2_utter_34 rfl dX2_utter_2 ?_
  refine lv_aload_n hx hb dX2_utter_5 rfl (lv_at hl 0 rfl) ?_
  refine lv_iload_n hx hb dX2_utter_6 rfl (lv_at hl 2 rfl) ?_
  obtain ⟨r_2, e_1, h⟩ := bo_s h
  refine x_goi X hS (x_runV (As := [.int x2]) (rest := [.int (w.1 23 7), .ref (ad 23)]) X gC_ok hP hS (ctX2_nearNow_23 l D c3 ad w _ x2 _ e_1) (cwV 1 hts gX2_utter_X2_nearNow rfl rfl rfl (by decide +kernel) ⟨by decide, by decide⟩) (gC23 c3 ad w) rfl rfl rfl hl.1 rfl (Nat.le_of_ble_eq_true rfl) dX2_utter_7) (fun H locs hP hS => ?_)
  refine lv_iadd hx hb dX2_utter_10 ?_
  refine x_put (v := .int ((w.1 23 7) + r_2)) X hP hS (gC23 c3 ad w) rfl iwX2_utter_X2 tyX2 tyX2_ok nmX2 7 (by decide) lkX2_utter_34 rfl rfl rfl (Nat.le_of_ble_eq_true rfl) (pC23_7 c3 ad w ((w.1 23 7) + r_2)) dX2_utter_11 (fun H locs hP hS => ?_)
  refine x_nmw h hP (fun w_4 h hP => ?_)
  refine lv_aload_n hx hb dX2_utter_14 rfl (lv_at hl 0 rfl) ?_
  refine lv_dup hx hb dX2_utter_15 rfl ?_
  refine x_get (rest := [.ref (ad 23)]) X hP (gC23 c3 ad w_4) rfl iwX2_utter_X2 8 (by decide) lkX2_utter_37 rfl dX2_utter_16 ?_
  refine lv_aload_n hx hb dX2_utter_19 rfl (lv_at hl 0 rfl) ?_
  refine x_get (rest := [.int (w_4.1 23 8), .ref (ad 23)]) X hP (gC23 c3 ad w_4) rfl iwX2_utter_X2 5 (by decide) lkX2_utter_28 rfl dX2_utter_20 ?_
  refine lv_iload_n hx hb dX2_utter_23 rfl (lv_at hl 2 rfl) ?_
  obtain ⟨g_5, h⟩ := gd_s h
  refine x_iald X hP (gC27 c3 ad w_4) g_5 dX2_utter_24 ?_
  refine lv_ior hx hb dX2_utter_25 ?_
  refine x_put (v := .int ((w_4.1 23 8) ||| (w_4.1 27 x2.toNatClampNeg))) X hP hS (gC23 c3 ad w_4) rfl iwX2_utter_X2 tyX2 tyX2_ok nmX2 8 (by decide) lkX2_utter_37 rfl rfl rfl (Nat.le_of_ble_eq_true rfl) (pC23_8 c3 ad w_4 ((w_4.1 23 8) ||| (w_4.1 27 x2.toNatClampNeg))) dX2_utter_26 (fun H locs hP hS => ?_)
  refine x_nmw h hP (fun w_6 h hP => ?_)
  refine lv_aload_n hx hb dX2_utter_29 rfl (lv_at hl 0 rfl) ?_
  refine x_get (rest := []) X hP (gC23 c3 ad w_6) rfl iwX2_utter_X2 10 (by decide) lkX2_utter_43 rfl dX2_utter_30 ?_
  refine lv_iload_n hx hb dX2_utter_33 rfl (lv_at hl 2 rfl) ?_
  refine lv_dup2_11 hx hb dX2_utter_34 rfl rfl ?_
  refine x_iald X hP (gC28 c3 ad w_6) g_5 dX2_utter_35 ?_
  refine lv_iconst (v := 1) hx hb dX2_utter_36 (by decide) ?_
  refine lv_iadd hx hb dX2_utter_37 ?_
  refine x_iast X hP hS (gC28 c3 ad w_6) (sC28 c3 ad w_6 _ _) g_5 dX2_utter_38 (fun H locs hP hS => ?_)
  refine x_nmw h hP (fun w_7 h hP => ?_)
  refine lv_aload_n hx hb dX2_utter_39 rfl (lv_at hl 0 rfl) ?_
  refine x_get (rest := []) X hP (gC23 c3 ad w_7) rfl iwX2_utter_X2 7 (by decide) lkX2_utter_34 rfl dX2_utter_40 ?_
  refine lv_aload_n hx hb dX2_utter_43 rfl (lv_at hl 0 rfl) ?_
  refine x_get (rest := [.int (w_7.1 23 7)]) X hP (gC23 c3 ad w_7) rfl iwX2_utter_X2 1 (by decide) lkX2_utter_15 rfl dX2_utter_44 ?_
  refine lv_iload_n hx hb dX2_utter_47 rfl (lv_at hl 1 rfl) ?_
  obtain ⟨g_8, h⟩ := gd_s h
  refine x_iald X hP (gC24 c3 ad w_7) g_8 dX2_utter_48 ?_
  refine lv_icmp_le (tgt := 57) hx hb dX2_utter_49 (by decide) (fun c_9 => ?_) (fun c_9 => ?_)
  · replace h := it_p c_9 h
    obtain rfl := Option.some.inj h
    exact hret _ _ _ _ hP hS dX2_utter_57
  · replace h := it_n c_9 h
    refine lv_aload_n hx hb dX2_utter_52 rfl (lv_at hl 0 rfl) ?_
    refine lv_iload_n hx hb dX2_utter_53 rfl (lv_at hl 1 rfl) ?_
    refine x_put (v := .int x1) X hP hS (gC23 c3 ad w_7) rfl iwX2_utter_X2 tyX2 tyX2_ok nmX2 9 (by decide) lkX2_utter_40 rfl rfl rfl (Nat.le_of_ble_eq_true rfl) (pC23_9 c3 ad w_7 x1) dX2_utter_54 (fun H locs hP hS => ?_)
    refine x_nmw h hP (fun w_10 h hP => ?_)
    obtain rfl := Option.some.inj h
    exact hret _ _ _ _ hP hS dX2_utter_57
def fX2_utter_23 (x1 : Int32) (x2 : Int32) (w : Mm) : Option (Mm) := fX2_utter_23_E x1 x2 w
theorem ctX2_utter_23 (l : Launch) (D : va_G) (c3 : C3) (ad : Nat → Nat) (w : Mm) (sz : Nat) (x1 : Int32) (x2 : Int32) (w' : Mm) (h : fX2_utter_23 x1 x2 w = some w') : Cv l yX2_utter wsX2_utter rmX2_utter_23 D c3 (encC c3 ad) gC [.ref (ad 23), .int x1, .int x2] w sz w' := by
  refine Cv.of (cc := cX2_utter) (maxL := 3) (encC_ok c3 ad) (by decide) rfl (Nat.le_of_ble_eq_true rfl) ?_
  intro p e s m below meth c A Q ls X hret hP hS hl
  exact bX2_utter_23_E X hret x1 x2 w _ _ ls hP hS hl h
def rmX2_ease_23 : Room := { frames := 1, cells := 0, slots := 0, locals := 21 }
def fX2_ease_23_E (w : Mm) : Option (Mm) := nm (sA w 23 7 (if 0 < ((w.1 23 7) - 1) then ((w.1 23 7) - 1) else 0)) (fun w_1 => some w_1)
set_option maxRecDepth 20000 in
theorem bX2_ease_23_E {p : Program} {l : Launch} {e : Env} {s : State} {m : MethodId} {args : Array Value} {below : List Frame} {meth : Method} {c : Code} {Q : State → Prop} {D : va_G} {c3 : C3} {ad : Nat → Nat} {A : Nat → Prop} {w' : Mm} (X : Cx p s m args c cX2_ease 1 RX2 wsX2_ease D c3 (encC c3 ad) gC A) (hret : Rv p l e (rmX2_ease_23) s m args below meth c Q cX2_ease D (encC c3 ad) A w') : ∀ (w : Mm) (H : Heap) (locs : List Loc) (ls : Array Slot), va_P D vwCl ((encC c3 ad) w) H → va_S A s.heap H locs → lv_has ls 1 [(0, .ref (ad 23))] → fX2_ease_23_E w = some w' → W p l e (rmX2_ease_23) s m args below meth c H locs 0 0 Q (F0 m 0 ls []) := by
  have hx := X.1
  have hb := X.2.1
  have hml := X.2.2.1
  have hown := X.2.2.2.1
  have hts := X.2.2.2.2.1
  intro w H locs ls hP hS hl h
  unfold fX2_ease_23_E at h
  refine lv_aload_n hx hb dX2_ease_0 rfl (lv_at hl 0 rfl) ?_
  refine lv_iconst (v := 0) hx hb dX2_ease_1 (by decide) ?_
  refine lv_aload_n hx hb dX2_ease_2 rfl (lv_at hl 0 rfl) ?_
  refine x_get (rest := [.int 0, .ref (ad 23)]) X hP (gC23 c3 ad w) rfl iwX2_ease_X2 7 (by decide) lkX2_ease_34 rfl dX2_ease_3 ?_
  refine lv_iconst (v := 1) hx hb dX2_ease_6 (by decide) ?_
  refine lv_isub hx hb dX2_ease_7 ?_
  refine va_mmax hx hb (by rw [hml]; exact hl.1.symm) hown (hts (.methodLink RX2 75 Lib.Math.max.name) (by decide +kernel)) (hts (.static Lib.Math.max.name) (by decide +kernel)) (hts (.initialized "java/lang/Math") (by decide +kernel)) (hts (.code Lib.Math.max.name Lib.Math.max.code 2 (some .int)) (by decide +kernel)) (Nat.le_of_ble_eq_true rfl) (Nat.le_of_ble_eq_true rfl) (Nat.zero_le _) (Nat.zero_le _) dX2_ease_8 ?_
  refine x_put (v := .int (if 0 < ((w.1 23 7) - 1) then ((w.1 23 7) - 1) else 0)) X hP hS (gC23 c3 ad w) rfl iwX2_ease_X2 tyX2 tyX2_ok nmX2 7 (by decide) lkX2_ease_34 rfl rfl rfl (Nat.le_of_ble_eq_true rfl) (pC23_7 c3 ad w (if 0 < ((w.1 23 7) - 1) then ((w.1 23 7) - 1) else 0)) dX2_ease_11 (fun H locs hP hS => ?_)
  refine x_nmw h hP (fun w_1 h hP => ?_)
  obtain rfl := Option.some.inj h
  exact hret _ _ _ _ hP hS dX2_ease_14
def fX2_ease_23 (w : Mm) : Option (Mm) := fX2_ease_23_E w
theorem ctX2_ease_23 (l : Launch) (D : va_G) (c3 : C3) (ad : Nat → Nat) (w : Mm) (sz : Nat) (w' : Mm) (h : fX2_ease_23 w = some w') : Cv l yX2_ease wsX2_ease rmX2_ease_23 D c3 (encC c3 ad) gC [.ref (ad 23)] w sz w' := by
  refine Cv.of (cc := cX2_ease) (maxL := 1) (encC_ok c3 ad) (by decide) rfl (Nat.le_of_ble_eq_true rfl) ?_
  intro p e s m below meth c A Q ls X hret hP hS hl
  exact bX2_ease_23_E X hret w _ _ ls hP hS hl h
def rmX2_enact_23 : Room := { frames := 4, cells := 0, slots := 0, locals := 87 }
def fX2_enact_23_E (x1 : Int32) (w : Mm) : Option (Mm) := nm (x1 / 6) (fun x2_1 => nm (x1 - x1 / 6 * 6) (fun x3_2 => (if x1 = (-1) then bo (fX2_ease_23 w) (fun w_17 => some w_17) else bo (fX2_hasPerson_23 x2_1 w) (fun r_5 => (if r_5 = 0 then some w else bo (fX2_hasSaying_23 x3_2 w) (fun r_9 => (if r_9 = 0 then some w else bo (fX2_utter_23 x2_1 x3_2 w) (fun w_14 => some w_14))))))))
set_option maxRecDepth 20000 in
theorem bX2_enact_23_E {p : Program} {l : Launch} {e : Env} {s : State} {m : MethodId} {args : Array Value} {below : List Frame} {meth : Method} {c : Code} {Q : State → Prop} {D : va_G} {c3 : C3} {ad : Nat → Nat} {A : Nat → Prop} {w' : Mm} (X : Cx p s m args c cX2_enact 4 RX2 wsX2_enact D c3 (encC c3 ad) gC A) (hret : Rv p l e (rmX2_enact_23) s m args below meth c Q cX2_enact D (encC c3 ad) A w') : ∀ (x1 : Int32) (w : Mm) (H : Heap) (locs : List Loc) (ls : Array Slot), va_P D vwCl ((encC c3 ad) w) H → va_S A s.heap H locs → lv_has ls 4 [(0, .ref (ad 23)), (1, .int x1)] → fX2_enact_23_E x1 w = some w' → W p l e (rmX2_enact_23) s m args below meth c H locs 0 0 Q (F0 m 0 ls []) := by
  have hx := X.1
  have hb := X.2.1
  have hml := X.2.2.1
  have hown := X.2.2.2.1
  have hts := X.2.2.2.2.1
  intro x1 w H locs ls hP hS hl h
  unfold fX2_enact_23_E at h
  refine lv_iload_n hx hb dX2_enact_0 rfl (lv_at hl 1 rfl) ?_
  refine lv_bipush (v := 6) hx hb dX2_enact_1 (by decide) ?_
  refine lv_idiv hx hb dX2_enact_3 (by decide) ?_
  refine x_nmi h (fun x2_1 h => ?_)
  refine lv_istore_n (lv' := [(2, .int x2_1), (0, .ref (ad 23)), (1, .int x1)]) hx hb dX2_enact_4 rfl hl (by decide) rfl (fun ls hl => ?_)
  refine lv_iload_n hx hb dX2_enact_5 rfl (lv_at hl 2 rfl) ?_
  refine lv_bipush (v := 6) hx hb dX2_enact_6 (by decide) ?_
  refine lv_irem hx hb dX2_enact_8 (by decide) ?_
  refine x_nmi h (fun x3_2 h => ?_)
  refine lv_istore_n (lv' := [(3, .int x3_2), (2, .int x2_1), (0, .ref (ad 23)), (1, .int x1)]) hx hb dX2_enact_9 rfl hl (by decide) rfl (fun ls hl => ?_)
  refine lv_iload_n hx hb dX2_enact_10 rfl (lv_at hl 3 rfl) ?_
  refine lv_iconst (v := (-1)) hx hb dX2_enact_11 (by decide) ?_
  refine lv_icmp_ne (tgt := 22) hx hb dX2_enact_12 (by decide) (fun c_3 => ?_) (fun c_3 => ?_)
  · replace h := it_n c_3 h
    refine lv_aload_n hx hb dX2_enact_22 rfl (lv_at hl 2 rfl) ?_
    refine lv_iload_n hx hb dX2_enact_23 rfl (lv_at hl 1 rfl) ?_
    obtain ⟨r_5, e_4, h⟩ := bo_s h
    refine x_goi X hS (x_runV (As := [.int x2_1]) (rest := []) X gC_ok hP hS (ctX2_hasPerson_23 l D c3 ad w _ x2_1 _ e_4) (cwV 1 hts gX2_enact_X2_hasPerson rfl rfl rfl (by decide +kernel) ⟨by decide, by decide⟩) (gC23 c3 ad w) rfl rfl rfl hl.1 rfl (Nat.le_of_ble_eq_true rfl) dX2_enact_24) (fun H locs hP hS => ?_)
    refine lv_if_eq (tgt := 44) hx hb dX2_enact_27 (by decide) (fun c_7 => ?_) (fun c_7 => ?_)
    · replace h := it_p c_7 h
      obtain rfl := Option.some.inj h
      exact hret _ _ _ _ hP hS dX2_enact_44
    · replace h := it_n c_7 h
      refine lv_aload_n hx hb dX2_enact_30 rfl (lv_at hl 2 rfl) ?_
      refine lv_iload_n hx hb dX2_enact_31 rfl (lv_at hl 0 rfl) ?_
      obtain ⟨r_9, e_8, h⟩ := bo_s h
      refine x_goi X hS (x_runV (As := [.int x3_2]) (rest := []) X gC_ok hP hS (ctX2_hasSaying_23 l D c3 ad w _ x3_2 _ e_8) (cwV 1 hts gX2_enact_X2_hasSaying rfl rfl rfl (by decide +kernel) ⟨by decide, by decide⟩) (gC23 c3 ad w) rfl rfl rfl hl.1 rfl (Nat.le_of_ble_eq_true rfl) dX2_enact_32) (fun H locs hP hS => ?_)
      refine lv_if_eq (tgt := 44) hx hb dX2_enact_35 (by decide) (fun c_11 => ?_) (fun c_11 => ?_)
      · replace h := it_p c_11 h
        obtain rfl := Option.some.inj h
        exact hret _ _ _ _ hP hS dX2_enact_44
      · replace h := it_n c_11 h
        refine lv_aload_n hx hb dX2_enact_38 rfl (lv_at hl 2 rfl) ?_
        refine lv_iload_n hx hb dX2_enact_39 rfl (lv_at hl 1 rfl) ?_
        refine lv_iload_n hx hb dX2_enact_40 rfl (lv_at hl 0 rfl) ?_
        obtain ⟨w_14, e_12, h⟩ := bo_s h
        refine x_gov X hS (x_runV (As := [.int x2_1, .int x3_2]) (rest := []) X gC_ok hP hS (ctX2_utter_23 l D c3 ad w _ x2_1 x3_2 _ e_12) (cwV 2 hts gX2_enact_X2_utter rfl rfl rfl (by decide +kernel) ⟨by decide, by decide⟩) (gC23 c3 ad w) rfl rfl rfl hl.1 rfl (Nat.le_of_ble_eq_true rfl) dX2_enact_41) (fun H locs hP hS => ?_)
        obtain rfl := Option.some.inj h
        exact hret _ _ _ _ hP hS dX2_enact_44
  · replace h := it_p c_3 h
    refine lv_aload_n hx hb dX2_enact_15 rfl (lv_at hl 2 rfl) ?_
    obtain ⟨w_17, e_15, h⟩ := bo_s h
    refine x_gov X hS (x_runV (As := []) (rest := []) X gC_ok hP hS (ctX2_ease_23 l D c3 ad w _ _ e_15) (cwV 0 hts gX2_enact_X2_ease rfl rfl rfl (by decide +kernel) ⟨by decide, by decide⟩) (gC23 c3 ad w) rfl rfl rfl hl.1 rfl (Nat.le_of_ble_eq_true rfl) dX2_enact_16) (fun H locs hP hS => ?_)
    refine lv_goto (tgt := 44) hx hb dX2_enact_19 (by decide) ?_
    obtain rfl := Option.some.inj h
    exact hret _ _ _ _ hP hS dX2_enact_44
def fX2_enact_23 (x1 : Int32) (w : Mm) : Option (Mm) := fX2_enact_23_E x1 w
theorem ctX2_enact_23 (l : Launch) (D : va_G) (c3 : C3) (ad : Nat → Nat) (w : Mm) (sz : Nat) (x1 : Int32) (w' : Mm) (h : fX2_enact_23 x1 w = some w') : Cv l yX2_enact wsX2_enact rmX2_enact_23 D c3 (encC c3 ad) gC [.ref (ad 23), .int x1] w sz w' := by
  refine Cv.of (cc := cX2_enact) (maxL := 4) (encC_ok c3 ad) (by decide) rfl (Nat.le_of_ble_eq_true rfl) ?_
  intro p e s m below meth c A Q ls X hret hP hS hl
  exact bX2_enact_23_E X hret x1 w _ _ ls hP hS hl h
def rmJ7_fill_53178_28 : Room := { frames := 0, cells := 0, slots := 0, locals := 0 }
def fJ7_fill_53178_28_5 (x1 : Int32) (x3 : Int32) : Nat → Int32 → Mm → Option (Mm)
  | 0, _, _ => none
  | n + 1, x2, w => (if x3 ≤ x2 then some w else gd (inb x2 6 = true) (nm (sA w 28 x2.toNatClampNeg x1) (fun w_3 => fJ7_fill_53178_28_5 x1 x3 n (x2 + 1) w_3)))
set_option maxRecDepth 20000 in
theorem bJ7_fill_53178_28_5 {p : Program} {l : Launch} {e : Env} {s : State} {m : MethodId} {args : Array Value} {below : List Frame} {meth : Method} {c : Code} {Q : State → Prop} {D : va_G} {c3 : C3} {ad : Nat → Nat} {A : Nat → Prop} {w' : Mm} (X : Cx p s m args c cJ7_fill_53178 4 RJ7 wsJ7_fill_53178 D c3 (encC c3 ad) gC A) (hret : Rv p l e (rmJ7_fill_53178_28) s m args below meth c Q cJ7_fill_53178 D (encC c3 ad) A w') : ∀ (x1 : Int32) (x3 : Int32) (n : Nat) (x2 : Int32) (w : Mm) (H : Heap) (locs : List Loc) (ls : Array Slot), va_P D vwCl ((encC c3 ad) w) H → va_S A s.heap H locs → lv_has ls 4 [(0, .ref (ad 28)), (1, .int x1), (2, .int x2), (3, .int x3)] → fJ7_fill_53178_28_5 x1 x3 n x2 w = some w' → W p l e (rmJ7_fill_53178_28) s m args below meth c H locs 0 0 Q (F0 m 5 ls []) := by
  have hx := X.1
  have hb := X.2.1
  have hml := X.2.2.1
  have hown := X.2.2.2.1
  have hts := X.2.2.2.2.1
  intro x1 x3 n
  induction n with
  | zero =>
    intro x2 w H locs ls hP hS hl h
    exact absurd h (by simp [fJ7_fill_53178_28_5])
  | succ n ih =>
    intro x2 w H locs ls hP hS hl h
    rw [fJ7_fill_53178_28_5] at h
    refine lv_iload_n hx hb dJ7_fill_53178_5 rfl (lv_at hl 2 rfl) ?_
    refine lv_iload_n hx hb dJ7_fill_53178_6 rfl (lv_at hl 3 rfl) ?_
    refine lv_icmp_ge (tgt := 20) hx hb dJ7_fill_53178_7 (by decide) (fun c_1 => ?_) (fun c_1 => ?_)
    · replace h := it_p c_1 h
      obtain rfl := Option.some.inj h
      exact hret _ _ _ _ hP hS dJ7_fill_53178_20
    · replace h := it_n c_1 h
      refine lv_aload_n hx hb dJ7_fill_53178_10 rfl (lv_at hl 0 rfl) ?_
      refine lv_iload_n hx hb dJ7_fill_53178_11 rfl (lv_at hl 2 rfl) ?_
      refine lv_iload_n hx hb dJ7_fill_53178_12 rfl (lv_at hl 1 rfl) ?_
      obtain ⟨g_2, h⟩ := gd_s h
      refine x_iast X hP hS (gC28 c3 ad w) (sC28 c3 ad w _ _) g_2 dJ7_fill_53178_13 (fun H locs hP hS => ?_)
      refine x_nmw h hP (fun w_3 h hP => ?_)
      refine lv_iinc (v := (x2 + 1)) (lv' := [(2, .int (x2 + 1)), (0, .ref (ad 28)), (1, .int x1), (3, .int x3)]) hx hb dJ7_fill_53178_14 hl (k := 2) rfl rfl (by decide) rfl (fun ls hl => ?_)
      refine lv_goto (tgt := 5) hx hb dJ7_fill_53178_17 (by decide) ?_
      exact ih (x2 + 1) w_3 _ _ _ hP hS (lv_sub hl [1, 2, 0, 3] rfl) h
def fJ7_fill_53178_28_E (x1 : Int32) (w : Mm) : Option (Mm) := fJ7_fill_53178_28_5 x1 6 FU 0 w
set_option maxRecDepth 20000 in
theorem bJ7_fill_53178_28_E {p : Program} {l : Launch} {e : Env} {s : State} {m : MethodId} {args : Array Value} {below : List Frame} {meth : Method} {c : Code} {Q : State → Prop} {D : va_G} {c3 : C3} {ad : Nat → Nat} {A : Nat → Prop} {w' : Mm} (X : Cx p s m args c cJ7_fill_53178 4 RJ7 wsJ7_fill_53178 D c3 (encC c3 ad) gC A) (hret : Rv p l e (rmJ7_fill_53178_28) s m args below meth c Q cJ7_fill_53178 D (encC c3 ad) A w') : ∀ (x1 : Int32) (w : Mm) (H : Heap) (locs : List Loc) (ls : Array Slot), va_P D vwCl ((encC c3 ad) w) H → va_S A s.heap H locs → lv_has ls 4 [(0, .ref (ad 28)), (1, .int x1)] → fJ7_fill_53178_28_E x1 w = some w' → W p l e (rmJ7_fill_53178_28) s m args below meth c H locs 0 0 Q (F0 m 0 ls []) := by
  have hx := X.1
  have hb := X.2.1
  have hml := X.2.2.1
  have hown := X.2.2.2.1
  have hts := X.2.2.2.2.1
  intro x1 w H locs ls hP hS hl h
  unfold fJ7_fill_53178_28_E at h
  refine lv_iconst (v := 0) hx hb dJ7_fill_53178_0 (by decide) ?_
  refine lv_istore_n (lv' := [(2, .int 0), (0, .ref (ad 28)), (1, .int x1)]) hx hb dJ7_fill_53178_1 rfl hl (by decide) rfl (fun ls hl => ?_)
  refine lv_aload_n hx hb dJ7_fill_53178_2 rfl (lv_at hl 1 rfl) ?_
  refine x_alen (v := 6) X hP (gC28 c3 ad w) rfl dJ7_fill_53178_3 ?_
  refine lv_istore_n (lv' := [(3, .int 6), (2, .int 0), (0, .ref (ad 28)), (1, .int x1)]) hx hb dJ7_fill_53178_4 rfl hl (by decide) rfl (fun ls hl => ?_)
  exact bJ7_fill_53178_28_5 X hret x1 6 FU 0 w _ _ _ hP hS (lv_sub hl [2, 3, 1, 0] rfl) h
def fJ7_fill_53178_28 (x1 : Int32) (w : Mm) : Option (Mm) := fJ7_fill_53178_28_E x1 w
theorem ctJ7_fill_53178_28 (l : Launch) (D : va_G) (c3 : C3) (ad : Nat → Nat) (w : Mm) (sz : Nat) (x1 : Int32) (w' : Mm) (h : fJ7_fill_53178_28 x1 w = some w') : Cv l yJ7_fill_53178 wsJ7_fill_53178 rmJ7_fill_53178_28 D c3 (encC c3 ad) gC [.ref (ad 28), .int x1] w sz w' := by
  refine Cv.of (cc := cJ7_fill_53178) (maxL := 4) (encC_ok c3 ad) (by decide) rfl (Nat.le_of_ble_eq_true rfl) ?_
  intro p e s m below meth c A Q ls X hret hP hS hl
  exact bJ7_fill_53178_28_E X hret x1 w _ _ ls hP hS hl h
def rmX2_goBackTo_23 : Room := { frames := 5, cells := 0, slots := 0, locals := 110 }
def fX2_goBackTo_23_31 (x1 : Int32) : Nat → Int32 → Mm → Option (Mm)
  | 0, _, _ => none
  | n + 1, x2, w => (if x1 ≤ x2 then some w else (if 40 ≤ x2 then some w else gd (inb x2 40 = true) (bo (fX2_enact_23 (w.1 29 x2.toNatClampNeg) w) (fun w_6 => fX2_goBackTo_23_31 x1 n (x2 + 1) w_6))))
set_option maxRecDepth 20000 in
theorem bX2_goBackTo_23_31 {p : Program} {l : Launch} {e : Env} {s : State} {m : MethodId} {args : Array Value} {below : List Frame} {meth : Method} {c : Code} {Q : State → Prop} {D : va_G} {c3 : C3} {ad : Nat → Nat} {A : Nat → Prop} {w' : Mm} (X : Cx p s m args c cX2_goBackTo 3 RX2 wsX2_goBackTo D c3 (encC c3 ad) gC A) (hret : Rv p l e (rmX2_goBackTo_23) s m args below meth c Q cX2_goBackTo D (encC c3 ad) A w') : ∀ (x1 : Int32) (n : Nat) (x2 : Int32) (w : Mm) (H : Heap) (locs : List Loc) (ls : Array Slot), va_P D vwCl ((encC c3 ad) w) H → va_S A s.heap H locs → lv_has ls 3 [(0, .ref (ad 23)), (1, .int x1), (2, .int x2)] → fX2_goBackTo_23_31 x1 n x2 w = some w' → W p l e (rmX2_goBackTo_23) s m args below meth c H locs 0 0 Q (F0 m 31 ls []) := by
  have hx := X.1
  have hb := X.2.1
  have hml := X.2.2.1
  have hown := X.2.2.2.1
  have hts := X.2.2.2.2.1
  intro x1 n
  induction n with
  | zero =>
    intro x2 w H locs ls hP hS hl h
    exact absurd h (by simp [fX2_goBackTo_23_31])
  | succ n ih =>
    intro x2 w H locs ls hP hS hl h
    rw [fX2_goBackTo_23_31] at h
    refine lv_iload_n hx hb dX2_goBackTo_31 rfl (lv_at hl 2 rfl) ?_
    refine lv_iload_n hx hb dX2_goBackTo_32 rfl (lv_at hl 1 rfl) ?_
    refine lv_icmp_ge (tgt := 58) hx hb dX2_goBackTo_33 (by decide) (fun c_1 => ?_) (fun c_1 => ?_)
    · replace h := it_p c_1 h
      obtain rfl := Option.some.inj h
      exact hret _ _ _ _ hP hS dX2_goBackTo_58
    · replace h := it_n c_1 h
      refine lv_iload_n hx hb dX2_goBackTo_36 rfl (lv_at hl 2 rfl) ?_
      refine lv_bipush (v := 40) hx hb dX2_goBackTo_37 (by decide) ?_
      refine lv_icmp_ge (tgt := 58) hx hb dX2_goBackTo_39 (by decide) (fun c_2 => ?_) (fun c_2 => ?_)
      · replace h := it_p c_2 h
        obtain rfl := Option.some.inj h
        exact hret _ _ _ _ hP hS dX2_goBackTo_58
      · replace h := it_n c_2 h
        refine lv_aload_n hx hb dX2_goBackTo_42 rfl (lv_at hl 0 rfl) ?_
        refine lv_aload_n hx hb dX2_goBackTo_43 rfl (lv_at hl 0 rfl) ?_
        refine x_get (rest := [.ref (ad 23)]) X hP (gC23 c3 ad w) rfl iwX2_goBackTo_X2 12 (by decide) lkX2_goBackTo_49 rfl dX2_goBackTo_44 ?_
        refine lv_iload_n hx hb dX2_goBackTo_47 rfl (lv_at hl 2 rfl) ?_
        obtain ⟨g_3, h⟩ := gd_s h
        refine x_iald X hP (gC29 c3 ad w) g_3 dX2_goBackTo_48 ?_
        obtain ⟨w_6, e_4, h⟩ := bo_s h
        refine x_gov X hS (x_runV (As := [.int (w.1 29 x2.toNatClampNeg)]) (rest := []) X gC_ok hP hS (ctX2_enact_23 l D c3 ad w _ (w.1 29 x2.toNatClampNeg) _ e_4) (cwV 1 hts gX2_goBackTo_X2_enact rfl rfl rfl (by decide +kernel) ⟨by decide, by decide⟩) (gC23 c3 ad w) rfl rfl rfl hl.1 rfl (Nat.le_of_ble_eq_true rfl) dX2_goBackTo_49) (fun H locs hP hS => ?_)
        refine lv_iinc (v := (x2 + 1)) (lv' := [(2, .int (x2 + 1)), (0, .ref (ad 23)), (1, .int x1)]) hx hb dX2_goBackTo_52 hl (k := 2) rfl rfl (by decide) rfl (fun ls hl => ?_)
        refine lv_goto (tgt := 31) hx hb dX2_goBackTo_55 (by decide) ?_
        exact ih (x2 + 1) w_6 _ _ _ hP hS (lv_sub hl [1, 2, 0] rfl) h
def fX2_goBackTo_23_E (x1 : Int32) (w : Mm) : Option (Mm) := nm (sA w 23 7 0) (fun w_7 => nm (sA w_7 23 8 0) (fun w_8 => nm (sA w_8 23 9 (-9)) (fun w_9 => bo (fJ7_fill_53178_28 0 w_9) (fun w_12 => nm (sA w_12 23 11 x1) (fun w_13 => fX2_goBackTo_23_31 x1 FU 0 w_13)))))
set_option maxRecDepth 20000 in
theorem bX2_goBackTo_23_E {p : Program} {l : Launch} {e : Env} {s : State} {m : MethodId} {args : Array Value} {below : List Frame} {meth : Method} {c : Code} {Q : State → Prop} {D : va_G} {c3 : C3} {ad : Nat → Nat} {A : Nat → Prop} {w' : Mm} (X : Cx p s m args c cX2_goBackTo 3 RX2 wsX2_goBackTo D c3 (encC c3 ad) gC A) (hret : Rv p l e (rmX2_goBackTo_23) s m args below meth c Q cX2_goBackTo D (encC c3 ad) A w') : ∀ (x1 : Int32) (w : Mm) (H : Heap) (locs : List Loc) (ls : Array Slot), va_P D vwCl ((encC c3 ad) w) H → va_S A s.heap H locs → lv_has ls 3 [(0, .ref (ad 23)), (1, .int x1)] → fX2_goBackTo_23_E x1 w = some w' → W p l e (rmX2_goBackTo_23) s m args below meth c H locs 0 0 Q (F0 m 0 ls []) := by
  have hx := X.1
  have hb := X.2.1
  have hml := X.2.2.1
  have hown := X.2.2.2.1
  have hts := X.2.2.2.2.1
  intro x1 w H locs ls hP hS hl h
  unfold fX2_goBackTo_23_E at h
  refine lv_aload_n hx hb dX2_goBackTo_0 rfl (lv_at hl 0 rfl) ?_
  refine lv_iconst (v := 0) hx hb dX2_goBackTo_1 (by decide) ?_
  refine x_put (v := .int 0) X hP hS (gC23 c3 ad w) rfl iwX2_goBackTo_X2 tyX2 tyX2_ok nmX2 7 (by decide) lkX2_goBackTo_34 rfl rfl rfl (Nat.le_of_ble_eq_true rfl) (pC23_7 c3 ad w 0) dX2_goBackTo_2 (fun H locs hP hS => ?_)
  refine x_nmw h hP (fun w_7 h hP => ?_)
  refine lv_aload_n hx hb dX2_goBackTo_5 rfl (lv_at hl 0 rfl) ?_
  refine lv_iconst (v := 0) hx hb dX2_goBackTo_6 (by decide) ?_
  refine x_put (v := .int 0) X hP hS (gC23 c3 ad w_7) rfl iwX2_goBackTo_X2 tyX2 tyX2_ok nmX2 8 (by decide) lkX2_goBackTo_37 rfl rfl rfl (Nat.le_of_ble_eq_true rfl) (pC23_8 c3 ad w_7 0) dX2_goBackTo_7 (fun H locs hP hS => ?_)
  refine x_nmw h hP (fun w_8 h hP => ?_)
  refine lv_aload_n hx hb dX2_goBackTo_10 rfl (lv_at hl 0 rfl) ?_
  refine lv_bipush (v := (-9)) hx hb dX2_goBackTo_11 (by decide) ?_
  refine x_put (v := .int (-9)) X hP hS (gC23 c3 ad w_8) rfl iwX2_goBackTo_X2 tyX2 tyX2_ok nmX2 9 (by decide) lkX2_goBackTo_40 rfl rfl rfl (Nat.le_of_ble_eq_true rfl) (pC23_9 c3 ad w_8 (-9)) dX2_goBackTo_13 (fun H locs hP hS => ?_)
  refine x_nmw h hP (fun w_9 h hP => ?_)
  refine lv_aload_n hx hb dX2_goBackTo_16 rfl (lv_at hl 0 rfl) ?_
  refine x_get (rest := []) X hP (gC23 c3 ad w_9) rfl iwX2_goBackTo_X2 10 (by decide) lkX2_goBackTo_43 rfl dX2_goBackTo_17 ?_
  refine lv_iconst (v := 0) hx hb dX2_goBackTo_20 (by decide) ?_
  obtain ⟨w_12, e_10, h⟩ := bo_s h
  refine x_gov X hS (x_runS (As := [.ref (ad 28), .int 0]) (rest := []) X gC_ok hP hS (ctJ7_fill_53178_28 l D c3 ad w_9 _ 0 _ e_10) (va_cwS 2 hts gX2_goBackTo_J7_fill_53178 rfl rfl rfl (by decide +kernel) ⟨by decide, by decide⟩) rfl hl.1 rfl (Nat.le_of_ble_eq_true rfl) dX2_goBackTo_21) (fun H locs hP hS => ?_)
  refine lv_aload_n hx hb dX2_goBackTo_24 rfl (lv_at hl 0 rfl) ?_
  refine lv_iload_n hx hb dX2_goBackTo_25 rfl (lv_at hl 1 rfl) ?_
  refine x_put (v := .int x1) X hP hS (gC23 c3 ad w_12) rfl iwX2_goBackTo_X2 tyX2 tyX2_ok nmX2 11 (by decide) lkX2_goBackTo_46 rfl rfl rfl (Nat.le_of_ble_eq_true rfl) (pC23_11 c3 ad w_12 x1) dX2_goBackTo_26 (fun H locs hP hS => ?_)
  refine x_nmw h hP (fun w_13 h hP => ?_)
  refine lv_iconst (v := 0) hx hb dX2_goBackTo_29 (by decide) ?_
  refine lv_istore_n (lv' := [(2, .int 0), (0, .ref (ad 23)), (1, .int x1)]) hx hb dX2_goBackTo_30 rfl hl (by decide) rfl (fun ls hl => ?_)
  exact bX2_goBackTo_23_31 X hret x1 FU 0 w_13 _ _ _ hP hS (lv_sub hl [1, 2, 0] rfl) h
def fX2_goBackTo_23 (x1 : Int32) (w : Mm) : Option (Mm) := fX2_goBackTo_23_E x1 w
theorem ctX2_goBackTo_23 (l : Launch) (D : va_G) (c3 : C3) (ad : Nat → Nat) (w : Mm) (sz : Nat) (x1 : Int32) (w' : Mm) (h : fX2_goBackTo_23 x1 w = some w') : Cv l yX2_goBackTo wsX2_goBackTo rmX2_goBackTo_23 D c3 (encC c3 ad) gC [.ref (ad 23), .int x1] w sz w' := by
  refine Cv.of (cc := cX2_goBackTo) (maxL := 3) (encC_ok c3 ad) (by decide) rfl (Nat.le_of_ble_eq_true rfl) ?_
  intro p e s m below meth c A Q ls X hret hP hS hl
  exact bX2_goBackTo_23_E X hret x1 w _ _ ls hP hS hl h
theorem iwX2_become_X2 : ∀ w ∈ wsX20, w ∈ wsX2_become := fun _ h => List.mem_cons_of_mem _ (List.mem_append_right _ h)
theorem lkX2_become_9 : Cond.fieldLink RX2 9 "StuckDoor$Family" "people" "I" ∈ wsX2_become := by decide +kernel
theorem lkX2_become_15 : Cond.fieldLink RX2 15 "StuckDoor$Family" "bearing" "[I" ∈ wsX2_become := by decide +kernel
theorem lkX2_become_19 : Cond.fieldLink RX2 19 "StuckDoor$Family" "sayings" "I" ∈ wsX2_become := by decide +kernel
theorem lkX2_become_22 : Cond.fieldLink RX2 22 "StuckDoor$Family" "kind" "[I" ∈ wsX2_become := by decide +kernel
theorem lkX2_become_25 : Cond.fieldLink RX2 25 "StuckDoor$Family" "told" "[I" ∈ wsX2_become := by decide +kernel
theorem lkX2_become_28 : Cond.fieldLink RX2 28 "StuckDoor$Family" "topics" "[I" ∈ wsX2_become := by decide +kernel
theorem lkX2_become_31 : Cond.fieldLink RX2 31 "StuckDoor$Family" "stuckRooms" "I" ∈ wsX2_become := by decide +kernel
def rmX2_become_23_31 : Room := { frames := 6, cells := 0, slots := 0, locals := 132 }
def fX2_become_23_31_E (w : Mm) : Option (Mm) := nm (sA w 23 0 (w.1 31 0)) (fun w_1 => nm (sA w_1 23 2 (w_1.1 31 2)) (fun w_2 => nm (sA w_2 23 6 (w_2.1 31 6)) (fun w_3 => gd (¬ (0 : Int32) < 0 ∧ ¬ (0 : Int32) < 0 ∧ ¬ (4 : Int32) < 0 ∧ (0 : Int32).toNatClampNeg + (4 : Int32).toNatClampNeg ≤ 4 ∧ (0 : Int32).toNatClampNeg + (4 : Int32).toNatClampNeg ≤ 4) (nm (sF w_3 24 (va_cpy (w_3.1 32) (w_3.1 24) (0 : Int32).toNatClampNeg (0 : Int32).toNatClampNeg (4 : Int32).toNatClampNeg)) (fun w_5 => gd (¬ (0 : Int32) < 0 ∧ ¬ (0 : Int32) < 0 ∧ ¬ (6 : Int32) < 0 ∧ (0 : Int32).toNatClampNeg + (6 : Int32).toNatClampNeg ≤ 6 ∧ (0 : Int32).toNatClampNeg + (6 : Int32).toNatClampNeg ≤ 6) (nm (sF w_5 25 (va_cpy (w_5.1 33) (w_5.1 25) (0 : Int32).toNatClampNeg (0 : Int32).toNatClampNeg (6 : Int32).toNatClampNeg)) (fun w_7 => nm (sF w_7 26 (va_cpy (w_7.1 34) (w_7.1 26) (0 : Int32).toNatClampNeg (0 : Int32).toNatClampNeg (6 : Int32).toNatClampNeg)) (fun w_8 => nm (sF w_8 27 (va_cpy (w_8.1 35) (w_8.1 27) (0 : Int32).toNatClampNeg (0 : Int32).toNatClampNeg (6 : Int32).toNatClampNeg)) (fun w_9 => bo (fX2_goBackTo_23 0 w_9) (fun w_12 => some w_12))))))))))
set_option maxRecDepth 20000 in
theorem bX2_become_23_31_E {p : Program} {l : Launch} {e : Env} {s : State} {m : MethodId} {args : Array Value} {below : List Frame} {meth : Method} {c : Code} {Q : State → Prop} {D : va_G} {c3 : C3} {ad : Nat → Nat} {A : Nat → Prop} {w' : Mm} (X : Cx p s m args c cX2_become 2 RX2 wsX2_become D c3 (encC c3 ad) gC A) (hret : Rv p l e (rmX2_become_23_31) s m args below meth c Q cX2_become D (encC c3 ad) A w') : ∀ (w : Mm) (H : Heap) (locs : List Loc) (ls : Array Slot), va_P D vwCl ((encC c3 ad) w) H → va_S A s.heap H locs → lv_has ls 2 [(0, .ref (ad 23)), (1, .ref (ad 31))] → fX2_become_23_31_E w = some w' → W p l e (rmX2_become_23_31) s m args below meth c H locs 0 0 Q (F0 m 0 ls []) := by
  have hx := X.1
  have hb := X.2.1
  have hml := X.2.2.1
  have hown := X.2.2.2.1
  have hts := X.2.2.2.2.1
  intro w H locs ls hP hS hl h
  unfold fX2_become_23_31_E at h
  refine lv_aload_n hx hb dX2_become_0 rfl (lv_at hl 0 rfl) ?_
  refine lv_aload_n hx hb dX2_become_1 rfl (lv_at hl 1 rfl) ?_
  refine x_get (rest := [.ref (ad 23)]) X hP (gC31 c3 ad w) rfl iwX2_become_X2 0 (by decide) lkX2_become_9 rfl dX2_become_2 ?_
  refine x_put (v := .int (w.1 31 0)) X hP hS (gC23 c3 ad w) rfl iwX2_become_X2 tyX2 tyX2_ok nmX2 0 (by decide) lkX2_become_9 rfl rfl rfl (Nat.le_of_ble_eq_true rfl) (pC23_0 c3 ad w (w.1 31 0)) dX2_become_5 (fun H locs hP hS => ?_)
  refine x_nmw h hP (fun w_1 h hP => ?_)
  refine lv_aload_n hx hb dX2_become_8 rfl (lv_at hl 0 rfl) ?_
  refine lv_aload_n hx hb dX2_become_9 rfl (lv_at hl 1 rfl) ?_
  refine x_get (rest := [.ref (ad 23)]) X hP (gC31 c3 ad w_1) rfl iwX2_become_X2 2 (by decide) lkX2_become_19 rfl dX2_become_10 ?_
  refine x_put (v := .int (w_1.1 31 2)) X hP hS (gC23 c3 ad w_1) rfl iwX2_become_X2 tyX2 tyX2_ok nmX2 2 (by decide) lkX2_become_19 rfl rfl rfl (Nat.le_of_ble_eq_true rfl) (pC23_2 c3 ad w_1 (w_1.1 31 2)) dX2_become_13 (fun H locs hP hS => ?_)
  refine x_nmw h hP (fun w_2 h hP => ?_)
  refine lv_aload_n hx hb dX2_become_16 rfl (lv_at hl 0 rfl) ?_
  refine lv_aload_n hx hb dX2_become_17 rfl (lv_at hl 1 rfl) ?_
  refine x_get (rest := [.ref (ad 23)]) X hP (gC31 c3 ad w_2) rfl iwX2_become_X2 6 (by decide) lkX2_become_31 rfl dX2_become_18 ?_
  refine x_put (v := .int (w_2.1 31 6)) X hP hS (gC23 c3 ad w_2) rfl iwX2_become_X2 tyX2 tyX2_ok nmX2 6 (by decide) lkX2_become_31 rfl rfl rfl (Nat.le_of_ble_eq_true rfl) (pC23_6 c3 ad w_2 (w_2.1 31 6)) dX2_become_21 (fun H locs hP hS => ?_)
  refine x_nmw h hP (fun w_3 h hP => ?_)
  refine lv_aload_n hx hb dX2_become_24 rfl (lv_at hl 1 rfl) ?_
  refine x_get (rest := []) X hP (gC31 c3 ad w_3) rfl iwX2_become_X2 1 (by decide) lkX2_become_15 rfl dX2_become_25 ?_
  refine lv_iconst (v := 0) hx hb dX2_become_28 (by decide) ?_
  refine lv_aload_n hx hb dX2_become_29 rfl (lv_at hl 0 rfl) ?_
  refine x_get (rest := [.int 0, .ref (ad 32)]) X hP (gC23 c3 ad w_3) rfl iwX2_become_X2 1 (by decide) lkX2_become_15 rfl dX2_become_30 ?_
  refine lv_iconst (v := 0) hx hb dX2_become_33 (by decide) ?_
  refine lv_iconst (v := 4) hx hb dX2_become_34 (by decide) ?_
  obtain ⟨g_4, h⟩ := gd_s h
  refine x_copy X hP hS (gC32 c3 ad w_3) (gC24 c3 ad w_3) (tC24 c3 ad w_3 _) g_4 (by rw [hml]; exact hl.1.symm) (hts (.methodLink RX2 56 arraycopyName) (by decide +kernel)) (hts (.native arraycopyName) (by decide +kernel)) (hts (.static arraycopyName) (by decide +kernel)) (hts (.initialized "java/lang/System") (by decide +kernel)) (Nat.le_of_ble_eq_true rfl) (Nat.le_of_ble_eq_true rfl) dX2_become_35 (fun H locs hP hS => ?_)
  refine x_nmw h hP (fun w_5 h hP => ?_)
  refine lv_aload_n hx hb dX2_become_38 rfl (lv_at hl 1 rfl) ?_
  refine x_get (rest := []) X hP (gC31 c3 ad w_5) rfl iwX2_become_X2 3 (by decide) lkX2_become_22 rfl dX2_become_39 ?_
  refine lv_iconst (v := 0) hx hb dX2_become_42 (by decide) ?_
  refine lv_aload_n hx hb dX2_become_43 rfl (lv_at hl 0 rfl) ?_
  refine x_get (rest := [.int 0, .ref (ad 33)]) X hP (gC23 c3 ad w_5) rfl iwX2_become_X2 3 (by decide) lkX2_become_22 rfl dX2_become_44 ?_
  refine lv_iconst (v := 0) hx hb dX2_become_47 (by decide) ?_
  refine lv_bipush (v := 6) hx hb dX2_become_48 (by decide) ?_
  obtain ⟨g_6, h⟩ := gd_s h
  refine x_copy X hP hS (gC33 c3 ad w_5) (gC25 c3 ad w_5) (tC25 c3 ad w_5 _) g_6 (by rw [hml]; exact hl.1.symm) (hts (.methodLink RX2 56 arraycopyName) (by decide +kernel)) (hts (.native arraycopyName) (by decide +kernel)) (hts (.static arraycopyName) (by decide +kernel)) (hts (.initialized "java/lang/System") (by decide +kernel)) (Nat.le_of_ble_eq_true rfl) (Nat.le_of_ble_eq_true rfl) dX2_become_50 (fun H locs hP hS => ?_)
  refine x_nmw h hP (fun w_7 h hP => ?_)
  refine lv_aload_n hx hb dX2_become_53 rfl (lv_at hl 1 rfl) ?_
  refine x_get (rest := []) X hP (gC31 c3 ad w_7) rfl iwX2_become_X2 4 (by decide) lkX2_become_25 rfl dX2_become_54 ?_
  refine lv_iconst (v := 0) hx hb dX2_become_57 (by decide) ?_
  refine lv_aload_n hx hb dX2_become_58 rfl (lv_at hl 0 rfl) ?_
  refine x_get (rest := [.int 0, .ref (ad 34)]) X hP (gC23 c3 ad w_7) rfl iwX2_become_X2 4 (by decide) lkX2_become_25 rfl dX2_become_59 ?_
  refine lv_iconst (v := 0) hx hb dX2_become_62 (by decide) ?_
  refine lv_bipush (v := 6) hx hb dX2_become_63 (by decide) ?_
  refine x_copy X hP hS (gC34 c3 ad w_7) (gC26 c3 ad w_7) (tC26 c3 ad w_7 _) g_6 (by rw [hml]; exact hl.1.symm) (hts (.methodLink RX2 56 arraycopyName) (by decide +kernel)) (hts (.native arraycopyName) (by decide +kernel)) (hts (.static arraycopyName) (by decide +kernel)) (hts (.initialized "java/lang/System") (by decide +kernel)) (Nat.le_of_ble_eq_true rfl) (Nat.le_of_ble_eq_true rfl) dX2_become_65 (fun H locs hP hS => ?_)
  refine x_nmw h hP (fun w_8 h hP => ?_)
  refine lv_aload_n hx hb dX2_become_68 rfl (lv_at hl 1 rfl) ?_
  refine x_get (rest := []) X hP (gC31 c3 ad w_8) rfl iwX2_become_X2 5 (by decide) lkX2_become_28 rfl dX2_become_69 ?_
  refine lv_iconst (v := 0) hx hb dX2_become_72 (by decide) ?_
  refine lv_aload_n hx hb dX2_become_73 rfl (lv_at hl 0 rfl) ?_
  refine x_get (rest := [.int 0, .ref (ad 35)]) X hP (gC23 c3 ad w_8) rfl iwX2_become_X2 5 (by decide) lkX2_become_28 rfl dX2_become_74 ?_
  refine lv_iconst (v := 0) hx hb dX2_become_77 (by decide) ?_
  refine lv_bipush (v := 6) hx hb dX2_become_78 (by decide) ?_
  refine x_copy X hP hS (gC35 c3 ad w_8) (gC27 c3 ad w_8) (tC27 c3 ad w_8 _) g_6 (by rw [hml]; exact hl.1.symm) (hts (.methodLink RX2 56 arraycopyName) (by decide +kernel)) (hts (.native arraycopyName) (by decide +kernel)) (hts (.static arraycopyName) (by decide +kernel)) (hts (.initialized "java/lang/System") (by decide +kernel)) (Nat.le_of_ble_eq_true rfl) (Nat.le_of_ble_eq_true rfl) dX2_become_80 (fun H locs hP hS => ?_)
  refine x_nmw h hP (fun w_9 h hP => ?_)
  refine lv_aload_n hx hb dX2_become_83 rfl (lv_at hl 0 rfl) ?_
  refine lv_iconst (v := 0) hx hb dX2_become_84 (by decide) ?_
  obtain ⟨w_12, e_10, h⟩ := bo_s h
  refine x_gov X hS (x_runV (As := [.int 0]) (rest := []) X gC_ok hP hS (ctX2_goBackTo_23 l D c3 ad w_9 _ 0 _ e_10) (cwV 1 hts gX2_become_X2_goBackTo rfl rfl rfl (by decide +kernel) ⟨by decide, by decide⟩) (gC23 c3 ad w_9) rfl rfl rfl hl.1 rfl (Nat.le_of_ble_eq_true rfl) dX2_become_85) (fun H locs hP hS => ?_)
  obtain rfl := Option.some.inj h
  exact hret _ _ _ _ hP hS dX2_become_88
def fX2_become_23_31 (w : Mm) : Option (Mm) := fX2_become_23_31_E w
theorem ctX2_become_23_31 (l : Launch) (D : va_G) (c3 : C3) (ad : Nat → Nat) (w : Mm) (sz : Nat) (w' : Mm) (h : fX2_become_23_31 w = some w') : Cv l yX2_become wsX2_become rmX2_become_23_31 D c3 (encC c3 ad) gC [.ref (ad 23), .ref (ad 31)] w sz w' := by
  refine Cv.of (cc := cX2_become) (maxL := 2) (encC_ok c3 ad) (by decide) rfl (Nat.le_of_ble_eq_true rfl) ?_
  intro p e s m below meth c A Q ls X hret hP hS hl
  exact bX2_become_23_31_E X hret w _ _ ls hP hS hl h
theorem iwX7_family_X2 : ∀ w ∈ wsX20, w ∈ wsX7_family := fun _ h => List.mem_cons_of_mem _ (List.mem_append_right _ h)
theorem iwX7_family_X4 : ∀ w ∈ wsX40, w ∈ wsX7_family := fun _ h => List.mem_cons_of_mem _ (List.mem_append_left _ (List.mem_append_right _ h))
theorem iwX7_family_X5 : ∀ w ∈ wsX50, w ∈ wsX7_family := fun _ h => List.mem_cons_of_mem _ (List.mem_append_left _ (List.mem_append_left _ (List.mem_append_right _ h)))
theorem iwX7_family_X7 : ∀ w ∈ wsX70, w ∈ wsX7_family := fun _ h => List.mem_cons_of_mem _ (List.mem_append_left _ (List.mem_append_left _ (List.mem_append_left _ (List.mem_append_right _ h))))
theorem lkX7_family_18 : Cond.fieldLink RX7 18 "StuckDoor" "texts" "LStuckDoor$Rows;" ∈ wsX7_family := by decide +kernel
theorem lkX7_family_21 : Cond.fieldLink RX7 21 "StuckDoor" "kept" "LStuckDoor$Rows;" ∈ wsX7_family := by decide +kernel
theorem lkX7_family_27 : Cond.fieldLink RX7 27 "StuckDoor" "family" "LStuckDoor$Family;" ∈ wsX7_family := by decide +kernel
theorem lkX7_family_34 : Cond.fieldLink RX7 34 "StuckDoor" "reader" "LStuckDoor$Reader;" ∈ wsX7_family := by decide +kernel
theorem lkX7_family_86 : Cond.fieldLink RX7 86 "StuckDoor$Rows" "places" "[[I" ∈ wsX7_family := by decide +kernel
theorem lkX7_family_94 : Cond.fieldLink RX7 94 "StuckDoor$Rows" "sizes" "[I" ∈ wsX7_family := by decide +kernel
theorem lkX7_family_114 : Cond.fieldLink RX7 114 "StuckDoor$Reader" "draft" "LStuckDoor$Family;" ∈ wsX7_family := by decide +kernel
theorem lkX7_family_121 : Cond.fieldLink RX7 121 "StuckDoor$Family" "sayings" "I" ∈ wsX7_family := by decide +kernel
def rmX7_family : Room := { frames := 8, cells := 0, slots := 0, locals := 176 }
def fX7_family_65 : Nat → Int32 → Mm → Option (Int32 × Mm)
  | 0, _, _ => none
  | n + 1, x3, w => (if 3 ≤ x3 then some ((w.1 23 2), w) else gd (inb x3 3 = true) (nm (sA w 19 x3.toNatClampNeg (-1)) (fun w_3 => fX7_family_65 n (x3 + 1) w_3)))
set_option maxRecDepth 20000 in
theorem bX7_family_65 {p : Program} {l : Launch} {e : Env} {s : State} {m : MethodId} {args : Array Value} {below : List Frame} {meth : Method} {c : Code} {Q : State → Prop} {D : va_G} {c3 : C3} {ad : Nat → Nat} {A : Nat → Prop} {r : Int32} {w' : Mm} (X : Cx p s m args c cX7_family 4 RX7 wsX7_family D c3 (encC c3 ad) gC A) (hret : Ri p l e (rmX7_family) s m args below meth c Q cX7_family D (encC c3 ad) A r w') : ∀ (n : Nat) (x3 : Int32) (w : Mm) (H : Heap) (locs : List Loc) (ls : Array Slot), va_P D vwCl ((encC c3 ad) w) H → va_S A s.heap H locs → lv_has ls 4 [(0, .ref (ad 0)), (3, .int x3)] → fX7_family_65 n x3 w = some (r, w') → W p l e (rmX7_family) s m args below meth c H locs 0 0 Q (F0 m 65 ls []) := by
  have hx := X.1
  have hb := X.2.1
  have hml := X.2.2.1
  have hown := X.2.2.2.1
  have hts := X.2.2.2.2.1
  intro n
  induction n with
  | zero =>
    intro x3 w H locs ls hP hS hl h
    exact absurd h (by simp [fX7_family_65])
  | succ n ih =>
    intro x3 w H locs ls hP hS hl h
    rw [fX7_family_65] at h
    refine lv_iload_n hx hb dX7_family_65 rfl (lv_at hl 1 rfl) ?_
    refine lv_iconst (v := 3) hx hb dX7_family_66 (by decide) ?_
    refine lv_icmp_ge (tgt := 86) hx hb dX7_family_67 (by decide) (fun c_1 => ?_) (fun c_1 => ?_)
    · replace h := it_p c_1 h
      refine lv_aload_n hx hb dX7_family_86 rfl (lv_at hl 0 rfl) ?_
      refine x_get (rest := []) X hP (gC0 c3 ad w) rfl iwX7_family_X7 3 (by decide) lkX7_family_27 rfl dX7_family_87 ?_
      refine x_get (rest := []) X hP (gC23 c3 ad w) rfl iwX7_family_X2 2 (by decide) lkX7_family_121 rfl dX7_family_90 ?_
      obtain ⟨rfl, rfl⟩ := Prod.mk.inj (Option.some.inj h)
      exact hret _ _ _ _ hP hS dX7_family_93
    · replace h := it_n c_1 h
      refine lv_aload_n hx hb dX7_family_70 rfl (lv_at hl 0 rfl) ?_
      refine x_get (rest := []) X hP (gC0 c3 ad w) rfl iwX7_family_X7 2 (by decide) lkX7_family_21 rfl dX7_family_71 ?_
      refine x_get (rest := []) X hP (gC17 c3 ad w) rfl iwX7_family_X5 1 (by decide) lkX7_family_94 rfl dX7_family_74 ?_
      refine lv_iload_n hx hb dX7_family_77 rfl (lv_at hl 1 rfl) ?_
      refine lv_iconst (v := (-1)) hx hb dX7_family_78 (by decide) ?_
      obtain ⟨g_2, h⟩ := gd_s h
      refine x_iast X hP hS (gC19 c3 ad w) (sC19 c3 ad w _ _) g_2 dX7_family_79 (fun H locs hP hS => ?_)
      refine x_nmw h hP (fun w_3 h hP => ?_)
      refine lv_iinc (v := (x3 + 1)) (lv' := [(3, .int (x3 + 1)), (0, .ref (ad 0))]) hx hb dX7_family_80 hl (k := 1) rfl rfl (by decide) rfl (fun ls hl => ?_)
      refine lv_goto (tgt := 65) hx hb dX7_family_83 (by decide) ?_
      exact ih (x3 + 1) w_3 _ _ _ hP hS (lv_sub hl [1, 0] rfl) h
def fX7_family_E (x1 : Int32) (w : Mm) : Option (Int32 × Mm) := bd (fX7_refusalOfRow_0_10 x1 w) (fun r_5 w_6 => (if r_5 = 0 then gd (inb x1 4 = true) (bd (fX4_faultOf_30_T (13 + x1.toNatClampNeg) (w_6.1 12 x1.toNatClampNeg) w_6) (fun r_11 w_12 => (if r_11 = (-9) then bo (fX2_become_23_31 w_12) (fun w_16 => fX7_family_65 FU 0 w_16) else some ((-4), w_12)))) else some (r_5, w_6)))
set_option maxRecDepth 20000 in
theorem bX7_family_E {p : Program} {l : Launch} {e : Env} {s : State} {m : MethodId} {args : Array Value} {below : List Frame} {meth : Method} {c : Code} {Q : State → Prop} {D : va_G} {c3 : C3} {ad : Nat → Nat} {A : Nat → Prop} {r : Int32} {w' : Mm} (X : Cx p s m args c cX7_family 4 RX7 wsX7_family D c3 (encC c3 ad) gC A) (hret : Ri p l e (rmX7_family) s m args below meth c Q cX7_family D (encC c3 ad) A r w') : ∀ (x1 : Int32) (w : Mm) (H : Heap) (locs : List Loc) (ls : Array Slot), va_P D vwCl ((encC c3 ad) w) H → va_S A s.heap H locs → lv_has ls 4 [(0, .ref (ad 0)), (1, .int x1)] → fX7_family_E x1 w = some (r, w') → W p l e (rmX7_family) s m args below meth c H locs 0 0 Q (F0 m 0 ls []) := by
  have hx := X.1
  have hb := X.2.1
  have hml := X.2.2.1
  have hown := X.2.2.2.1
  have hts := X.2.2.2.2.1
  intro x1 w H locs ls hP hS hl h
  unfold fX7_family_E at h
  refine lv_aload_n hx hb dX7_family_0 rfl (lv_at hl 0 rfl) ?_
  refine lv_aload_n hx hb dX7_family_1 rfl (lv_at hl 0 rfl) ?_
  refine x_get (rest := [.ref (ad 0)]) X hP (gC0 c3 ad w) rfl iwX7_family_X7 1 (by decide) lkX7_family_18 rfl dX7_family_2 ?_
  refine lv_iload_n hx hb dX7_family_5 rfl (lv_at hl 1 rfl) ?_
  obtain ⟨r_5, w_6, e_4, h⟩ := bd_s h
  refine x_goi X hS (x_runV (As := [.ref (ad 10), .int x1]) (rest := []) X gC_ok hP hS (ctX7_refusalOfRow_0_10 l D c3 ad w _ x1 _ _ e_4) (cwV 2 hts gX7_family_X7_refusalOfRow rfl rfl rfl (by decide +kernel) ⟨by decide, by decide⟩) (gC0 c3 ad w) rfl rfl rfl hl.1 rfl (Nat.le_of_ble_eq_true rfl) dX7_family_6) (fun H locs hP hS => ?_)
  refine lv_istore_n (lv' := [(2, .int r_5), (0, .ref (ad 0)), (1, .int x1)]) hx hb dX7_family_9 rfl hl (by decide) rfl (fun ls hl => ?_)
  refine lv_iload_n hx hb dX7_family_10 rfl (lv_at hl 0 rfl) ?_
  refine lv_if_eq (tgt := 16) hx hb dX7_family_11 (by decide) (fun c_7 => ?_) (fun c_7 => ?_)
  · replace h := it_p c_7 h
    refine lv_aload_n hx hb dX7_family_16 rfl (lv_at hl 1 rfl) ?_
    refine x_get (rest := []) X hP (gC0 c3 ad w_6) rfl iwX7_family_X7 4 (by decide) lkX7_family_34 rfl dX7_family_17 ?_
    refine lv_aload_n hx hb dX7_family_20 rfl (lv_at hl 1 rfl) ?_
    refine x_get (rest := [.ref (ad 30)]) X hP (gC0 c3 ad w_6) rfl iwX7_family_X7 1 (by decide) lkX7_family_18 rfl dX7_family_21 ?_
    refine x_get (rest := [.ref (ad 30)]) X hP (gC10 c3 ad w_6) rfl iwX7_family_X5 0 (by decide) lkX7_family_86 rfl dX7_family_24 ?_
    refine lv_iload_n hx hb dX7_family_27 rfl (lv_at hl 2 rfl) ?_
    obtain ⟨g_8, h⟩ := gd_s h
    have q_9 := rgn 13 g_8
    refine x_aald (z := ad (13 + x1.toNatClampNeg)) X hP (gC11 c3 ad w_6) g_8 rfl dX7_family_28 ?_
    refine lv_aload_n hx hb dX7_family_29 rfl (lv_at hl 1 rfl) ?_
    refine x_get (rest := [.ref (ad (13 + x1.toNatClampNeg)), .ref (ad 30)]) X hP (gC0 c3 ad w_6) rfl iwX7_family_X7 1 (by decide) lkX7_family_18 rfl dX7_family_30 ?_
    refine x_get (rest := [.ref (ad (13 + x1.toNatClampNeg)), .ref (ad 30)]) X hP (gC10 c3 ad w_6) rfl iwX7_family_X5 1 (by decide) lkX7_family_94 rfl dX7_family_33 ?_
    refine lv_iload_n hx hb dX7_family_36 rfl (lv_at hl 2 rfl) ?_
    refine x_iald X hP (gC12 c3 ad w_6) g_8 dX7_family_37 ?_
    obtain ⟨r_11, w_12, e_10, h⟩ := bd_s h
    refine x_goi X hS (x_runV (As := [.ref (ad (13 + x1.toNatClampNeg)), .int (w_6.1 12 x1.toNatClampNeg)]) (rest := []) X gC_ok hP hS (ctX4_faultOf_30_T l D c3 ad w_6 _ (13 + x1.toNatClampNeg) (w_6.1 12 x1.toNatClampNeg) _ _ e_10) (cwV 2 hts gX7_family_X4_faultOf rfl rfl rfl (by decide +kernel) ⟨by decide, by decide⟩) (gC30 c3 ad w_6) rfl rfl rfl hl.1 rfl (Nat.le_of_ble_eq_true rfl) dX7_family_38) (fun H locs hP hS => ?_)
    refine lv_bipush (v := (-9)) hx hb dX7_family_41 (by decide) ?_
    refine lv_icmp_eq (tgt := 49) hx hb dX7_family_43 (by decide) (fun c_13 => ?_) (fun c_13 => ?_)
    · replace h := it_p c_13 h
      refine lv_aload_n hx hb dX7_family_49 rfl (lv_at hl 1 rfl) ?_
      refine x_get (rest := []) X hP (gC0 c3 ad w_12) rfl iwX7_family_X7 3 (by decide) lkX7_family_27 rfl dX7_family_50 ?_
      refine lv_aload_n hx hb dX7_family_53 rfl (lv_at hl 1 rfl) ?_
      refine x_get (rest := [.ref (ad 23)]) X hP (gC0 c3 ad w_12) rfl iwX7_family_X7 4 (by decide) lkX7_family_34 rfl dX7_family_54 ?_
      refine x_get (rest := [.ref (ad 23)]) X hP (gC30 c3 ad w_12) rfl iwX7_family_X4 0 (by decide) lkX7_family_114 rfl dX7_family_57 ?_
      obtain ⟨w_16, e_14, h⟩ := bo_s h
      refine x_gov X hS (x_runV (As := [.ref (ad 31)]) (rest := []) X gC_ok hP hS (ctX2_become_23_31 l D c3 ad w_12 _ _ e_14) (cwV 1 hts gX7_family_X2_become rfl rfl rfl (by decide +kernel) ⟨by decide, by decide⟩) (gC23 c3 ad w_12) rfl rfl rfl hl.1 rfl (Nat.le_of_ble_eq_true rfl) dX7_family_60) (fun H locs hP hS => ?_)
      refine lv_iconst (v := 0) hx hb dX7_family_63 (by decide) ?_
      refine lv_istore_n (lv' := [(3, .int 0), (2, .int r_5), (0, .ref (ad 0)), (1, .int x1)]) hx hb dX7_family_64 rfl hl (by decide) rfl (fun ls hl => ?_)
      exact bX7_family_65 X hret FU 0 w_16 _ _ _ hP hS (lv_sub hl [2, 0] rfl) h
    · replace h := it_n c_13 h
      refine lv_bipush (v := (-4)) hx hb dX7_family_46 (by decide) ?_
      obtain ⟨rfl, rfl⟩ := Prod.mk.inj (Option.some.inj h)
      exact hret _ _ _ _ hP hS dX7_family_48
  · replace h := it_n c_7 h
    refine lv_iload_n hx hb dX7_family_14 rfl (lv_at hl 0 rfl) ?_
    obtain ⟨rfl, rfl⟩ := Prod.mk.inj (Option.some.inj h)
    exact hret _ _ _ _ hP hS dX7_family_15
def fX7_family (x1 : Int32) (w : Mm) : Option (Int32 × Mm) := fX7_family_E x1 w
theorem ctX7_family (l : Launch) (D : va_G) (c3 : C3) (ad : Nat → Nat) (w : Mm) (sz : Nat) (x1 : Int32) (r : Int32) (w' : Mm) (h : fX7_family x1 w = some (r, w')) : Ci l yX7_family wsX7_family rmX7_family D c3 (encC c3 ad) gC [.ref (ad 0), .int x1] w sz r w' := by
  refine Ci.of (cc := cX7_family) (maxL := 4) (encC_ok c3 ad) (by decide) rfl (Nat.le_of_ble_eq_true rfl) ?_
  intro p e s m below meth c A Q ls X hret hP hS hl
  exact bX7_family_E X hret x1 w _ _ ls hP hS hl h
theorem iwX2_aspect_X2 : ∀ w ∈ wsX20, w ∈ wsX2_aspect := fun _ h => List.mem_cons_of_mem _ (List.mem_append_right _ h)
theorem lkX2_aspect_22 : Cond.fieldLink RX2 22 "StuckDoor$Family" "kind" "[I" ∈ wsX2_aspect := by decide +kernel
theorem lkX2_aspect_25 : Cond.fieldLink RX2 25 "StuckDoor$Family" "told" "[I" ∈ wsX2_aspect := by decide +kernel
theorem lkX2_aspect_28 : Cond.fieldLink RX2 28 "StuckDoor$Family" "topics" "[I" ∈ wsX2_aspect := by decide +kernel
theorem lkX2_aspect_43 : Cond.fieldLink RX2 43 "StuckDoor$Family" "said" "[I" ∈ wsX2_aspect := by decide +kernel
def rmX2_aspect_23 : Room := { frames := 3, cells := 0, slots := 0, locals := 65 }
def fX2_aspect_23_E (x1 : Int32) (x2 : Int32) (w : Mm) : Option (Int32) := (if x2 = 0 then gd (inb x1 6 = true) (some (w.1 25 x1.toNatClampNeg)) else (if x2 = 1 then gd (inb x1 6 = true) (some (w.1 26 x1.toNatClampNeg)) else (if x2 = 2 then bo (fX2_nearNow_23 x1 w) (fun r_7 => some r_7) else (if x2 = 3 then gd (inb x1 6 = true) (some (w.1 27 x1.toNatClampNeg)) else gd (inb x1 6 = true) (some (w.1 28 x1.toNatClampNeg))))))
set_option maxRecDepth 20000 in
theorem bX2_aspect_23_E {p : Program} {l : Launch} {e : Env} {s : State} {m : MethodId} {args : Array Value} {below : List Frame} {meth : Method} {c : Code} {Q : State → Prop} {D : va_G} {c3 : C3} {ad : Nat → Nat} {A : Nat → Prop} {r : Int32} {w : Mm} (X : Cx p s m args c cX2_aspect 3 RX2 wsX2_aspect D c3 (encC c3 ad) gC A) (hret : Ri p l e (rmX2_aspect_23) s m args below meth c Q cX2_aspect D (encC c3 ad) A r w) : ∀ (x1 : Int32) (x2 : Int32) (H : Heap) (locs : List Loc) (ls : Array Slot), va_P D vwCl ((encC c3 ad) w) H → va_S A s.heap H locs → lv_has ls 3 [(0, .ref (ad 23)), (1, .int x1), (2, .int x2)] → fX2_aspect_23_E x1 x2 w = some r → W p l e (rmX2_aspect_23) s m args below meth c H locs 0 0 Q (F0 m 0 ls []) := by
  have hx := X.1
  have hb := X.2.1
  have hml := X.2.2.1
  have hown := X.2.2.2.1
  have hts := X.2.2.2.2.1
  intro x1 x2 H locs ls hP hS hl h
  unfold fX2_aspect_23_E at h
  refine lv_iload_n hx hb dX2_aspect_0 rfl (lv_at hl 2 rfl) ?_
  by_cases c_1 : x2 = 0
  · replace h := it_p c_1 h
    refine lv_tableIn (off := 31) (tgt := 32) hx hb dX2_aspect_1 (by rw [c_1]; decide) (by rw [c_1]; decide) (by rw [c_1]; decide) (by decide) ?_
    refine lv_aload_n hx hb dX2_aspect_32 rfl (lv_at hl 0 rfl) ?_
    refine x_get (rest := []) X hP (gC23 c3 ad w) rfl iwX2_aspect_X2 3 (by decide) lkX2_aspect_22 rfl dX2_aspect_33 ?_
    refine lv_iload_n hx hb dX2_aspect_36 rfl (lv_at hl 1 rfl) ?_
    obtain ⟨g_2, h⟩ := gd_s h
    refine x_iald X hP (gC25 c3 ad w) g_2 dX2_aspect_37 ?_
    obtain rfl := Option.some.inj h
    exact hret _ _ _ _ hP hS dX2_aspect_38
  replace h := it_n c_1 h
  by_cases c_3 : x2 = 1
  · replace h := it_p c_3 h
    refine lv_tableIn (off := 38) (tgt := 39) hx hb dX2_aspect_1 (by rw [c_3]; decide) (by rw [c_3]; decide) (by rw [c_3]; decide) (by decide) ?_
    refine lv_aload_n hx hb dX2_aspect_39 rfl (lv_at hl 0 rfl) ?_
    refine x_get (rest := []) X hP (gC23 c3 ad w) rfl iwX2_aspect_X2 4 (by decide) lkX2_aspect_25 rfl dX2_aspect_40 ?_
    refine lv_iload_n hx hb dX2_aspect_43 rfl (lv_at hl 1 rfl) ?_
    obtain ⟨g_4, h⟩ := gd_s h
    refine x_iald X hP (gC26 c3 ad w) g_4 dX2_aspect_44 ?_
    obtain rfl := Option.some.inj h
    exact hret _ _ _ _ hP hS dX2_aspect_45
  replace h := it_n c_3 h
  by_cases c_5 : x2 = 2
  · replace h := it_p c_5 h
    refine lv_tableIn (off := 45) (tgt := 46) hx hb dX2_aspect_1 (by rw [c_5]; decide) (by rw [c_5]; decide) (by rw [c_5]; decide) (by decide) ?_
    refine lv_aload_n hx hb dX2_aspect_46 rfl (lv_at hl 0 rfl) ?_
    refine lv_iload_n hx hb dX2_aspect_47 rfl (lv_at hl 1 rfl) ?_
    obtain ⟨r_7, e_6, h⟩ := bo_s h
    refine x_goi X hS (x_runV (As := [.int x1]) (rest := []) X gC_ok hP hS (ctX2_nearNow_23 l D c3 ad w _ x1 _ e_6) (cwV 1 hts gX2_aspect_X2_nearNow rfl rfl rfl (by decide +kernel) ⟨by decide, by decide⟩) (gC23 c3 ad w) rfl rfl rfl hl.1 rfl (Nat.le_of_ble_eq_true rfl) dX2_aspect_48) (fun H locs hP hS => ?_)
    obtain rfl := Option.some.inj h
    exact hret _ _ _ _ hP hS dX2_aspect_51
  replace h := it_n c_5 h
  by_cases c_9 : x2 = 3
  · replace h := it_p c_9 h
    refine lv_tableIn (off := 51) (tgt := 52) hx hb dX2_aspect_1 (by rw [c_9]; decide) (by rw [c_9]; decide) (by rw [c_9]; decide) (by decide) ?_
    refine lv_aload_n hx hb dX2_aspect_52 rfl (lv_at hl 0 rfl) ?_
    refine x_get (rest := []) X hP (gC23 c3 ad w) rfl iwX2_aspect_X2 5 (by decide) lkX2_aspect_28 rfl dX2_aspect_53 ?_
    refine lv_iload_n hx hb dX2_aspect_56 rfl (lv_at hl 1 rfl) ?_
    obtain ⟨g_10, h⟩ := gd_s h
    refine x_iald X hP (gC27 c3 ad w) g_10 dX2_aspect_57 ?_
    obtain rfl := Option.some.inj h
    exact hret _ _ _ _ hP hS dX2_aspect_58
  replace h := it_n c_9 h
  refine lv_tableOut (tgt := 59) hx hb dX2_aspect_1 (by have := lv_neT c_1 (a := 0) rfl; have := lv_neT c_3 (a := 1) rfl; have := lv_neT c_5 (a := 2) rfl; have := lv_neT c_9 (a := 3) rfl; omega) (by decide) ?_
  refine lv_aload_n hx hb dX2_aspect_59 rfl (lv_at hl 0 rfl) ?_
  refine x_get (rest := []) X hP (gC23 c3 ad w) rfl iwX2_aspect_X2 10 (by decide) lkX2_aspect_43 rfl dX2_aspect_60 ?_
  refine lv_iload_n hx hb dX2_aspect_63 rfl (lv_at hl 1 rfl) ?_
  obtain ⟨g_11, h⟩ := gd_s h
  refine x_iald X hP (gC28 c3 ad w) g_11 dX2_aspect_64 ?_
  obtain rfl := Option.some.inj h
  exact hret _ _ _ _ hP hS dX2_aspect_65
def fX2_aspect_23 (x1 : Int32) (x2 : Int32) (w : Mm) : Option (Int32) := fX2_aspect_23_E x1 x2 w
theorem ctX2_aspect_23 (l : Launch) (D : va_G) (c3 : C3) (ad : Nat → Nat) (w : Mm) (sz : Nat) (x1 : Int32) (x2 : Int32) (r : Int32) (h : fX2_aspect_23 x1 x2 w = some r) : Ci l yX2_aspect wsX2_aspect rmX2_aspect_23 D c3 (encC c3 ad) gC [.ref (ad 23), .int x1, .int x2] w sz r w := by
  refine Ci.of (cc := cX2_aspect) (maxL := 3) (encC_ok c3 ad) (by decide) rfl (Nat.le_of_ble_eq_true rfl) ?_
  intro p e s m below meth c A Q ls X hret hP hS hl
  exact bX2_aspect_23_E X hret x1 x2 _ _ ls hP hS hl h
theorem iwX7_saying_X7 : ∀ w ∈ wsX70, w ∈ wsX7_saying := fun _ h => List.mem_cons_of_mem _ (List.mem_append_left _ (List.mem_append_right _ h))
theorem lkX7_saying_27 : Cond.fieldLink RX7 27 "StuckDoor" "family" "LStuckDoor$Family;" ∈ wsX7_saying := by decide +kernel
theorem lkX7_saying_60 : Cond.fieldLink RX7 60 "StuckDoor" "askedLast" "I" ∈ wsX7_saying := by decide +kernel
def rmX7_saying : Room := { frames := 4, cells := 0, slots := 0, locals := 87 }
def fX7_saying_E (x1 : Int32) (x2 : Int32) (w : Mm) : Option (Int32 × Mm) := bo (fX2_hasSaying_23 x1 w) (fun r_2 => (if r_2 = 0 then some ((-1), w) else (if x2 < 0 then some ((-1), w) else (if x2 ≤ 4 then bo (fX2_aspect_23 x1 x2 w) (fun r_8 => nm (sA w 0 9 r_8) (fun w_10 => some (1, w_10))) else some ((-1), w)))))
set_option maxRecDepth 20000 in
theorem bX7_saying_E {p : Program} {l : Launch} {e : Env} {s : State} {m : MethodId} {args : Array Value} {below : List Frame} {meth : Method} {c : Code} {Q : State → Prop} {D : va_G} {c3 : C3} {ad : Nat → Nat} {A : Nat → Prop} {r : Int32} {w' : Mm} (X : Cx p s m args c cX7_saying 3 RX7 wsX7_saying D c3 (encC c3 ad) gC A) (hret : Ri p l e (rmX7_saying) s m args below meth c Q cX7_saying D (encC c3 ad) A r w') : ∀ (x1 : Int32) (x2 : Int32) (w : Mm) (H : Heap) (locs : List Loc) (ls : Array Slot), va_P D vwCl ((encC c3 ad) w) H → va_S A s.heap H locs → lv_has ls 3 [(0, .ref (ad 0)), (1, .int x1), (2, .int x2)] → fX7_saying_E x1 x2 w = some (r, w') → W p l e (rmX7_saying) s m args below meth c H locs 0 0 Q (F0 m 0 ls []) := by
  have hx := X.1
  have hb := X.2.1
  have hml := X.2.2.1
  have hown := X.2.2.2.1
  have hts := X.2.2.2.2.1
  intro x1 x2 w H locs ls hP hS hl h
  unfold fX7_saying_E at h
  refine lv_aload_n hx hb dX7_saying_0 rfl (lv_at hl 0 rfl) ?_
  refine x_get (rest := []) X hP (gC0 c3 ad w) rfl iwX7_saying_X7 3 (by decide) lkX7_saying_27 rfl dX7_saying_1 ?_
  refine lv_iload_n hx hb dX7_saying_4 rfl (lv_at hl 1 rfl) ?_
  obtain ⟨r_2, e_1, h⟩ := bo_s h
  refine x_goi X hS (x_runV (As := [.int x1]) (rest := []) X gC_ok hP hS (ctX2_hasSaying_23 l D c3 ad w _ x1 _ e_1) (cwV 1 hts gX7_saying_X2_hasSaying rfl rfl rfl (by decide +kernel) ⟨by decide, by decide⟩) (gC23 c3 ad w) rfl rfl rfl hl.1 rfl (Nat.le_of_ble_eq_true rfl) dX7_saying_5) (fun H locs hP hS => ?_)
  refine lv_if_eq (tgt := 20) hx hb dX7_saying_8 (by decide) (fun c_4 => ?_) (fun c_4 => ?_)
  · replace h := it_p c_4 h
    refine lv_iconst (v := (-1)) hx hb dX7_saying_20 (by decide) ?_
    obtain ⟨rfl, rfl⟩ := Prod.mk.inj (Option.some.inj h)
    exact hret _ _ _ _ hP hS dX7_saying_21
  · replace h := it_n c_4 h
    refine lv_iload_n hx hb dX7_saying_11 rfl (lv_at hl 2 rfl) ?_
    refine lv_if_lt (tgt := 20) hx hb dX7_saying_12 (by decide) (fun c_5 => ?_) (fun c_5 => ?_)
    · replace h := it_p c_5 h
      refine lv_iconst (v := (-1)) hx hb dX7_saying_20 (by decide) ?_
      obtain ⟨rfl, rfl⟩ := Prod.mk.inj (Option.some.inj h)
      exact hret _ _ _ _ hP hS dX7_saying_21
    · replace h := it_n c_5 h
      refine lv_iload_n hx hb dX7_saying_15 rfl (lv_at hl 2 rfl) ?_
      refine lv_iconst (v := 4) hx hb dX7_saying_16 (by decide) ?_
      refine lv_icmp_le (tgt := 22) hx hb dX7_saying_17 (by decide) (fun c_6 => ?_) (fun c_6 => ?_)
      · replace h := it_p c_6 h
        refine lv_aload_n hx hb dX7_saying_22 rfl (lv_at hl 0 rfl) ?_
        refine lv_aload_n hx hb dX7_saying_23 rfl (lv_at hl 0 rfl) ?_
        refine x_get (rest := [.ref (ad 0)]) X hP (gC0 c3 ad w) rfl iwX7_saying_X7 3 (by decide) lkX7_saying_27 rfl dX7_saying_24 ?_
        refine lv_iload_n hx hb dX7_saying_27 rfl (lv_at hl 1 rfl) ?_
        refine lv_iload_n hx hb dX7_saying_28 rfl (lv_at hl 2 rfl) ?_
        obtain ⟨r_8, e_7, h⟩ := bo_s h
        refine x_goi X hS (x_runV (As := [.int x1, .int x2]) (rest := [.ref (ad 0)]) X gC_ok hP hS (ctX2_aspect_23 l D c3 ad w _ x1 x2 _ e_7) (cwV 2 hts gX7_saying_X2_aspect rfl rfl rfl (by decide +kernel) ⟨by decide, by decide⟩) (gC23 c3 ad w) rfl rfl rfl hl.1 rfl (Nat.le_of_ble_eq_true rfl) dX7_saying_29) (fun H locs hP hS => ?_)
        refine x_put (v := .int r_8) X hP hS (gC0 c3 ad w) rfl iwX7_saying_X7 tyX7 tyX7_ok nmX7 9 (by decide) lkX7_saying_60 rfl rfl rfl (Nat.le_of_ble_eq_true rfl) (pC0_9 c3 ad w r_8) dX7_saying_32 (fun H locs hP hS => ?_)
        refine x_nmw h hP (fun w_10 h hP => ?_)
        refine lv_iconst (v := 1) hx hb dX7_saying_35 (by decide) ?_
        obtain ⟨rfl, rfl⟩ := Prod.mk.inj (Option.some.inj h)
        exact hret _ _ _ _ hP hS dX7_saying_36
      · replace h := it_n c_6 h
        refine lv_iconst (v := (-1)) hx hb dX7_saying_20 (by decide) ?_
        obtain ⟨rfl, rfl⟩ := Prod.mk.inj (Option.some.inj h)
        exact hret _ _ _ _ hP hS dX7_saying_21
def fX7_saying (x1 : Int32) (x2 : Int32) (w : Mm) : Option (Int32 × Mm) := fX7_saying_E x1 x2 w
theorem ctX7_saying (l : Launch) (D : va_G) (c3 : C3) (ad : Nat → Nat) (w : Mm) (sz : Nat) (x1 : Int32) (x2 : Int32) (r : Int32) (w' : Mm) (h : fX7_saying x1 x2 w = some (r, w')) : Ci l yX7_saying wsX7_saying rmX7_saying D c3 (encC c3 ad) gC [.ref (ad 0), .int x1, .int x2] w sz r w' := by
  refine Ci.of (cc := cX7_saying) (maxL := 3) (encC_ok c3 ad) (by decide) rfl (Nat.le_of_ble_eq_true rfl) ?_
  intro p e s m below meth c A Q ls X hret hP hS hl
  exact bX7_saying_E X hret x1 x2 w _ _ ls hP hS hl h
theorem iwX2_isOfKind_X2 : ∀ w ∈ wsX20, w ∈ wsX2_isOfKind := fun _ h => List.mem_cons_of_mem _ (List.mem_append_right _ h)
theorem lkX2_isOfKind_22 : Cond.fieldLink RX2 22 "StuckDoor$Family" "kind" "[I" ∈ wsX2_isOfKind := by decide +kernel
def rmX2_isOfKind_23 : Room := { frames := 0, cells := 0, slots := 0, locals := 0 }
def fX2_isOfKind_23_24 (w : Mm) : Option (Int32) := some 1
set_option maxRecDepth 20000 in
theorem bX2_isOfKind_23_24 {p : Program} {l : Launch} {e : Env} {s : State} {m : MethodId} {args : Array Value} {below : List Frame} {meth : Method} {c : Code} {Q : State → Prop} {D : va_G} {c3 : C3} {ad : Nat → Nat} {A : Nat → Prop} {r : Int32} {w : Mm} (X : Cx p s m args c cX2_isOfKind 3 RX2 wsX2_isOfKind D c3 (encC c3 ad) gC A) (hret : Rz p l e (rmX2_isOfKind_23) s m args below meth c Q cX2_isOfKind D (encC c3 ad) A r w) : ∀ (H : Heap) (locs : List Loc) (ls : Array Slot), va_P D vwCl ((encC c3 ad) w) H → va_S A s.heap H locs → lv_has ls 3 [] → fX2_isOfKind_23_24 w = some r → W p l e (rmX2_isOfKind_23) s m args below meth c H locs 0 0 Q (F0 m 24 ls []) := by
  have hx := X.1
  have hb := X.2.1
  have hml := X.2.2.1
  have hown := X.2.2.2.1
  have hts := X.2.2.2.2.1
  intro H locs ls hP hS hl h
  unfold fX2_isOfKind_23_24 at h
  refine lv_iconst (v := 1) hx hb dX2_isOfKind_24 (by decide) ?_
  refine lv_goto (tgt := 29) hx hb dX2_isOfKind_25 (by decide) ?_
  obtain rfl := Option.some.inj h
  exact hret (Or.inr rfl) _ _ _ _ hP hS dX2_isOfKind_29
def fX2_isOfKind_23_E (x1 : Int32) (x2 : Int32) (w : Mm) : Option (Int32) := gd (inb x1 6 = true) ((if (w.1 25 x1.toNatClampNeg) = x2 then fX2_isOfKind_23_24 w else gd (inb (w.1 25 x1.toNatClampNeg) 6 = true) ((if (stP (w.1 25 x1.toNatClampNeg).toNatClampNeg) = x2 then fX2_isOfKind_23_24 w else some 0))))
set_option maxRecDepth 20000 in
theorem bX2_isOfKind_23_E {p : Program} {l : Launch} {e : Env} {s : State} {m : MethodId} {args : Array Value} {below : List Frame} {meth : Method} {c : Code} {Q : State → Prop} {D : va_G} {c3 : C3} {ad : Nat → Nat} {A : Nat → Prop} {r : Int32} {w : Mm} (X : Cx p s m args c cX2_isOfKind 3 RX2 wsX2_isOfKind D c3 (encC c3 ad) gC A) (hret : Rz p l e (rmX2_isOfKind_23) s m args below meth c Q cX2_isOfKind D (encC c3 ad) A r w) : ∀ (x1 : Int32) (x2 : Int32) (H : Heap) (locs : List Loc) (ls : Array Slot), va_P D vwCl ((encC c3 ad) w) H → va_S A s.heap H locs → lv_has ls 3 [(0, .ref (ad 23)), (1, .int x1), (2, .int x2)] → fX2_isOfKind_23_E x1 x2 w = some r → W p l e (rmX2_isOfKind_23) s m args below meth c H locs 0 0 Q (F0 m 0 ls []) := by
  have hx := X.1
  have hb := X.2.1
  have hml := X.2.2.1
  have hown := X.2.2.2.1
  have hts := X.2.2.2.2.1
  intro x1 x2 H locs ls hP hS hl h
  unfold fX2_isOfKind_23_E at h
  refine lv_aload_n hx hb dX2_isOfKind_0 rfl (lv_at hl 0 rfl) ?_
  refine x_get (rest := []) X hP (gC23 c3 ad w) rfl iwX2_isOfKind_X2 3 (by decide) lkX2_isOfKind_22 rfl dX2_isOfKind_1 ?_
  refine lv_iload_n hx hb dX2_isOfKind_4 rfl (lv_at hl 1 rfl) ?_
  obtain ⟨g_1, h⟩ := gd_s h
  refine x_iald X hP (gC25 c3 ad w) g_1 dX2_isOfKind_5 ?_
  refine lv_iload_n hx hb dX2_isOfKind_6 rfl (lv_at hl 2 rfl) ?_
  refine lv_icmp_eq (tgt := 24) hx hb dX2_isOfKind_7 (by decide) (fun c_2 => ?_) (fun c_2 => ?_)
  · replace h := it_p c_2 h
    exact bX2_isOfKind_23_24 X hret _ _ _ hP hS (lv_sub hl [] rfl) h
  · replace h := it_n c_2 h
    obtain ⟨tl, tp, hZl, hTl, hZp, hTp, hNl, hNp, hNw⟩ := X.2.2.2.2.2.2.2.2
    refine va_getsN (ref := "StuckDoor") (host := "StuckDoor") hx hb hZp hS hown (va_Nw.use rfl hNp) (fun _ h => h) dX2_isOfKind_10 ?_
    refine lv_aload_n hx hb dX2_isOfKind_13 rfl (lv_at hl 0 rfl) ?_
    refine x_get (rest := [.ref tp]) X hP (gC23 c3 ad w) rfl iwX2_isOfKind_X2 3 (by decide) lkX2_isOfKind_22 rfl dX2_isOfKind_14 ?_
    refine lv_iload_n hx hb dX2_isOfKind_17 rfl (lv_at hl 1 rfl) ?_
    refine x_iald X hP (gC25 c3 ad w) g_1 dX2_isOfKind_18 ?_
    obtain ⟨g_3, h⟩ := gd_s h
    refine va_ti (v := .int (stP (w.1 25 x1.toNatClampNeg).toNatClampNeg)) hx hb hTp hS (inb_vp g_3) rfl dX2_isOfKind_19 ?_
    refine lv_iload_n hx hb dX2_isOfKind_20 rfl (lv_at hl 2 rfl) ?_
    refine lv_icmp_ne (tgt := 28) hx hb dX2_isOfKind_21 (by decide) (fun c_4 => ?_) (fun c_4 => ?_)
    · replace h := it_n c_4 h
      refine lv_iconst (v := 0) hx hb dX2_isOfKind_28 (by decide) ?_
      obtain rfl := Option.some.inj h
      exact hret (Or.inl rfl) _ _ _ _ hP hS dX2_isOfKind_29
    · replace h := it_p c_4 h
      exact bX2_isOfKind_23_24 X hret _ _ _ hP hS (lv_sub hl [] rfl) h
def fX2_isOfKind_23 (x1 : Int32) (x2 : Int32) (w : Mm) : Option (Int32) := fX2_isOfKind_23_E x1 x2 w
theorem ctX2_isOfKind_23 (l : Launch) (D : va_G) (c3 : C3) (ad : Nat → Nat) (w : Mm) (sz : Nat) (x1 : Int32) (x2 : Int32) (r : Int32) (h : fX2_isOfKind_23 x1 x2 w = some r) : Ci l yX2_isOfKind wsX2_isOfKind rmX2_isOfKind_23 D c3 (encC c3 ad) gC [.ref (ad 23), .int x1, .int x2] w sz r w := by
  refine Ci.ofz (cc := cX2_isOfKind) (maxL := 3) (encC_ok c3 ad) (by decide) rfl (Nat.le_of_ble_eq_true rfl) ?_
  intro p e s m below meth c A Q ls X hret hP hS hl
  exact bX2_isOfKind_23_E X hret x1 x2 _ _ ls hP hS hl h
theorem iwX2_isAnyOver_X2 : ∀ w ∈ wsX20, w ∈ wsX2_isAnyOver := fun _ h => List.mem_cons_of_mem _ (List.mem_append_right _ h)
theorem lkX2_isAnyOver_40 : Cond.fieldLink RX2 40 "StuckDoor$Family" "whoIsOver" "I" ∈ wsX2_isAnyOver := by decide +kernel
def rmX2_isAnyOver_23 : Room := { frames := 0, cells := 0, slots := 0, locals := 0 }
def fX2_isAnyOver_23_E (w : Mm) : Option (Int32) := (if (w.1 23 9) = (-9) then some 0 else some 1)
set_option maxRecDepth 20000 in
theorem bX2_isAnyOver_23_E {p : Program} {l : Launch} {e : Env} {s : State} {m : MethodId} {args : Array Value} {below : List Frame} {meth : Method} {c : Code} {Q : State → Prop} {D : va_G} {c3 : C3} {ad : Nat → Nat} {A : Nat → Prop} {r : Int32} {w : Mm} (X : Cx p s m args c cX2_isAnyOver 1 RX2 wsX2_isAnyOver D c3 (encC c3 ad) gC A) (hret : Rz p l e (rmX2_isAnyOver_23) s m args below meth c Q cX2_isAnyOver D (encC c3 ad) A r w) : ∀ (H : Heap) (locs : List Loc) (ls : Array Slot), va_P D vwCl ((encC c3 ad) w) H → va_S A s.heap H locs → lv_has ls 1 [(0, .ref (ad 23))] → fX2_isAnyOver_23_E w = some r → W p l e (rmX2_isAnyOver_23) s m args below meth c H locs 0 0 Q (F0 m 0 ls []) := by
  have hx := X.1
  have hb := X.2.1
  have hml := X.2.2.1
  have hown := X.2.2.2.1
  have hts := X.2.2.2.2.1
  intro H locs ls hP hS hl h
  unfold fX2_isAnyOver_23_E at h
  refine lv_aload_n hx hb dX2_isAnyOver_0 rfl (lv_at hl 0 rfl) ?_
  refine x_get (rest := []) X hP (gC23 c3 ad w) rfl iwX2_isAnyOver_X2 9 (by decide) lkX2_isAnyOver_40 rfl dX2_isAnyOver_1 ?_
  refine lv_bipush (v := (-9)) hx hb dX2_isAnyOver_4 (by decide) ?_
  refine lv_icmp_eq (tgt := 13) hx hb dX2_isAnyOver_6 (by decide) (fun c_1 => ?_) (fun c_1 => ?_)
  · replace h := it_p c_1 h
    refine lv_iconst (v := 0) hx hb dX2_isAnyOver_13 (by decide) ?_
    obtain rfl := Option.some.inj h
    exact hret (Or.inl rfl) _ _ _ _ hP hS dX2_isAnyOver_14
  · replace h := it_n c_1 h
    refine lv_iconst (v := 1) hx hb dX2_isAnyOver_9 (by decide) ?_
    refine lv_goto (tgt := 14) hx hb dX2_isAnyOver_10 (by decide) ?_
    obtain rfl := Option.some.inj h
    exact hret (Or.inr rfl) _ _ _ _ hP hS dX2_isAnyOver_14
def fX2_isAnyOver_23 (w : Mm) : Option (Int32) := fX2_isAnyOver_23_E w
theorem ctX2_isAnyOver_23 (l : Launch) (D : va_G) (c3 : C3) (ad : Nat → Nat) (w : Mm) (sz : Nat) (r : Int32) (h : fX2_isAnyOver_23 w = some r) : Ci l yX2_isAnyOver wsX2_isAnyOver rmX2_isAnyOver_23 D c3 (encC c3 ad) gC [.ref (ad 23)] w sz r w := by
  refine Ci.ofz (cc := cX2_isAnyOver) (maxL := 1) (encC_ok c3 ad) (by decide) rfl (Nat.le_of_ble_eq_true rfl) ?_
  intro p e s m below meth c A Q ls X hret hP hS hl
  exact bX2_isAnyOver_23_E X hret _ _ ls hP hS hl h
theorem iwX2_bearsSaying_X2 : ∀ w ∈ wsX20, w ∈ wsX2_bearsSaying := fun _ h => List.mem_cons_of_mem _ (List.mem_append_right _ h)
theorem lkX2_bearsSaying_15 : Cond.fieldLink RX2 15 "StuckDoor$Family" "bearing" "[I" ∈ wsX2_bearsSaying := by decide +kernel
theorem lkX2_bearsSaying_34 : Cond.fieldLink RX2 34 "StuckDoor$Family" "strain" "I" ∈ wsX2_bearsSaying := by decide +kernel
def rmX2_bearsSaying_23 : Room := { frames := 3, cells := 0, slots := 0, locals := 65 }
def fX2_bearsSaying_23_E (x1 : Int32) (x2 : Int32) (w : Mm) : Option (Int32) := bo (fX2_nearNow_23 x2 w) (fun r_2 => gd (inb x1 4 = true) ((if (w.1 24 x1.toNatClampNeg) < ((w.1 23 7) + r_2) then some 0 else some 1)))
set_option maxRecDepth 20000 in
theorem bX2_bearsSaying_23_E {p : Program} {l : Launch} {e : Env} {s : State} {m : MethodId} {args : Array Value} {below : List Frame} {meth : Method} {c : Code} {Q : State → Prop} {D : va_G} {c3 : C3} {ad : Nat → Nat} {A : Nat → Prop} {r : Int32} {w : Mm} (X : Cx p s m args c cX2_bearsSaying 3 RX2 wsX2_bearsSaying D c3 (encC c3 ad) gC A) (hret : Rz p l e (rmX2_bearsSaying_23) s m args below meth c Q cX2_bearsSaying D (encC c3 ad) A r w) : ∀ (x1 : Int32) (x2 : Int32) (H : Heap) (locs : List Loc) (ls : Array Slot), va_P D vwCl ((encC c3 ad) w) H → va_S A s.heap H locs → lv_has ls 3 [(0, .ref (ad 23)), (1, .int x1), (2, .int x2)] → fX2_bearsSaying_23_E x1 x2 w = some r → W p l e (rmX2_bearsSaying_23) s m args below meth c H locs 0 0 Q (F0 m 0 ls []) := by
  have hx := X.1
  have hb := X.2.1
  have hml := X.2.2.1
  have hown := X.2.2.2.1
  have hts := X.2.2.2.2.1
  intro x1 x2 H locs ls hP hS hl h
  unfold fX2_bearsSaying_23_E at h
  refine lv_aload_n hx hb dX2_bearsSaying_0 rfl (lv_at hl 0 rfl) ?_
  refine x_get (rest := []) X hP (gC23 c3 ad w) rfl iwX2_bearsSaying_X2 7 (by decide) lkX2_bearsSaying_34 rfl dX2_bearsSaying_1 ?_
  refine lv_aload_n hx hb dX2_bearsSaying_4 rfl (lv_at hl 0 rfl) ?_
  refine lv_iload_n hx hb dX2_bearsSaying_5 rfl (lv_at hl 2 rfl) ?_
  obtain ⟨r_2, e_1, h⟩ := bo_s h
  refine x_goi X hS (x_runV (As := [.int x2]) (rest := [.int (w.1 23 7)]) X gC_ok hP hS (ctX2_nearNow_23 l D c3 ad w _ x2 _ e_1) (cwV 1 hts gX2_bearsSaying_X2_nearNow rfl rfl rfl (by decide +kernel) ⟨by decide, by decide⟩) (gC23 c3 ad w) rfl rfl rfl hl.1 rfl (Nat.le_of_ble_eq_true rfl) dX2_bearsSaying_6) (fun H locs hP hS => ?_)
  refine lv_iadd hx hb dX2_bearsSaying_9 ?_
  refine lv_aload_n hx hb dX2_bearsSaying_10 rfl (lv_at hl 0 rfl) ?_
  refine x_get (rest := [.int ((w.1 23 7) + r_2)]) X hP (gC23 c3 ad w) rfl iwX2_bearsSaying_X2 1 (by decide) lkX2_bearsSaying_15 rfl dX2_bearsSaying_11 ?_
  refine lv_iload_n hx hb dX2_bearsSaying_14 rfl (lv_at hl 1 rfl) ?_
  obtain ⟨g_4, h⟩ := gd_s h
  refine x_iald X hP (gC24 c3 ad w) g_4 dX2_bearsSaying_15 ?_
  refine lv_icmp_gt (tgt := 23) hx hb dX2_bearsSaying_16 (by decide) (fun c_5 => ?_) (fun c_5 => ?_)
  · replace h := it_p c_5 h
    refine lv_iconst (v := 0) hx hb dX2_bearsSaying_23 (by decide) ?_
    obtain rfl := Option.some.inj h
    exact hret (Or.inl rfl) _ _ _ _ hP hS dX2_bearsSaying_24
  · replace h := it_n c_5 h
    refine lv_iconst (v := 1) hx hb dX2_bearsSaying_19 (by decide) ?_
    refine lv_goto (tgt := 24) hx hb dX2_bearsSaying_20 (by decide) ?_
    obtain rfl := Option.some.inj h
    exact hret (Or.inr rfl) _ _ _ _ hP hS dX2_bearsSaying_24
def fX2_bearsSaying_23 (x1 : Int32) (x2 : Int32) (w : Mm) : Option (Int32) := fX2_bearsSaying_23_E x1 x2 w
theorem ctX2_bearsSaying_23 (l : Launch) (D : va_G) (c3 : C3) (ad : Nat → Nat) (w : Mm) (sz : Nat) (x1 : Int32) (x2 : Int32) (r : Int32) (h : fX2_bearsSaying_23 x1 x2 w = some r) : Ci l yX2_bearsSaying wsX2_bearsSaying rmX2_bearsSaying_23 D c3 (encC c3 ad) gC [.ref (ad 23), .int x1, .int x2] w sz r w := by
  refine Ci.ofz (cc := cX2_bearsSaying) (maxL := 3) (encC_ok c3 ad) (by decide) rfl (Nat.le_of_ble_eq_true rfl) ?_
  intro p e s m below meth c A Q ls X hret hP hS hl
  exact bX2_bearsSaying_23_E X hret x1 x2 _ _ ls hP hS hl h

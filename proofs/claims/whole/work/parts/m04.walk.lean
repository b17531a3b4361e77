theorem iwX8_bearsIt_X8 : ∀ w ∈ wsX80, w ∈ wsX8_bearsIt := fun _ h => List.mem_cons_of_mem _ (List.mem_append_right _ h)
theorem lkX8_bearsIt_7 : Cond.fieldLink RX8 7 "StuckDoorModel" "row" "[I" ∈ wsX8_bearsIt := by decide +kernel
theorem lkX8_bearsIt_13 : Cond.fieldLink RX8 13 "StuckDoorModel" "bears" "[I" ∈ wsX8_bearsIt := by decide +kernel
def rmX8_bearsIt : Room := { frames := 3, cells := 0, slots := 0, locals := 64 }
def fX8_bearsIt_E (x1 : Int32) (x2 : Int32) (w : Mm) : Option (Int32) := bo (fX8_nearOf 0 x2 w) (fun r_2 => gd (inb x1 4 = true) ((if (w.1 2 x1.toNatClampNeg) < ((w.1 1 2) + r_2) then some 0 else some 1)))
set_option maxRecDepth 20000 in
theorem bX8_bearsIt_E {p : Program} {l : Launch} {e : Env} {s : State} {m : MethodId} {args : Array Value} {below : List Frame} {meth : Method} {c : Code} {Q : State → Prop} {D : va_G} {c3 : C3} {ad : Nat → Nat} {A : Nat → Prop} {r : Int32} {w : Mm} (X : Cx p s m args c cX8_bearsIt 3 RX8 wsX8_bearsIt D c3 (encM c3 ad) gM A) (hret : Rz p l e (rmX8_bearsIt) s m args below meth c Q cX8_bearsIt D (encM c3 ad) A r w) : ∀ (x1 : Int32) (x2 : Int32) (H : Heap) (locs : List Loc) (ls : Array Slot), va_P D vwCl ((encM c3 ad) w) H → va_S A s.heap H locs → lv_has ls 3 [(0, .ref (ad 0)), (1, .int x1), (2, .int x2)] → fX8_bearsIt_E x1 x2 w = some r → W p l e (rmX8_bearsIt) s m args below meth c H locs 0 0 Q (F0 m 0 ls []) := by
  have hx := X.1
  have hb := X.2.1
  have hml := X.2.2.1
  have hown := X.2.2.2.1
  have hts := X.2.2.2.2.1
  intro x1 x2 H locs ls hP hS hl h
  unfold fX8_bearsIt_E at h
  refine lv_aload_n hx hb dX8_bearsIt_0 rfl (lv_at hl 0 rfl) ?_
  refine x_get (rest := []) X hP (gM0 c3 ad w) rfl iwX8_bearsIt_X8 0 (by decide) lkX8_bearsIt_7 rfl dX8_bearsIt_1 ?_
  refine lv_iconst (v := 2) hx hb dX8_bearsIt_4 (by decide) ?_
  refine x_ialdL (j := 2) X hP (gM1 c3 ad w) (by decide) rfl dX8_bearsIt_5 ?_
  refine lv_aload_n hx hb dX8_bearsIt_6 rfl (lv_at hl 0 rfl) ?_
  refine lv_iconst (v := 0) hx hb dX8_bearsIt_7 (by decide) ?_
  refine lv_iload_n hx hb dX8_bearsIt_8 rfl (lv_at hl 2 rfl) ?_
  obtain ⟨r_2, e_1, h⟩ := bo_s h
  refine x_goi X hS (x_runV (As := [.int 0, .int x2]) (rest := [.int (w.1 1 2)]) X gM_ok hP hS (ctX8_nearOf l D c3 ad w _ 0 x2 _ e_1) (cwV 2 hts gX8_bearsIt_X8_nearOf rfl rfl rfl (by decide +kernel) ⟨by decide, by decide⟩) (gM0 c3 ad w) rfl rfl rfl hl.1 rfl (Nat.le_of_ble_eq_true rfl) dX8_bearsIt_9) (fun H locs hP hS => ?_)
  refine lv_iadd hx hb dX8_bearsIt_12 ?_
  refine lv_aload_n hx hb dX8_bearsIt_13 rfl (lv_at hl 0 rfl) ?_
  refine x_get (rest := [.int ((w.1 1 2) + r_2)]) X hP (gM0 c3 ad w) rfl iwX8_bearsIt_X8 2 (by decide) lkX8_bearsIt_13 rfl dX8_bearsIt_14 ?_
  refine lv_iload_n hx hb dX8_bearsIt_17 rfl (lv_at hl 1 rfl) ?_
  obtain ⟨g_4, h⟩ := gd_s h
  refine x_iald X hP (gM2 c3 ad w) g_4 dX8_bearsIt_18 ?_
  refine lv_icmp_gt (tgt := 26) hx hb dX8_bearsIt_19 (by decide) (fun c_5 => ?_) (fun c_5 => ?_)
  · replace h := it_p c_5 h
    refine lv_iconst (v := 0) hx hb dX8_bearsIt_26 (by decide) ?_
    obtain rfl := Option.some.inj h
    exact hret (Or.inl rfl) _ _ _ _ hP hS dX8_bearsIt_27
  · replace h := it_n c_5 h
    refine lv_iconst (v := 1) hx hb dX8_bearsIt_22 (by decide) ?_
    refine lv_goto (tgt := 27) hx hb dX8_bearsIt_23 (by decide) ?_
    obtain rfl := Option.some.inj h
    exact hret (Or.inr rfl) _ _ _ _ hP hS dX8_bearsIt_27
def fX8_bearsIt (x1 : Int32) (x2 : Int32) (w : Mm) : Option (Int32) := fX8_bearsIt_E x1 x2 w
theorem ctX8_bearsIt (l : Launch) (D : va_G) (c3 : C3) (ad : Nat → Nat) (w : Mm) (sz : Nat) (x1 : Int32) (x2 : Int32) (r : Int32) (h : fX8_bearsIt x1 x2 w = some r) : Ci l yX8_bearsIt wsX8_bearsIt rmX8_bearsIt D c3 (encM c3 ad) gM [.ref (ad 0), .int x1, .int x2] w sz r w := by
  refine Ci.ofz (cc := cX8_bearsIt) (maxL := 3) (encM_ok c3 ad) (by decide) rfl (Nat.le_of_ble_eq_true rfl) ?_
  intro p e s m below meth c A Q ls X hret hP hS hl
  exact bX8_bearsIt_E X hret x1 x2 _ _ ls hP hS hl h
theorem iwX8_overOf_X8 : ∀ w ∈ wsX80, w ∈ wsX8_overOf := fun _ h => List.mem_cons_of_mem _ (List.mem_append_right _ h)
theorem lkX8_overOf_164 : Cond.fieldLink RX8 164 "StuckDoorModel" "people" "I" ∈ wsX8_overOf := by decide +kernel
def rmX8_overOf : Room := { frames := 4, cells := 0, slots := 0, locals := 86 }
def fX8_overOf_36 (k4 : Int32 → Int32 → Option (Int32)) (x1 : Int32) (x3 : Int32) (z0 : Int32) (z1 : Int32) (w : Mm) : Option (Int32) := nm (z1 ||| z0) (fun x2_1 => k4 x2_1 (x3 + 1))
set_option maxRecDepth 20000 in
theorem bX8_overOf_36 {p : Program} {l : Launch} {e : Env} {s : State} {m : MethodId} {args : Array Value} {below : List Frame} {meth : Method} {c : Code} {Q : State → Prop} {D : va_G} {c3 : C3} {ad : Nat → Nat} {A : Nat → Prop} {r : Int32} {w : Mm} (X : Cx p s m args c cX8_overOf 4 RX8 wsX8_overOf D c3 (encM c3 ad) gM A) (hret : Ri p l e (rmX8_overOf) s m args below meth c Q cX8_overOf D (encM c3 ad) A r w) {x1 : Int32} {k4 : Int32 → Int32 → Option (Int32)} (hk4 : ∀ (x2 : Int32) (x3 : Int32) (H : Heap) (locs : List Loc) (ls : Array Slot), va_P D vwCl ((encM c3 ad) w) H → va_S A s.heap H locs → lv_has ls 4 [(0, .ref (ad 0)), (1, .int x1), (2, .int x2), (3, .int x3)] → k4 x2 x3 = some r → W p l e (rmX8_overOf) s m args below meth c H locs 0 0 Q (F0 m 4 ls [])) : ∀ (x3 : Int32) (z0 : Int32) (z1 : Int32) (H : Heap) (locs : List Loc) (ls : Array Slot), va_P D vwCl ((encM c3 ad) w) H → va_S A s.heap H locs → lv_has ls 4 [(0, .ref (ad 0)), (1, .int x1), (3, .int x3)] → fX8_overOf_36 k4 x1 x3 z0 z1 w = some r → W p l e (rmX8_overOf) s m args below meth c H locs 0 0 Q (F0 m 36 ls [.int z0, .int z1]) := by
  have hx := X.1
  have hb := X.2.1
  have hml := X.2.2.1
  have hown := X.2.2.2.1
  have hts := X.2.2.2.2.1
  intro x3 z0 z1 H locs ls hP hS hl h
  unfold fX8_overOf_36 at h
  refine lv_ior hx hb dX8_overOf_36 ?_
  refine x_nmi h (fun x2_1 h => ?_)
  refine lv_istore_n (lv' := [(2, .int x2_1), (0, .ref (ad 0)), (1, .int x1), (3, .int x3)]) hx hb dX8_overOf_37 rfl hl (by decide) rfl (fun ls hl => ?_)
  refine lv_iinc (v := (x3 + 1)) (lv' := [(3, .int (x3 + 1)), (2, .int x2_1), (0, .ref (ad 0)), (1, .int x1)]) hx hb dX8_overOf_38 hl (k := 3) rfl rfl (by decide) rfl (fun ls hl => ?_)
  refine lv_goto (tgt := 4) hx hb dX8_overOf_41 (by decide) ?_
  exact hk4 x2_1 (x3 + 1) _ _ _ hP hS (lv_sub hl [2, 3, 1, 0] rfl) h
def fX8_overOf_29 (k4 : Int32 → Int32 → Option (Int32)) (x1 : Int32) (x3 : Int32) (z0 : Int32) (w : Mm) : Option (Int32) := fX8_overOf_36 k4 x1 x3 0 z0 w
set_option maxRecDepth 20000 in
theorem bX8_overOf_29 {p : Program} {l : Launch} {e : Env} {s : State} {m : MethodId} {args : Array Value} {below : List Frame} {meth : Method} {c : Code} {Q : State → Prop} {D : va_G} {c3 : C3} {ad : Nat → Nat} {A : Nat → Prop} {r : Int32} {w : Mm} (X : Cx p s m args c cX8_overOf 4 RX8 wsX8_overOf D c3 (encM c3 ad) gM A) (hret : Ri p l e (rmX8_overOf) s m args below meth c Q cX8_overOf D (encM c3 ad) A r w) {x1 : Int32} {k4 : Int32 → Int32 → Option (Int32)} (hk4 : ∀ (x2 : Int32) (x3 : Int32) (H : Heap) (locs : List Loc) (ls : Array Slot), va_P D vwCl ((encM c3 ad) w) H → va_S A s.heap H locs → lv_has ls 4 [(0, .ref (ad 0)), (1, .int x1), (2, .int x2), (3, .int x3)] → k4 x2 x3 = some r → W p l e (rmX8_overOf) s m args below meth c H locs 0 0 Q (F0 m 4 ls [])) : ∀ (x3 : Int32) (z0 : Int32) (H : Heap) (locs : List Loc) (ls : Array Slot), va_P D vwCl ((encM c3 ad) w) H → va_S A s.heap H locs → lv_has ls 4 [(0, .ref (ad 0)), (1, .int x1), (3, .int x3)] → fX8_overOf_29 k4 x1 x3 z0 w = some r → W p l e (rmX8_overOf) s m args below meth c H locs 0 0 Q (F0 m 29 ls [.int z0]) := by
  have hx := X.1
  have hb := X.2.1
  have hml := X.2.2.1
  have hown := X.2.2.2.1
  have hts := X.2.2.2.2.1
  intro x3 z0 H locs ls hP hS hl h
  unfold fX8_overOf_29 at h
  refine lv_iconst (v := 0) hx hb dX8_overOf_29 (by decide) ?_
  refine lv_goto (tgt := 36) hx hb dX8_overOf_30 (by decide) ?_
  exact bX8_overOf_36 (x1 := x1) (k4 := k4) X hret hk4 x3 0 z0 _ _ _ hP hS (lv_sub hl [0, 1, 2] rfl) h
def fX8_overOf_4 (x1 : Int32) (w : Mm) : Nat → Int32 → Int32 → Option (Int32)
  | 0, _, _ => none
  | n + 1, x2, x3 => (if (w.1 0 1) ≤ x3 then some x2 else bo (fX8_isOver w) (fun r_4 => (if r_4 = 0 then bo (fX8_bearsIt x3 x1 w) (fun r_8 => (if r_8 = 0 then fX8_overOf_36 (fX8_overOf_4 x1 w n) x1 x3 (1 <<< (x3 &&& 31)) x2 w else fX8_overOf_29 (fX8_overOf_4 x1 w n) x1 x3 x2 w)) else fX8_overOf_29 (fX8_overOf_4 x1 w n) x1 x3 x2 w)))
set_option maxRecDepth 20000 in
theorem bX8_overOf_4 {p : Program} {l : Launch} {e : Env} {s : State} {m : MethodId} {args : Array Value} {below : List Frame} {meth : Method} {c : Code} {Q : State → Prop} {D : va_G} {c3 : C3} {ad : Nat → Nat} {A : Nat → Prop} {r : Int32} {w : Mm} (X : Cx p s m args c cX8_overOf 4 RX8 wsX8_overOf D c3 (encM c3 ad) gM A) (hret : Ri p l e (rmX8_overOf) s m args below meth c Q cX8_overOf D (encM c3 ad) A r w) : ∀ (x1 : Int32) (n : Nat) (x2 : Int32) (x3 : Int32) (H : Heap) (locs : List Loc) (ls : Array Slot), va_P D vwCl ((encM c3 ad) w) H → va_S A s.heap H locs → lv_has ls 4 [(0, .ref (ad 0)), (1, .int x1), (2, .int x2), (3, .int x3)] → fX8_overOf_4 x1 w n x2 x3 = some r → W p l e (rmX8_overOf) s m args below meth c H locs 0 0 Q (F0 m 4 ls []) := by
  have hx := X.1
  have hb := X.2.1
  have hml := X.2.2.1
  have hown := X.2.2.2.1
  have hts := X.2.2.2.2.1
  intro x1 n
  induction n with
  | zero =>
    intro x2 x3 H locs ls hP hS hl h
    exact absurd h (by simp [fX8_overOf_4])
  | succ n ih =>
    intro x2 x3 H locs ls hP hS hl h
    rw [fX8_overOf_4] at h
    refine lv_iload_n hx hb dX8_overOf_4 rfl (lv_at hl 3 rfl) ?_
    refine lv_aload_n hx hb dX8_overOf_5 rfl (lv_at hl 0 rfl) ?_
    refine x_get (rest := [.int x3]) X hP (gM0 c3 ad w) rfl iwX8_overOf_X8 1 (by decide) lkX8_overOf_164 rfl dX8_overOf_6 ?_
    refine lv_icmp_ge (tgt := 44) hx hb dX8_overOf_9 (by decide) (fun c_2 => ?_) (fun c_2 => ?_)
    · replace h := it_p c_2 h
      refine lv_iload_n hx hb dX8_overOf_44 rfl (lv_at hl 2 rfl) ?_
      obtain rfl := Option.some.inj h
      exact hret _ _ _ _ hP hS dX8_overOf_45
    · replace h := it_n c_2 h
      refine lv_iload_n hx hb dX8_overOf_12 rfl (lv_at hl 2 rfl) ?_
      refine lv_aload_n hx hb dX8_overOf_13 rfl (lv_at hl 0 rfl) ?_
      obtain ⟨r_4, e_3, h⟩ := bo_s h
      refine x_goi X hS (x_runV (As := []) (rest := [.int x2]) X gM_ok hP hS (ctX8_isOver l D c3 ad w _ _ e_3) (cwV 0 hts gX8_overOf_X8_isOver rfl rfl rfl (by decide +kernel) ⟨by decide, by decide⟩) (gM0 c3 ad w) rfl rfl rfl hl.1 rfl (Nat.le_of_ble_eq_true rfl) dX8_overOf_14) (fun H locs hP hS => ?_)
      refine lv_if_ne (tgt := 29) hx hb dX8_overOf_17 (by decide) (fun c_6 => ?_) (fun c_6 => ?_)
      · replace h := it_n c_6 h
        exact bX8_overOf_29 (x1 := x1) (k4 := (fX8_overOf_4 x1 w n)) X hret ih x3 x2 _ _ _ hP hS (lv_sub hl [0, 1, 3] rfl) h
      · replace h := it_p c_6 h
        refine lv_aload_n hx hb dX8_overOf_20 rfl (lv_at hl 0 rfl) ?_
        refine lv_iload_n hx hb dX8_overOf_21 rfl (lv_at hl 3 rfl) ?_
        refine lv_iload_n hx hb dX8_overOf_22 rfl (lv_at hl 1 rfl) ?_
        obtain ⟨r_8, e_7, h⟩ := bo_s h
        refine x_goi X hS (x_runV (As := [.int x3, .int x1]) (rest := [.int x2]) X gM_ok hP hS (ctX8_bearsIt l D c3 ad w _ x3 x1 _ e_7) (cwV 2 hts gX8_overOf_X8_bearsIt rfl rfl rfl (by decide +kernel) ⟨by decide, by decide⟩) (gM0 c3 ad w) rfl rfl rfl hl.1 rfl (Nat.le_of_ble_eq_true rfl) dX8_overOf_23) (fun H locs hP hS => ?_)
        refine lv_if_eq (tgt := 33) hx hb dX8_overOf_26 (by decide) (fun c_10 => ?_) (fun c_10 => ?_)
        · replace h := it_p c_10 h
          refine lv_iconst (v := 1) hx hb dX8_overOf_33 (by decide) ?_
          refine lv_iload_n hx hb dX8_overOf_34 rfl (lv_at hl 3 rfl) ?_
          refine lv_ishl hx hb dX8_overOf_35 ?_
          exact bX8_overOf_36 (x1 := x1) (k4 := (fX8_overOf_4 x1 w n)) X hret ih x3 (1 <<< (x3 &&& 31)) x2 _ _ _ hP hS (lv_sub hl [0, 1, 3] rfl) h
        · replace h := it_n c_10 h
          exact bX8_overOf_29 (x1 := x1) (k4 := (fX8_overOf_4 x1 w n)) X hret ih x3 x2 _ _ _ hP hS (lv_sub hl [0, 1, 3] rfl) h
def fX8_overOf_E (x1 : Int32) (w : Mm) : Option (Int32) := fX8_overOf_4 x1 w FU 0 0
set_option maxRecDepth 20000 in
theorem bX8_overOf_E {p : Program} {l : Launch} {e : Env} {s : State} {m : MethodId} {args : Array Value} {below : List Frame} {meth : Method} {c : Code} {Q : State → Prop} {D : va_G} {c3 : C3} {ad : Nat → Nat} {A : Nat → Prop} {r : Int32} {w : Mm} (X : Cx p s m args c cX8_overOf 4 RX8 wsX8_overOf D c3 (encM c3 ad) gM A) (hret : Ri p l e (rmX8_overOf) s m args below meth c Q cX8_overOf D (encM c3 ad) A r w) : ∀ (x1 : Int32) (H : Heap) (locs : List Loc) (ls : Array Slot), va_P D vwCl ((encM c3 ad) w) H → va_S A s.heap H locs → lv_has ls 4 [(0, .ref (ad 0)), (1, .int x1)] → fX8_overOf_E x1 w = some r → W p l e (rmX8_overOf) s m args below meth c H locs 0 0 Q (F0 m 0 ls []) := by
  have hx := X.1
  have hb := X.2.1
  have hml := X.2.2.1
  have hown := X.2.2.2.1
  have hts := X.2.2.2.2.1
  intro x1 H locs ls hP hS hl h
  unfold fX8_overOf_E at h
  refine lv_iconst (v := 0) hx hb dX8_overOf_0 (by decide) ?_
  refine lv_istore_n (lv' := [(2, .int 0), (0, .ref (ad 0)), (1, .int x1)]) hx hb dX8_overOf_1 rfl hl (by decide) rfl (fun ls hl => ?_)
  refine lv_iconst (v := 0) hx hb dX8_overOf_2 (by decide) ?_
  refine lv_istore_n (lv' := [(3, .int 0), (2, .int 0), (0, .ref (ad 0)), (1, .int x1)]) hx hb dX8_overOf_3 rfl hl (by decide) rfl (fun ls hl => ?_)
  exact bX8_overOf_4 X hret x1 FU 0 0 _ _ _ hP hS (lv_sub hl [2, 3, 1, 0] rfl) h
def fX8_overOf (x1 : Int32) (w : Mm) : Option (Int32) := fX8_overOf_E x1 w
theorem ctX8_overOf (l : Launch) (D : va_G) (c3 : C3) (ad : Nat → Nat) (w : Mm) (sz : Nat) (x1 : Int32) (r : Int32) (h : fX8_overOf x1 w = some r) : Ci l yX8_overOf wsX8_overOf rmX8_overOf D c3 (encM c3 ad) gM [.ref (ad 0), .int x1] w sz r w := by
  refine Ci.of (cc := cX8_overOf) (maxL := 4) (encM_ok c3 ad) (by decide) rfl (Nat.le_of_ble_eq_true rfl) ?_
  intro p e s m below meth c A Q ls X hret hP hS hl
  exact bX8_overOf_E X hret x1 _ _ ls hP hS hl h
theorem iwX8_mark_X8 : ∀ w ∈ wsX80, w ∈ wsX8_mark := fun _ h => List.mem_cons_of_mem _ (List.mem_append_right _ h)
theorem lkX8_mark_7 : Cond.fieldLink RX8 7 "StuckDoorModel" "row" "[I" ∈ wsX8_mark := by decide +kernel
theorem lkX8_mark_19 : Cond.fieldLink RX8 19 "StuckDoorModel" "nears" "[I" ∈ wsX8_mark := by decide +kernel
def rmX8_mark : Room := { frames := 5, cells := 0, slots := 0, locals := 109 }
def fX8_mark_E (x1 : Int32) (x2 : Int32) (w : Mm) : Option (Int32 × Mm) := bo (fX8_isSaying x1 w) (fun r_2 => (if r_2 = 0 then some ((-1), w) else bo (fX8_in x2.toInt64 1 5) (fun r_6 => (if r_6 = 0 then some ((-1), w) else bo (fX8_isOf x1 x2 w) (fun r_10 => (if r_10 = 0 then bd (fX8_find 3 w) (fun r_33 w_34 => some (r_33, w_34)) else (if x2 = 1 then gd (inb (5 + x1) 1655 = true) (some ((w.1 1 (5 + x1).toNatClampNeg), w)) else (if x2 = 2 then gd (inb x1 6 = true) (some (((w.1 4 x1.toNatClampNeg) - ((w.1 4 x1.toNatClampNeg) / 2)), w)) else (if x2 = 3 then gd (inb x1 6 = true) (gd (inb (5 + x1) 1655 = true) (nm ((3 - (w.1 4 x1.toNatClampNeg)) - (w.1 1 (5 + x1).toNatClampNeg)) (fun x3_20 => (if 0 ≤ x3_20 then some (x3_20, w) else some (0, w))))) else (if x2 = 4 then bo (fX8_openOf (w.1 1 3)) (fun r_24 => some (r_24, w)) else bo (fX8_overOf x1 w) (fun r_27 => bo (fX8_bits r_27) (fun r_30 => some (r_30, w)))))))))))))
set_option maxRecDepth 20000 in
theorem bX8_mark_E {p : Program} {l : Launch} {e : Env} {s : State} {m : MethodId} {args : Array Value} {below : List Frame} {meth : Method} {c : Code} {Q : State → Prop} {D : va_G} {c3 : C3} {ad : Nat → Nat} {A : Nat → Prop} {r : Int32} {w' : Mm} (X : Cx p s m args c cX8_mark 4 RX8 wsX8_mark D c3 (encM c3 ad) gM A) (hret : Ri p l e (rmX8_mark) s m args below meth c Q cX8_mark D (encM c3 ad) A r w') : ∀ (x1 : Int32) (x2 : Int32) (w : Mm) (H : Heap) (locs : List Loc) (ls : Array Slot), va_P D vwCl ((encM c3 ad) w) H → va_S A s.heap H locs → lv_has ls 4 [(0, .ref (ad 0)), (1, .int x1), (2, .int x2)] → fX8_mark_E x1 x2 w = some (r, w') → W p l e (rmX8_mark) s m args below meth c H locs 0 0 Q (F0 m 0 ls []) := by
  have hx := X.1
  have hb := X.2.1
  have hml := X.2.2.1
  have hown := X.2.2.2.1
  have hts := X.2.2.2.2.1
  intro x1 x2 w H locs ls hP hS hl h
  unfold fX8_mark_E at h
  refine lv_aload_n hx hb dX8_mark_0 rfl (lv_at hl 0 rfl) ?_
  refine lv_iload_n hx hb dX8_mark_1 rfl (lv_at hl 1 rfl) ?_
  obtain ⟨r_2, e_1, h⟩ := bo_s h
  refine x_goi X hS (x_runV (As := [.int x1]) (rest := []) X gM_ok hP hS (ctX8_isSaying l D c3 ad w _ x1 _ e_1) (cwV 1 hts gX8_mark_X8_isSaying rfl rfl rfl (by decide +kernel) ⟨by decide, by decide⟩) (gM0 c3 ad w) rfl rfl rfl hl.1 rfl (Nat.le_of_ble_eq_true rfl) dX8_mark_2) (fun H locs hP hS => ?_)
  refine lv_if_eq (tgt := 20) hx hb dX8_mark_5 (by decide) (fun c_4 => ?_) (fun c_4 => ?_)
  · replace h := it_p c_4 h
    refine lv_iconst (v := (-1)) hx hb dX8_mark_20 (by decide) ?_
    obtain ⟨rfl, rfl⟩ := Prod.mk.inj (Option.some.inj h)
    exact hret _ _ _ _ hP hS dX8_mark_21
  · replace h := it_n c_4 h
    refine lv_iload_n hx hb dX8_mark_8 rfl (lv_at hl 2 rfl) ?_
    refine lv_i2l (v := x2.toInt64) hx hb dX8_mark_9 rfl ?_
    refine lv_lconst (v := 1) hx hb dX8_mark_10 (by decide) ?_
    refine lv_ldc2 (v := 5) hx hb hown (hts (.constantLong RX8 79 (5)) (by decide +kernel)) dX8_mark_11 ?_
    obtain ⟨r_6, e_5, h⟩ := bo_s h
    refine x_goi X hS (x_runS (As := [.long x2.toInt64, .long 1, .long 5]) (rest := []) X gM_ok hP hS (ctX8_in l D c3 ad w _ x2.toInt64 1 5 _ e_5) (va_cwS 3 hts gX8_mark_X8_in rfl rfl rfl (by decide +kernel) ⟨by decide, by decide⟩) rfl hl.1 rfl (Nat.le_of_ble_eq_true rfl) dX8_mark_14) (fun H locs hP hS => ?_)
    refine lv_if_ne (tgt := 22) hx hb dX8_mark_17 (by decide) (fun c_8 => ?_) (fun c_8 => ?_)
    · replace h := it_n c_8 h
      refine lv_aload_n hx hb dX8_mark_22 rfl (lv_at hl 0 rfl) ?_
      refine lv_iload_n hx hb dX8_mark_23 rfl (lv_at hl 1 rfl) ?_
      refine lv_iload_n hx hb dX8_mark_24 rfl (lv_at hl 2 rfl) ?_
      obtain ⟨r_10, e_9, h⟩ := bo_s h
      refine x_goi X hS (x_runV (As := [.int x1, .int x2]) (rest := []) X gM_ok hP hS (ctX8_isOf l D c3 ad w _ x1 x2 _ e_9) (cwV 2 hts gX8_mark_X8_isOf rfl rfl rfl (by decide +kernel) ⟨by decide, by decide⟩) (gM0 c3 ad w) rfl rfl rfl hl.1 rfl (Nat.le_of_ble_eq_true rfl) dX8_mark_25) (fun H locs hP hS => ?_)
      refine lv_if_ne (tgt := 37) hx hb dX8_mark_28 (by decide) (fun c_12 => ?_) (fun c_12 => ?_)
      · replace h := it_n c_12 h
        refine lv_iload_n hx hb dX8_mark_37 rfl (lv_at hl 2 rfl) ?_
        by_cases c_13 : x2 = 1
        · replace h := it_p c_13 h
          refine lv_tableIn (off := 30) (tgt := 68) hx hb dX8_mark_38 (by rw [c_13]; decide) (by rw [c_13]; decide) (by rw [c_13]; decide) (by decide) ?_
          refine lv_aload_n hx hb dX8_mark_68 rfl (lv_at hl 0 rfl) ?_
          refine x_get (rest := []) X hP (gM0 c3 ad w) rfl iwX8_mark_X8 0 (by decide) lkX8_mark_7 rfl dX8_mark_69 ?_
          refine lv_iconst (v := 5) hx hb dX8_mark_72 (by decide) ?_
          refine lv_iload_n hx hb dX8_mark_73 rfl (lv_at hl 1 rfl) ?_
          refine lv_iadd hx hb dX8_mark_74 ?_
          obtain ⟨g_14, h⟩ := gd_s h
          refine x_iald X hP (gM1 c3 ad w) g_14 dX8_mark_75 ?_
          obtain ⟨rfl, rfl⟩ := Prod.mk.inj (Option.some.inj h)
          exact hret _ _ _ _ hP hS dX8_mark_76
        replace h := it_n c_13 h
        by_cases c_15 : x2 = 2
        · replace h := it_p c_15 h
          refine lv_tableIn (off := 39) (tgt := 77) hx hb dX8_mark_38 (by rw [c_15]; decide) (by rw [c_15]; decide) (by rw [c_15]; decide) (by decide) ?_
          refine lv_aload_n hx hb dX8_mark_77 rfl (lv_at hl 0 rfl) ?_
          refine x_get (rest := []) X hP (gM0 c3 ad w) rfl iwX8_mark_X8 5 (by decide) lkX8_mark_19 rfl dX8_mark_78 ?_
          refine lv_iload_n hx hb dX8_mark_81 rfl (lv_at hl 1 rfl) ?_
          obtain ⟨g_16, h⟩ := gd_s h
          refine x_iald X hP (gM4 c3 ad w) g_16 dX8_mark_82 ?_
          refine lv_aload_n hx hb dX8_mark_83 rfl (lv_at hl 0 rfl) ?_
          refine x_get (rest := [.int (w.1 4 x1.toNatClampNeg)]) X hP (gM0 c3 ad w) rfl iwX8_mark_X8 5 (by decide) lkX8_mark_19 rfl dX8_mark_84 ?_
          refine lv_iload_n hx hb dX8_mark_87 rfl (lv_at hl 1 rfl) ?_
          refine x_iald X hP (gM4 c3 ad w) g_16 dX8_mark_88 ?_
          refine lv_iconst (v := 2) hx hb dX8_mark_89 (by decide) ?_
          refine lv_idiv hx hb dX8_mark_90 (by decide) ?_
          refine lv_isub hx hb dX8_mark_91 ?_
          obtain ⟨rfl, rfl⟩ := Prod.mk.inj (Option.some.inj h)
          exact hret _ _ _ _ hP hS dX8_mark_92
        replace h := it_n c_15 h
        by_cases c_17 : x2 = 3
        · replace h := it_p c_17 h
          refine lv_tableIn (off := 55) (tgt := 93) hx hb dX8_mark_38 (by rw [c_17]; decide) (by rw [c_17]; decide) (by rw [c_17]; decide) (by decide) ?_
          refine lv_iconst (v := 3) hx hb dX8_mark_93 (by decide) ?_
          refine lv_aload_n hx hb dX8_mark_94 rfl (lv_at hl 0 rfl) ?_
          refine x_get (rest := [.int 3]) X hP (gM0 c3 ad w) rfl iwX8_mark_X8 5 (by decide) lkX8_mark_19 rfl dX8_mark_95 ?_
          refine lv_iload_n hx hb dX8_mark_98 rfl (lv_at hl 1 rfl) ?_
          obtain ⟨g_18, h⟩ := gd_s h
          refine x_iald X hP (gM4 c3 ad w) g_18 dX8_mark_99 ?_
          refine lv_isub hx hb dX8_mark_100 ?_
          refine lv_aload_n hx hb dX8_mark_101 rfl (lv_at hl 0 rfl) ?_
          refine x_get (rest := [.int (3 - (w.1 4 x1.toNatClampNeg))]) X hP (gM0 c3 ad w) rfl iwX8_mark_X8 0 (by decide) lkX8_mark_7 rfl dX8_mark_102 ?_
          refine lv_iconst (v := 5) hx hb dX8_mark_105 (by decide) ?_
          refine lv_iload_n hx hb dX8_mark_106 rfl (lv_at hl 1 rfl) ?_
          refine lv_iadd hx hb dX8_mark_107 ?_
          obtain ⟨g_19, h⟩ := gd_s h
          refine x_iald X hP (gM1 c3 ad w) g_19 dX8_mark_108 ?_
          refine lv_isub hx hb dX8_mark_109 ?_
          refine x_nmi h (fun x3_20 h => ?_)
          refine lv_istore_n (lv' := [(3, .int x3_20), (0, .ref (ad 0)), (1, .int x1), (2, .int x2)]) hx hb dX8_mark_110 rfl hl (by decide) rfl (fun ls hl => ?_)
          refine lv_iload_n hx hb dX8_mark_111 rfl (lv_at hl 0 rfl) ?_
          refine lv_if_ge (tgt := 119) hx hb dX8_mark_112 (by decide) (fun c_21 => ?_) (fun c_21 => ?_)
          · replace h := it_p c_21 h
            refine lv_iload_n hx hb dX8_mark_119 rfl (lv_at hl 0 rfl) ?_
            obtain ⟨rfl, rfl⟩ := Prod.mk.inj (Option.some.inj h)
            exact hret _ _ _ _ hP hS dX8_mark_120
          · replace h := it_n c_21 h
            refine lv_iconst (v := 0) hx hb dX8_mark_115 (by decide) ?_
            refine lv_goto (tgt := 120) hx hb dX8_mark_116 (by decide) ?_
            obtain ⟨rfl, rfl⟩ := Prod.mk.inj (Option.some.inj h)
            exact hret _ _ _ _ hP hS dX8_mark_120
        replace h := it_n c_17 h
        by_cases c_22 : x2 = 4
        · replace h := it_p c_22 h
          refine lv_tableIn (off := 83) (tgt := 121) hx hb dX8_mark_38 (by rw [c_22]; decide) (by rw [c_22]; decide) (by rw [c_22]; decide) (by decide) ?_
          refine lv_aload_n hx hb dX8_mark_121 rfl (lv_at hl 0 rfl) ?_
          refine x_get (rest := []) X hP (gM0 c3 ad w) rfl iwX8_mark_X8 0 (by decide) lkX8_mark_7 rfl dX8_mark_122 ?_
          refine lv_iconst (v := 3) hx hb dX8_mark_125 (by decide) ?_
          refine x_ialdL (j := 3) X hP (gM1 c3 ad w) (by decide) rfl dX8_mark_126 ?_
          obtain ⟨r_24, e_23, h⟩ := bo_s h
          refine x_goi X hS (x_runS (As := [.int (w.1 1 3)]) (rest := []) X gM_ok hP hS (ctX8_openOf l D c3 ad w _ (w.1 1 3) _ e_23) (va_cwS 1 hts gX8_mark_X8_openOf rfl rfl rfl (by decide +kernel) ⟨by decide, by decide⟩) rfl hl.1 rfl (Nat.le_of_ble_eq_true rfl) dX8_mark_127) (fun H locs hP hS => ?_)
          obtain ⟨rfl, rfl⟩ := Prod.mk.inj (Option.some.inj h)
          exact hret _ _ _ _ hP hS dX8_mark_130
        replace h := it_n c_22 h
        refine lv_tableOut (tgt := 131) hx hb dX8_mark_38 (by have := lv_neT c_13 (a := 1) rfl; have := lv_neT c_15 (a := 2) rfl; have := lv_neT c_17 (a := 3) rfl; have := lv_neT c_22 (a := 4) rfl; omega) (by decide) ?_
        refine lv_aload_n hx hb dX8_mark_131 rfl (lv_at hl 0 rfl) ?_
        refine lv_iload_n hx hb dX8_mark_132 rfl (lv_at hl 1 rfl) ?_
        obtain ⟨r_27, e_26, h⟩ := bo_s h
        refine x_goi X hS (x_runV (As := [.int x1]) (rest := []) X gM_ok hP hS (ctX8_overOf l D c3 ad w _ x1 _ e_26) (cwV 1 hts gX8_mark_X8_overOf rfl rfl rfl (by decide +kernel) ⟨by decide, by decide⟩) (gM0 c3 ad w) rfl rfl rfl hl.1 rfl (Nat.le_of_ble_eq_true rfl) dX8_mark_133) (fun H locs hP hS => ?_)
        obtain ⟨r_30, e_29, h⟩ := bo_s h
        refine x_goi X hS (x_runS (As := [.int r_27]) (rest := []) X gM_ok hP hS (ctX8_bits l D c3 ad w _ r_27 _ e_29) (va_cwS 1 hts gX8_mark_X8_bits rfl rfl rfl (by decide +kernel) ⟨by decide, by decide⟩) rfl hl.1 rfl (Nat.le_of_ble_eq_true rfl) dX8_mark_136) (fun H locs hP hS => ?_)
        obtain ⟨rfl, rfl⟩ := Prod.mk.inj (Option.some.inj h)
        exact hret _ _ _ _ hP hS dX8_mark_139
      · replace h := it_p c_12 h
        refine lv_aload_n hx hb dX8_mark_31 rfl (lv_at hl 0 rfl) ?_
        refine lv_iconst (v := 3) hx hb dX8_mark_32 (by decide) ?_
        obtain ⟨r_33, w_34, e_32, h⟩ := bd_s h
        refine x_goi X hS (x_runV (As := [.int 3]) (rest := []) X gM_ok hP hS (ctX8_find l D c3 ad w _ 3 _ _ e_32) (cwV 1 hts gX8_mark_X8_find rfl rfl rfl (by decide +kernel) ⟨by decide, by decide⟩) (gM0 c3 ad w) rfl rfl rfl hl.1 rfl (Nat.le_of_ble_eq_true rfl) dX8_mark_33) (fun H locs hP hS => ?_)
        obtain ⟨rfl, rfl⟩ := Prod.mk.inj (Option.some.inj h)
        exact hret _ _ _ _ hP hS dX8_mark_36
    · replace h := it_p c_8 h
      refine lv_iconst (v := (-1)) hx hb dX8_mark_20 (by decide) ?_
      obtain ⟨rfl, rfl⟩ := Prod.mk.inj (Option.some.inj h)
      exact hret _ _ _ _ hP hS dX8_mark_21
def fX8_mark (x1 : Int32) (x2 : Int32) (w : Mm) : Option (Int32 × Mm) := fX8_mark_E x1 x2 w
theorem ctX8_mark (l : Launch) (D : va_G) (c3 : C3) (ad : Nat → Nat) (w : Mm) (sz : Nat) (x1 : Int32) (x2 : Int32) (r : Int32) (w' : Mm) (h : fX8_mark x1 x2 w = some (r, w')) : Ci l yX8_mark wsX8_mark rmX8_mark D c3 (encM c3 ad) gM [.ref (ad 0), .int x1, .int x2] w sz r w' := by
  refine Ci.of (cc := cX8_mark) (maxL := 4) (encM_ok c3 ad) (by decide) rfl (Nat.le_of_ble_eq_true rfl) ?_
  intro p e s m below meth c A Q ls X hret hP hS hl
  exact bX8_mark_E X hret x1 x2 w _ _ ls hP hS hl h
theorem iwX8_isOne_X8 : ∀ w ∈ wsX80, w ∈ wsX8_isOne := fun _ h => List.mem_cons_of_mem _ (List.mem_append_right _ h)
theorem lkX8_isOne_164 : Cond.fieldLink RX8 164 "StuckDoorModel" "people" "I" ∈ wsX8_isOne := by decide +kernel
def rmX8_isOne : Room := { frames := 1, cells := 0, slots := 0, locals := 25 }
def fX8_isOne_E (x1 : Int32) (w : Mm) : Option (Int32) := bo (fX8_in x1.toInt64 0 (((w.1 0 1) - 1).toInt64)) (fun r_2 => gd (r_2 = 0 ∨ r_2 = 1) (some r_2))
set_option maxRecDepth 20000 in
theorem bX8_isOne_E {p : Program} {l : Launch} {e : Env} {s : State} {m : MethodId} {args : Array Value} {below : List Frame} {meth : Method} {c : Code} {Q : State → Prop} {D : va_G} {c3 : C3} {ad : Nat → Nat} {A : Nat → Prop} {r : Int32} {w : Mm} (X : Cx p s m args c cX8_isOne 2 RX8 wsX8_isOne D c3 (encM c3 ad) gM A) (hret : Rz p l e (rmX8_isOne) s m args below meth c Q cX8_isOne D (encM c3 ad) A r w) : ∀ (x1 : Int32) (H : Heap) (locs : List Loc) (ls : Array Slot), va_P D vwCl ((encM c3 ad) w) H → va_S A s.heap H locs → lv_has ls 2 [(0, .ref (ad 0)), (1, .int x1)] → fX8_isOne_E x1 w = some r → W p l e (rmX8_isOne) s m args below meth c H locs 0 0 Q (F0 m 0 ls []) := by
  have hx := X.1
  have hb := X.2.1
  have hml := X.2.2.1
  have hown := X.2.2.2.1
  have hts := X.2.2.2.2.1
  intro x1 H locs ls hP hS hl h
  unfold fX8_isOne_E at h
  refine lv_iload_n hx hb dX8_isOne_0 rfl (lv_at hl 1 rfl) ?_
  refine lv_i2l (v := x1.toInt64) hx hb dX8_isOne_1 rfl ?_
  refine lv_lconst (v := 0) hx hb dX8_isOne_2 (by decide) ?_
  refine lv_aload_n hx hb dX8_isOne_3 rfl (lv_at hl 0 rfl) ?_
  refine x_get (rest := [.long 0, .long x1.toInt64]) X hP (gM0 c3 ad w) rfl iwX8_isOne_X8 1 (by decide) lkX8_isOne_164 rfl dX8_isOne_4 ?_
  refine lv_iconst (v := 1) hx hb dX8_isOne_7 (by decide) ?_
  refine lv_isub hx hb dX8_isOne_8 ?_
  refine lv_i2l (v := ((w.1 0 1) - 1).toInt64) hx hb dX8_isOne_9 rfl ?_
  obtain ⟨r_2, e_1, h⟩ := bo_s h
  refine x_goi X hS (x_runS (As := [.long x1.toInt64, .long 0, .long (((w.1 0 1) - 1).toInt64)]) (rest := []) X gM_ok hP hS (ctX8_in l D c3 ad w _ x1.toInt64 0 (((w.1 0 1) - 1).toInt64) _ e_1) (va_cwS 3 hts gX8_isOne_X8_in rfl rfl rfl (by decide +kernel) ⟨by decide, by decide⟩) rfl hl.1 rfl (Nat.le_of_ble_eq_true rfl) dX8_isOne_10) (fun H locs hP hS => ?_)
  obtain ⟨g_4, h⟩ := gd_s h
  obtain rfl := Option.some.inj h
  exact hret g_4 _ _ _ _ hP hS dX8_isOne_13
def fX8_isOne (x1 : Int32) (w : Mm) : Option (Int32) := fX8_isOne_E x1 w
theorem ctX8_isOne (l : Launch) (D : va_G) (c3 : C3) (ad : Nat → Nat) (w : Mm) (sz : Nat) (x1 : Int32) (r : Int32) (h : fX8_isOne x1 w = some r) : Ci l yX8_isOne wsX8_isOne rmX8_isOne D c3 (encM c3 ad) gM [.ref (ad 0), .int x1] w sz r w := by
  refine Ci.ofz (cc := cX8_isOne) (maxL := 2) (encM_ok c3 ad) (by decide) rfl (Nat.le_of_ble_eq_true rfl) ?_
  intro p e s m below meth c A Q ls X hret hP hS hl
  exact bX8_isOne_E X hret x1 _ _ ls hP hS hl h
theorem iwX8_bears_X8 : ∀ w ∈ wsX80, w ∈ wsX8_bears := fun _ h => List.mem_cons_of_mem _ (List.mem_append_right _ h)
theorem lkX8_bears_13 : Cond.fieldLink RX8 13 "StuckDoorModel" "bears" "[I" ∈ wsX8_bears := by decide +kernel
def rmX8_bears : Room := { frames := 2, cells := 0, slots := 0, locals := 46 }
def fX8_bears_E (x1 : Int32) (w : Mm) : Option (Int32) := bo (fX8_isOne x1 w) (fun r_2 => (if r_2 = 0 then some (-1) else gd (inb x1 4 = true) (some (w.1 2 x1.toNatClampNeg))))
set_option maxRecDepth 20000 in
theorem bX8_bears_E {p : Program} {l : Launch} {e : Env} {s : State} {m : MethodId} {args : Array Value} {below : List Frame} {meth : Method} {c : Code} {Q : State → Prop} {D : va_G} {c3 : C3} {ad : Nat → Nat} {A : Nat → Prop} {r : Int32} {w : Mm} (X : Cx p s m args c cX8_bears 2 RX8 wsX8_bears D c3 (encM c3 ad) gM A) (hret : Ri p l e (rmX8_bears) s m args below meth c Q cX8_bears D (encM c3 ad) A r w) : ∀ (x1 : Int32) (H : Heap) (locs : List Loc) (ls : Array Slot), va_P D vwCl ((encM c3 ad) w) H → va_S A s.heap H locs → lv_has ls 2 [(0, .ref (ad 0)), (1, .int x1)] → fX8_bears_E x1 w = some r → W p l e (rmX8_bears) s m args below meth c H locs 0 0 Q (F0 m 0 ls []) := by
  have hx := X.1
  have hb := X.2.1
  have hml := X.2.2.1
  have hown := X.2.2.2.1
  have hts := X.2.2.2.2.1
  intro x1 H locs ls hP hS hl h
  unfold fX8_bears_E at h
  refine lv_aload_n hx hb dX8_bears_0 rfl (lv_at hl 0 rfl) ?_
  refine lv_iload_n hx hb dX8_bears_1 rfl (lv_at hl 1 rfl) ?_
  obtain ⟨r_2, e_1, h⟩ := bo_s h
  refine x_goi X hS (x_runV (As := [.int x1]) (rest := []) X gM_ok hP hS (ctX8_isOne l D c3 ad w _ x1 _ e_1) (cwV 1 hts gX8_bears_X8_isOne rfl rfl rfl (by decide +kernel) ⟨by decide, by decide⟩) (gM0 c3 ad w) rfl rfl rfl hl.1 rfl (Nat.le_of_ble_eq_true rfl) dX8_bears_2) (fun H locs hP hS => ?_)
  refine lv_if_eq (tgt := 17) hx hb dX8_bears_5 (by decide) (fun c_4 => ?_) (fun c_4 => ?_)
  · replace h := it_p c_4 h
    refine lv_iconst (v := (-1)) hx hb dX8_bears_17 (by decide) ?_
    obtain rfl := Option.some.inj h
    exact hret _ _ _ _ hP hS dX8_bears_18
  · replace h := it_n c_4 h
    refine lv_aload_n hx hb dX8_bears_8 rfl (lv_at hl 0 rfl) ?_
    refine x_get (rest := []) X hP (gM0 c3 ad w) rfl iwX8_bears_X8 2 (by decide) lkX8_bears_13 rfl dX8_bears_9 ?_
    refine lv_iload_n hx hb dX8_bears_12 rfl (lv_at hl 1 rfl) ?_
    obtain ⟨g_5, h⟩ := gd_s h
    refine x_iald X hP (gM2 c3 ad w) g_5 dX8_bears_13 ?_
    refine lv_goto (tgt := 18) hx hb dX8_bears_14 (by decide) ?_
    obtain rfl := Option.some.inj h
    exact hret _ _ _ _ hP hS dX8_bears_18
def fX8_bears (x1 : Int32) (w : Mm) : Option (Int32) := fX8_bears_E x1 w
theorem ctX8_bears (l : Launch) (D : va_G) (c3 : C3) (ad : Nat → Nat) (w : Mm) (sz : Nat) (x1 : Int32) (r : Int32) (h : fX8_bears x1 w = some r) : Ci l yX8_bears wsX8_bears rmX8_bears D c3 (encM c3 ad) gM [.ref (ad 0), .int x1] w sz r w := by
  refine Ci.of (cc := cX8_bears) (maxL := 2) (encM_ok c3 ad) (by decide) rfl (Nat.le_of_ble_eq_true rfl) ?_
  intro p e s m below meth c A Q ls X hret hP hS hl
  exact bX8_bears_E X hret x1 _ _ ls hP hS hl h
theorem iwX8_keepPast_X8 : ∀ w ∈ wsX80, w ∈ wsX8_keepPast := fun _ h => List.mem_cons_of_mem _ (List.mem_append_right _ h)
theorem lkX8_keepPast_7 : Cond.fieldLink RX8 7 "StuckDoorModel" "row" "[I" ∈ wsX8_keepPast := by decide +kernel
def rmX8_keepPast : Room := { frames := 0, cells := 0, slots := 0, locals := 0 }
def fX8_keepPast_2 : Nat → Int32 → Mm → Option (Mm)
  | 0, _, _ => none
  | n + 1, x1, w => (if 10 ≤ x1 then nm (sA w 1 0 ((w.1 1 0) + 1)) (fun w_2 => some w_2) else gd (inb (1 + x1) 1655 = true) (gd (inb ((11 + (10 * (w.1 1 0))) + x1) 1655 = true) (nm (sA w 1 ((11 + (10 * (w.1 1 0))) + x1).toNatClampNeg (w.1 1 (1 + x1).toNatClampNeg)) (fun w_5 => fX8_keepPast_2 n (x1 + 1) w_5))))
set_option maxRecDepth 20000 in
theorem bX8_keepPast_2 {p : Program} {l : Launch} {e : Env} {s : State} {m : MethodId} {args : Array Value} {below : List Frame} {meth : Method} {c : Code} {Q : State → Prop} {D : va_G} {c3 : C3} {ad : Nat → Nat} {A : Nat → Prop} {w' : Mm} (X : Cx p s m args c cX8_keepPast 2 RX8 wsX8_keepPast D c3 (encM c3 ad) gM A) (hret : Rv p l e (rmX8_keepPast) s m args below meth c Q cX8_keepPast D (encM c3 ad) A w') : ∀ (n : Nat) (x1 : Int32) (w : Mm) (H : Heap) (locs : List Loc) (ls : Array Slot), va_P D vwCl ((encM c3 ad) w) H → va_S A s.heap H locs → lv_has ls 2 [(0, .ref (ad 0)), (1, .int x1)] → fX8_keepPast_2 n x1 w = some w' → W p l e (rmX8_keepPast) s m args below meth c H locs 0 0 Q (F0 m 2 ls []) := by
  have hx := X.1
  have hb := X.2.1
  have hml := X.2.2.1
  have hown := X.2.2.2.1
  have hts := X.2.2.2.2.1
  intro n
  induction n with
  | zero =>
    intro x1 w H locs ls hP hS hl h
    exact absurd h (by simp [fX8_keepPast_2])
  | succ n ih =>
    intro x1 w H locs ls hP hS hl h
    rw [fX8_keepPast_2] at h
    refine lv_iload_n hx hb dX8_keepPast_2 rfl (lv_at hl 1 rfl) ?_
    refine lv_bipush (v := 10) hx hb dX8_keepPast_3 (by decide) ?_
    refine lv_icmp_ge (tgt := 41) hx hb dX8_keepPast_5 (by decide) (fun c_1 => ?_) (fun c_1 => ?_)
    · replace h := it_p c_1 h
      refine lv_aload_n hx hb dX8_keepPast_41 rfl (lv_at hl 0 rfl) ?_
      refine x_get (rest := []) X hP (gM0 c3 ad w) rfl iwX8_keepPast_X8 0 (by decide) lkX8_keepPast_7 rfl dX8_keepPast_42 ?_
      refine lv_iconst (v := 0) hx hb dX8_keepPast_45 (by decide) ?_
      refine lv_dup2_11 hx hb dX8_keepPast_46 rfl rfl ?_
      refine x_ialdL (j := 0) X hP (gM1 c3 ad w) (by decide) rfl dX8_keepPast_47 ?_
      refine lv_iconst (v := 1) hx hb dX8_keepPast_48 (by decide) ?_
      refine lv_iadd hx hb dX8_keepPast_49 ?_
      refine x_iastL (j := 0) X hP hS (gM1 c3 ad w) (sM1 c3 ad w _ _) (by decide) rfl dX8_keepPast_50 (fun H locs hP hS => ?_)
      refine x_nmw h hP (fun w_2 h hP => ?_)
      obtain rfl := Option.some.inj h
      exact hret _ _ _ _ hP hS dX8_keepPast_51
    · replace h := it_n c_1 h
      refine lv_aload_n hx hb dX8_keepPast_8 rfl (lv_at hl 0 rfl) ?_
      refine x_get (rest := []) X hP (gM0 c3 ad w) rfl iwX8_keepPast_X8 0 (by decide) lkX8_keepPast_7 rfl dX8_keepPast_9 ?_
      refine lv_bipush (v := 11) hx hb dX8_keepPast_12 (by decide) ?_
      refine lv_bipush (v := 10) hx hb dX8_keepPast_14 (by decide) ?_
      refine lv_aload_n hx hb dX8_keepPast_16 rfl (lv_at hl 0 rfl) ?_
      refine x_get (rest := [.int 10, .int 11, .ref (ad 1)]) X hP (gM0 c3 ad w) rfl iwX8_keepPast_X8 0 (by decide) lkX8_keepPast_7 rfl dX8_keepPast_17 ?_
      refine lv_iconst (v := 0) hx hb dX8_keepPast_20 (by decide) ?_
      refine x_ialdL (j := 0) X hP (gM1 c3 ad w) (by decide) rfl dX8_keepPast_21 ?_
      refine lv_imul hx hb dX8_keepPast_22 ?_
      refine lv_iadd hx hb dX8_keepPast_23 ?_
      refine lv_iload_n hx hb dX8_keepPast_24 rfl (lv_at hl 1 rfl) ?_
      refine lv_iadd hx hb dX8_keepPast_25 ?_
      refine lv_aload_n hx hb dX8_keepPast_26 rfl (lv_at hl 0 rfl) ?_
      refine x_get (rest := [.int ((11 + (10 * (w.1 1 0))) + x1), .ref (ad 1)]) X hP (gM0 c3 ad w) rfl iwX8_keepPast_X8 0 (by decide) lkX8_keepPast_7 rfl dX8_keepPast_27 ?_
      refine lv_iconst (v := 1) hx hb dX8_keepPast_30 (by decide) ?_
      refine lv_iload_n hx hb dX8_keepPast_31 rfl (lv_at hl 1 rfl) ?_
      refine lv_iadd hx hb dX8_keepPast_32 ?_
      obtain ⟨g_3, h⟩ := gd_s h
      refine x_iald X hP (gM1 c3 ad w) g_3 dX8_keepPast_33 ?_
      obtain ⟨g_4, h⟩ := gd_s h
      refine x_iast X hP hS (gM1 c3 ad w) (sM1 c3 ad w _ _) g_4 dX8_keepPast_34 (fun H locs hP hS => ?_)
      refine x_nmw h hP (fun w_5 h hP => ?_)
      refine lv_iinc (v := (x1 + 1)) (lv' := [(1, .int (x1 + 1)), (0, .ref (ad 0))]) hx hb dX8_keepPast_35 hl (k := 1) rfl rfl (by decide) rfl (fun ls hl => ?_)
      refine lv_goto (tgt := 2) hx hb dX8_keepPast_38 (by decide) ?_
      exact ih (x1 + 1) w_5 _ _ _ hP hS (lv_sub hl [1, 0] rfl) h
def fX8_keepPast_E (w : Mm) : Option (Mm) := fX8_keepPast_2 FU 0 w
set_option maxRecDepth 20000 in
theorem bX8_keepPast_E {p : Program} {l : Launch} {e : Env} {s : State} {m : MethodId} {args : Array Value} {below : List Frame} {meth : Method} {c : Code} {Q : State → Prop} {D : va_G} {c3 : C3} {ad : Nat → Nat} {A : Nat → Prop} {w' : Mm} (X : Cx p s m args c cX8_keepPast 2 RX8 wsX8_keepPast D c3 (encM c3 ad) gM A) (hret : Rv p l e (rmX8_keepPast) s m args below meth c Q cX8_keepPast D (encM c3 ad) A w') : ∀ (w : Mm) (H : Heap) (locs : List Loc) (ls : Array Slot), va_P D vwCl ((encM c3 ad) w) H → va_S A s.heap H locs → lv_has ls 2 [(0, .ref (ad 0))] → fX8_keepPast_E w = some w' → W p l e (rmX8_keepPast) s m args below meth c H locs 0 0 Q (F0 m 0 ls []) := by
  have hx := X.1
  have hb := X.2.1
  have hml := X.2.2.1
  have hown := X.2.2.2.1
  have hts := X.2.2.2.2.1
  intro w H locs ls hP hS hl h
  unfold fX8_keepPast_E at h
  refine lv_iconst (v := 0) hx hb dX8_keepPast_0 (by decide) ?_
  refine lv_istore_n (lv' := [(1, .int 0), (0, .ref (ad 0))]) hx hb dX8_keepPast_1 rfl hl (by decide) rfl (fun ls hl => ?_)
  exact bX8_keepPast_2 X hret FU 0 w _ _ _ hP hS (lv_sub hl [1, 0] rfl) h
def fX8_keepPast (w : Mm) : Option (Mm) := fX8_keepPast_E w
theorem ctX8_keepPast (l : Launch) (D : va_G) (c3 : C3) (ad : Nat → Nat) (w : Mm) (sz : Nat) (w' : Mm) (h : fX8_keepPast w = some w') : Cv l yX8_keepPast wsX8_keepPast rmX8_keepPast D c3 (encM c3 ad) gM [.ref (ad 0)] w sz w' := by
  refine Cv.of (cc := cX8_keepPast) (maxL := 2) (encM_ok c3 ad) (by decide) rfl (Nat.le_of_ble_eq_true rfl) ?_
  intro p e s m below meth c A Q ls X hret hP hS hl
  exact bX8_keepPast_E X hret w _ _ ls hP hS hl h
theorem iwX8_says_X8 : ∀ w ∈ wsX80, w ∈ wsX8_says := fun _ h => List.mem_cons_of_mem _ (List.mem_append_right _ h)
theorem lkX8_says_7 : Cond.fieldLink RX8 7 "StuckDoorModel" "row" "[I" ∈ wsX8_says := by decide +kernel
theorem lkX8_says_13 : Cond.fieldLink RX8 13 "StuckDoorModel" "bears" "[I" ∈ wsX8_says := by decide +kernel
theorem lkX8_says_22 : Cond.fieldLink RX8 22 "StuckDoorModel" "topics" "[I" ∈ wsX8_says := by decide +kernel
def rmX8_says : Room := { frames := 3, cells := 0, slots := 0, locals := 64 }
def fX8_says_78 (z0 : Int32) (z1 : Int32) (w : Mm) : Option (Mm) := gd (inb z1 1655 = true) (nm (sA w 1 z1.toNatClampNeg z0) (fun w_2 => some w_2))
set_option maxRecDepth 20000 in
theorem bX8_says_78 {p : Program} {l : Launch} {e : Env} {s : State} {m : MethodId} {args : Array Value} {below : List Frame} {meth : Method} {c : Code} {Q : State → Prop} {D : va_G} {c3 : C3} {ad : Nat → Nat} {A : Nat → Prop} {w' : Mm} (X : Cx p s m args c cX8_says 4 RX8 wsX8_says D c3 (encM c3 ad) gM A) (hret : Rv p l e (rmX8_says) s m args below meth c Q cX8_says D (encM c3 ad) A w') : ∀ (z0 : Int32) (z1 : Int32) (w : Mm) (H : Heap) (locs : List Loc) (ls : Array Slot), va_P D vwCl ((encM c3 ad) w) H → va_S A s.heap H locs → lv_has ls 4 [] → fX8_says_78 z0 z1 w = some w' → W p l e (rmX8_says) s m args below meth c H locs 0 0 Q (F0 m 78 ls [.int z0, .int z1, .ref (ad 1)]) := by
  have hx := X.1
  have hb := X.2.1
  have hml := X.2.2.1
  have hown := X.2.2.2.1
  have hts := X.2.2.2.2.1
  intro z0 z1 w H locs ls hP hS hl h
  unfold fX8_says_78 at h
  obtain ⟨g_1, h⟩ := gd_s h
  refine x_iast X hP hS (gM1 c3 ad w) (sM1 c3 ad w _ _) g_1 dX8_says_78 (fun H locs hP hS => ?_)
  refine x_nmw h hP (fun w_2 h hP => ?_)
  obtain rfl := Option.some.inj h
  exact hret _ _ _ _ hP hS dX8_says_79
def fX8_says_E (x1 : Int32) (x2 : Int32) (x3 : Int32) (w : Mm) : Option (Mm) := nm (x1 + 2) (fun z_3 => gd (inb z_3 1655 = true) (bo (fX8_nearOf x1 x3 w) (fun r_6 => nm (sA w 1 z_3.toNatClampNeg ((w.1 1 z_3.toNatClampNeg) + r_6)) (fun w_8 => nm (x1 + 3) (fun z_9 => gd (inb z_9 1655 = true) (gd (inb x3 6 = true) (nm (sA w_8 1 z_9.toNatClampNeg ((w_8.1 1 z_9.toNatClampNeg) ||| (w_8.1 5 x3.toNatClampNeg))) (fun w_12 => nm ((x1 + 5) + x3) (fun z_13 => gd (inb z_13 1655 = true) (nm (sA w_12 1 z_13.toNatClampNeg ((w_12.1 1 z_13.toNatClampNeg) + 1)) (fun w_15 => gd (inb (x1 + 2) 1655 = true) (gd (inb x2 4 = true) ((if (w_15.1 1 (x1 + 2).toNatClampNeg) ≤ (w_15.1 2 x2.toNatClampNeg) then fX8_says_78 (-9) (x1 + 4) w_15 else fX8_says_78 x2 (x1 + 4) w_15))))))))))))))
set_option maxRecDepth 20000 in
theorem bX8_says_E {p : Program} {l : Launch} {e : Env} {s : State} {m : MethodId} {args : Array Value} {below : List Frame} {meth : Method} {c : Code} {Q : State → Prop} {D : va_G} {c3 : C3} {ad : Nat → Nat} {A : Nat → Prop} {w' : Mm} (X : Cx p s m args c cX8_says 4 RX8 wsX8_says D c3 (encM c3 ad) gM A) (hret : Rv p l e (rmX8_says) s m args below meth c Q cX8_says D (encM c3 ad) A w') : ∀ (x1 : Int32) (x2 : Int32) (x3 : Int32) (w : Mm) (H : Heap) (locs : List Loc) (ls : Array Slot), va_P D vwCl ((encM c3 ad) w) H → va_S A s.heap H locs → lv_has ls 4 [(0, .ref (ad 0)), (1, .int x1), (2, .int x2), (3, .int x3)] → fX8_says_E x1 x2 x3 w = some w' → W p l e (rmX8_says) s m args below meth c H locs 0 0 Q (F0 m 0 ls []) := by
  have hx := X.1
  have hb := X.2.1
  have hml := X.2.2.1
  have hown := X.2.2.2.1
  have hts := X.2.2.2.2.1
  intro x1 x2 x3 w H locs ls hP hS hl h
  unfold fX8_says_E at h
  refine lv_aload_n hx hb dX8_says_0 rfl (lv_at hl 0 rfl) ?_
  refine x_get (rest := []) X hP (gM0 c3 ad w) rfl iwX8_says_X8 0 (by decide) lkX8_says_7 rfl dX8_says_1 ?_
  refine lv_iload_n hx hb dX8_says_4 rfl (lv_at hl 1 rfl) ?_
  refine lv_iconst (v := 2) hx hb dX8_says_5 (by decide) ?_
  refine lv_iadd hx hb dX8_says_6 ?_
  refine x_nmi h (fun z_3 h => ?_)
  refine lv_dup2_11 hx hb dX8_says_7 rfl rfl ?_
  obtain ⟨g_4, h⟩ := gd_s h
  refine x_iald X hP (gM1 c3 ad w) g_4 dX8_says_8 ?_
  refine lv_aload_n hx hb dX8_says_9 rfl (lv_at hl 0 rfl) ?_
  refine lv_iload_n hx hb dX8_says_10 rfl (lv_at hl 1 rfl) ?_
  refine lv_iload_n hx hb dX8_says_11 rfl (lv_at hl 3 rfl) ?_
  obtain ⟨r_6, e_5, h⟩ := bo_s h
  refine x_goi X hS (x_runV (As := [.int x1, .int x3]) (rest := [.int (w.1 1 z_3.toNatClampNeg), .int z_3, .ref (ad 1)]) X gM_ok hP hS (ctX8_nearOf l D c3 ad w _ x1 x3 _ e_5) (cwV 2 hts gX8_says_X8_nearOf rfl rfl rfl (by decide +kernel) ⟨by decide, by decide⟩) (gM0 c3 ad w) rfl rfl rfl hl.1 rfl (Nat.le_of_ble_eq_true rfl) dX8_says_12) (fun H locs hP hS => ?_)
  refine lv_iadd hx hb dX8_says_15 ?_
  refine x_iast X hP hS (gM1 c3 ad w) (sM1 c3 ad w _ _) g_4 dX8_says_16 (fun H locs hP hS => ?_)
  refine x_nmw h hP (fun w_8 h hP => ?_)
  refine lv_aload_n hx hb dX8_says_17 rfl (lv_at hl 0 rfl) ?_
  refine x_get (rest := []) X hP (gM0 c3 ad w_8) rfl iwX8_says_X8 0 (by decide) lkX8_says_7 rfl dX8_says_18 ?_
  refine lv_iload_n hx hb dX8_says_21 rfl (lv_at hl 1 rfl) ?_
  refine lv_iconst (v := 3) hx hb dX8_says_22 (by decide) ?_
  refine lv_iadd hx hb dX8_says_23 ?_
  refine x_nmi h (fun z_9 h => ?_)
  refine lv_dup2_11 hx hb dX8_says_24 rfl rfl ?_
  obtain ⟨g_10, h⟩ := gd_s h
  refine x_iald X hP (gM1 c3 ad w_8) g_10 dX8_says_25 ?_
  refine lv_aload_n hx hb dX8_says_26 rfl (lv_at hl 0 rfl) ?_
  refine x_get (rest := [.int (w_8.1 1 z_9.toNatClampNeg), .int z_9, .ref (ad 1)]) X hP (gM0 c3 ad w_8) rfl iwX8_says_X8 6 (by decide) lkX8_says_22 rfl dX8_says_27 ?_
  refine lv_iload_n hx hb dX8_says_30 rfl (lv_at hl 3 rfl) ?_
  obtain ⟨g_11, h⟩ := gd_s h
  refine x_iald X hP (gM5 c3 ad w_8) g_11 dX8_says_31 ?_
  refine lv_ior hx hb dX8_says_32 ?_
  refine x_iast X hP hS (gM1 c3 ad w_8) (sM1 c3 ad w_8 _ _) g_10 dX8_says_33 (fun H locs hP hS => ?_)
  refine x_nmw h hP (fun w_12 h hP => ?_)
  refine lv_aload_n hx hb dX8_says_34 rfl (lv_at hl 0 rfl) ?_
  refine x_get (rest := []) X hP (gM0 c3 ad w_12) rfl iwX8_says_X8 0 (by decide) lkX8_says_7 rfl dX8_says_35 ?_
  refine lv_iload_n hx hb dX8_says_38 rfl (lv_at hl 1 rfl) ?_
  refine lv_iconst (v := 5) hx hb dX8_says_39 (by decide) ?_
  refine lv_iadd hx hb dX8_says_40 ?_
  refine lv_iload_n hx hb dX8_says_41 rfl (lv_at hl 3 rfl) ?_
  refine lv_iadd hx hb dX8_says_42 ?_
  refine x_nmi h (fun z_13 h => ?_)
  refine lv_dup2_11 hx hb dX8_says_43 rfl rfl ?_
  obtain ⟨g_14, h⟩ := gd_s h
  refine x_iald X hP (gM1 c3 ad w_12) g_14 dX8_says_44 ?_
  refine lv_iconst (v := 1) hx hb dX8_says_45 (by decide) ?_
  refine lv_iadd hx hb dX8_says_46 ?_
  refine x_iast X hP hS (gM1 c3 ad w_12) (sM1 c3 ad w_12 _ _) g_14 dX8_says_47 (fun H locs hP hS => ?_)
  refine x_nmw h hP (fun w_15 h hP => ?_)
  refine lv_aload_n hx hb dX8_says_48 rfl (lv_at hl 0 rfl) ?_
  refine x_get (rest := []) X hP (gM0 c3 ad w_15) rfl iwX8_says_X8 0 (by decide) lkX8_says_7 rfl dX8_says_49 ?_
  refine lv_iload_n hx hb dX8_says_52 rfl (lv_at hl 1 rfl) ?_
  refine lv_iconst (v := 4) hx hb dX8_says_53 (by decide) ?_
  refine lv_iadd hx hb dX8_says_54 ?_
  refine lv_aload_n hx hb dX8_says_55 rfl (lv_at hl 0 rfl) ?_
  refine x_get (rest := [.int (x1 + 4), .ref (ad 1)]) X hP (gM0 c3 ad w_15) rfl iwX8_says_X8 0 (by decide) lkX8_says_7 rfl dX8_says_56 ?_
  refine lv_iload_n hx hb dX8_says_59 rfl (lv_at hl 1 rfl) ?_
  refine lv_iconst (v := 2) hx hb dX8_says_60 (by decide) ?_
  refine lv_iadd hx hb dX8_says_61 ?_
  obtain ⟨g_16, h⟩ := gd_s h
  refine x_iald X hP (gM1 c3 ad w_15) g_16 dX8_says_62 ?_
  refine lv_aload_n hx hb dX8_says_63 rfl (lv_at hl 0 rfl) ?_
  refine x_get (rest := [.int (w_15.1 1 (x1 + 2).toNatClampNeg), .int (x1 + 4), .ref (ad 1)]) X hP (gM0 c3 ad w_15) rfl iwX8_says_X8 2 (by decide) lkX8_says_13 rfl dX8_says_64 ?_
  refine lv_iload_n hx hb dX8_says_67 rfl (lv_at hl 2 rfl) ?_
  obtain ⟨g_17, h⟩ := gd_s h
  refine x_iald X hP (gM2 c3 ad w_15) g_17 dX8_says_68 ?_
  refine lv_icmp_le (tgt := 76) hx hb dX8_says_69 (by decide) (fun c_18 => ?_) (fun c_18 => ?_)
  · replace h := it_p c_18 h
    refine lv_bipush (v := (-9)) hx hb dX8_says_76 (by decide) ?_
    exact bX8_says_78 X hret (-9) (x1 + 4) w_15 _ _ _ hP hS (lv_sub hl [] rfl) h
  · replace h := it_n c_18 h
    refine lv_iload_n hx hb dX8_says_72 rfl (lv_at hl 2 rfl) ?_
    refine lv_goto (tgt := 78) hx hb dX8_says_73 (by decide) ?_
    exact bX8_says_78 X hret x2 (x1 + 4) w_15 _ _ _ hP hS (lv_sub hl [] rfl) h
def fX8_says (x1 : Int32) (x2 : Int32) (x3 : Int32) (w : Mm) : Option (Mm) := fX8_says_E x1 x2 x3 w
theorem ctX8_says (l : Launch) (D : va_G) (c3 : C3) (ad : Nat → Nat) (w : Mm) (sz : Nat) (x1 : Int32) (x2 : Int32) (x3 : Int32) (w' : Mm) (h : fX8_says x1 x2 x3 w = some w') : Cv l yX8_says wsX8_says rmX8_says D c3 (encM c3 ad) gM [.ref (ad 0), .int x1, .int x2, .int x3] w sz w' := by
  refine Cv.of (cc := cX8_says) (maxL := 4) (encM_ok c3 ad) (by decide) rfl (Nat.le_of_ble_eq_true rfl) ?_
  intro p e s m below meth c A Q ls X hret hP hS hl
  exact bX8_says_E X hret x1 x2 x3 w _ _ ls hP hS hl h
theorem iwX8_say_X8 : ∀ w ∈ wsX80, w ∈ wsX8_say := fun _ h => List.mem_cons_of_mem _ (List.mem_append_right _ h)
theorem lkX8_say_7 : Cond.fieldLink RX8 7 "StuckDoorModel" "row" "[I" ∈ wsX8_say := by decide +kernel
def rmX8_say : Room := { frames := 4, cells := 0, slots := 0, locals := 87 }
def fX8_say_E (x1 : Int32) (x2 : Int32) (w : Mm) : Option (Int32 × Mm) := bo (fX8_isOne x1 w) (fun r_2 => (if r_2 = 0 then some ((-1), w) else bo (fX8_isSaying x2 w) (fun r_6 => (if r_6 = 0 then some ((-1), w) else bo (fX8_isOver w) (fun r_10 => (if r_10 = 0 then (if (w.1 1 0) = 40 then some ((-2), w) else bo (fX8_keepPast w) (fun w_16 => bo (fX8_says 0 x1 x2 w_16) (fun w_19 => some ((w_19.1 1 2), w_19)))) else some ((-4), w)))))))
set_option maxRecDepth 20000 in
theorem bX8_say_E {p : Program} {l : Launch} {e : Env} {s : State} {m : MethodId} {args : Array Value} {below : List Frame} {meth : Method} {c : Code} {Q : State → Prop} {D : va_G} {c3 : C3} {ad : Nat → Nat} {A : Nat → Prop} {r : Int32} {w' : Mm} (X : Cx p s m args c cX8_say 3 RX8 wsX8_say D c3 (encM c3 ad) gM A) (hret : Ri p l e (rmX8_say) s m args below meth c Q cX8_say D (encM c3 ad) A r w') : ∀ (x1 : Int32) (x2 : Int32) (w : Mm) (H : Heap) (locs : List Loc) (ls : Array Slot), va_P D vwCl ((encM c3 ad) w) H → va_S A s.heap H locs → lv_has ls 3 [(0, .ref (ad 0)), (1, .int x1), (2, .int x2)] → fX8_say_E x1 x2 w = some (r, w') → W p l e (rmX8_say) s m args below meth c H locs 0 0 Q (F0 m 0 ls []) := by
  have hx := X.1
  have hb := X.2.1
  have hml := X.2.2.1
  have hown := X.2.2.2.1
  have hts := X.2.2.2.2.1
  intro x1 x2 w H locs ls hP hS hl h
  unfold fX8_say_E at h
  refine lv_aload_n hx hb dX8_say_0 rfl (lv_at hl 0 rfl) ?_
  refine lv_iload_n hx hb dX8_say_1 rfl (lv_at hl 1 rfl) ?_
  obtain ⟨r_2, e_1, h⟩ := bo_s h
  refine x_goi X hS (x_runV (As := [.int x1]) (rest := []) X gM_ok hP hS (ctX8_isOne l D c3 ad w _ x1 _ e_1) (cwV 1 hts gX8_say_X8_isOne rfl rfl rfl (by decide +kernel) ⟨by decide, by decide⟩) (gM0 c3 ad w) rfl rfl rfl hl.1 rfl (Nat.le_of_ble_eq_true rfl) dX8_say_2) (fun H locs hP hS => ?_)
  refine lv_if_eq (tgt := 16) hx hb dX8_say_5 (by decide) (fun c_4 => ?_) (fun c_4 => ?_)
  · replace h := it_p c_4 h
    refine lv_iconst (v := (-1)) hx hb dX8_say_16 (by decide) ?_
    obtain ⟨rfl, rfl⟩ := Prod.mk.inj (Option.some.inj h)
    exact hret _ _ _ _ hP hS dX8_say_17
  · replace h := it_n c_4 h
    refine lv_aload_n hx hb dX8_say_8 rfl (lv_at hl 0 rfl) ?_
    refine lv_iload_n hx hb dX8_say_9 rfl (lv_at hl 2 rfl) ?_
    obtain ⟨r_6, e_5, h⟩ := bo_s h
    refine x_goi X hS (x_runV (As := [.int x2]) (rest := []) X gM_ok hP hS (ctX8_isSaying l D c3 ad w _ x2 _ e_5) (cwV 1 hts gX8_say_X8_isSaying rfl rfl rfl (by decide +kernel) ⟨by decide, by decide⟩) (gM0 c3 ad w) rfl rfl rfl hl.1 rfl (Nat.le_of_ble_eq_true rfl) dX8_say_10) (fun H locs hP hS => ?_)
    refine lv_if_ne (tgt := 18) hx hb dX8_say_13 (by decide) (fun c_8 => ?_) (fun c_8 => ?_)
    · replace h := it_n c_8 h
      refine lv_aload_n hx hb dX8_say_18 rfl (lv_at hl 0 rfl) ?_
      obtain ⟨r_10, e_9, h⟩ := bo_s h
      refine x_goi X hS (x_runV (As := []) (rest := []) X gM_ok hP hS (ctX8_isOver l D c3 ad w _ _ e_9) (cwV 0 hts gX8_say_X8_isOver rfl rfl rfl (by decide +kernel) ⟨by decide, by decide⟩) (gM0 c3 ad w) rfl rfl rfl hl.1 rfl (Nat.le_of_ble_eq_true rfl) dX8_say_19) (fun H locs hP hS => ?_)
      refine lv_if_eq (tgt := 28) hx hb dX8_say_22 (by decide) (fun c_12 => ?_) (fun c_12 => ?_)
      · replace h := it_p c_12 h
        refine lv_aload_n hx hb dX8_say_28 rfl (lv_at hl 0 rfl) ?_
        refine x_get (rest := []) X hP (gM0 c3 ad w) rfl iwX8_say_X8 0 (by decide) lkX8_say_7 rfl dX8_say_29 ?_
        refine lv_iconst (v := 0) hx hb dX8_say_32 (by decide) ?_
        refine x_ialdL (j := 0) X hP (gM1 c3 ad w) (by decide) rfl dX8_say_33 ?_
        refine lv_bipush (v := 40) hx hb dX8_say_34 (by decide) ?_
        refine lv_icmp_ne (tgt := 42) hx hb dX8_say_36 (by decide) (fun c_13 => ?_) (fun c_13 => ?_)
        · replace h := it_n c_13 h
          refine lv_aload_n hx hb dX8_say_42 rfl (lv_at hl 0 rfl) ?_
          obtain ⟨w_16, e_14, h⟩ := bo_s h
          refine x_gov X hS (x_runV (As := []) (rest := []) X gM_ok hP hS (ctX8_keepPast l D c3 ad w _ _ e_14) (cwV 0 hts gX8_say_X8_keepPast rfl rfl rfl (by decide +kernel) ⟨by decide, by decide⟩) (gM0 c3 ad w) rfl rfl rfl hl.1 rfl (Nat.le_of_ble_eq_true rfl) dX8_say_43) (fun H locs hP hS => ?_)
          refine lv_aload_n hx hb dX8_say_46 rfl (lv_at hl 0 rfl) ?_
          refine lv_iconst (v := 0) hx hb dX8_say_47 (by decide) ?_
          refine lv_iload_n hx hb dX8_say_48 rfl (lv_at hl 1 rfl) ?_
          refine lv_iload_n hx hb dX8_say_49 rfl (lv_at hl 2 rfl) ?_
          obtain ⟨w_19, e_17, h⟩ := bo_s h
          refine x_gov X hS (x_runV (As := [.int 0, .int x1, .int x2]) (rest := []) X gM_ok hP hS (ctX8_says l D c3 ad w_16 _ 0 x1 x2 _ e_17) (cwV 3 hts gX8_say_X8_says rfl rfl rfl (by decide +kernel) ⟨by decide, by decide⟩) (gM0 c3 ad w_16) rfl rfl rfl hl.1 rfl (Nat.le_of_ble_eq_true rfl) dX8_say_50) (fun H locs hP hS => ?_)
          refine lv_aload_n hx hb dX8_say_53 rfl (lv_at hl 0 rfl) ?_
          refine x_get (rest := []) X hP (gM0 c3 ad w_19) rfl iwX8_say_X8 0 (by decide) lkX8_say_7 rfl dX8_say_54 ?_
          refine lv_iconst (v := 2) hx hb dX8_say_57 (by decide) ?_
          refine x_ialdL (j := 2) X hP (gM1 c3 ad w_19) (by decide) rfl dX8_say_58 ?_
          obtain ⟨rfl, rfl⟩ := Prod.mk.inj (Option.some.inj h)
          exact hret _ _ _ _ hP hS dX8_say_59
        · replace h := it_p c_13 h
          refine lv_bipush (v := (-2)) hx hb dX8_say_39 (by decide) ?_
          obtain ⟨rfl, rfl⟩ := Prod.mk.inj (Option.some.inj h)
          exact hret _ _ _ _ hP hS dX8_say_41
      · replace h := it_n c_12 h
        refine lv_bipush (v := (-4)) hx hb dX8_say_25 (by decide) ?_
        obtain ⟨rfl, rfl⟩ := Prod.mk.inj (Option.some.inj h)
        exact hret _ _ _ _ hP hS dX8_say_27
    · replace h := it_p c_8 h
      refine lv_iconst (v := (-1)) hx hb dX8_say_16 (by decide) ?_
      obtain ⟨rfl, rfl⟩ := Prod.mk.inj (Option.some.inj h)
      exact hret _ _ _ _ hP hS dX8_say_17
def fX8_say (x1 : Int32) (x2 : Int32) (w : Mm) : Option (Int32 × Mm) := fX8_say_E x1 x2 w
theorem ctX8_say (l : Launch) (D : va_G) (c3 : C3) (ad : Nat → Nat) (w : Mm) (sz : Nat) (x1 : Int32) (x2 : Int32) (r : Int32) (w' : Mm) (h : fX8_say x1 x2 w = some (r, w')) : Ci l yX8_say wsX8_say rmX8_say D c3 (encM c3 ad) gM [.ref (ad 0), .int x1, .int x2] w sz r w' := by
  refine Ci.of (cc := cX8_say) (maxL := 3) (encM_ok c3 ad) (by decide) rfl (Nat.le_of_ble_eq_true rfl) ?_
  intro p e s m below meth c A Q ls X hret hP hS hl
  exact bX8_say_E X hret x1 x2 w _ _ ls hP hS hl h
theorem iwX8_eases_X8 : ∀ w ∈ wsX80, w ∈ wsX8_eases := fun _ h => List.mem_cons_of_mem _ (List.mem_append_right _ h)
theorem lkX8_eases_7 : Cond.fieldLink RX8 7 "StuckDoorModel" "row" "[I" ∈ wsX8_eases := by decide +kernel
def rmX8_eases : Room := { frames := 0, cells := 0, slots := 0, locals := 0 }
def fX8_eases_25 (z0 : Int32) (z1 : Int32) (z2 : Int32) (w : Mm) : Option (Mm) := gd (inb z2 1655 = true) (nm (sA w 1 z2.toNatClampNeg (z1 - z0)) (fun w_2 => some w_2))
set_option maxRecDepth 20000 in
theorem bX8_eases_25 {p : Program} {l : Launch} {e : Env} {s : State} {m : MethodId} {args : Array Value} {below : List Frame} {meth : Method} {c : Code} {Q : State → Prop} {D : va_G} {c3 : C3} {ad : Nat → Nat} {A : Nat → Prop} {w' : Mm} (X : Cx p s m args c cX8_eases 2 RX8 wsX8_eases D c3 (encM c3 ad) gM A) (hret : Rv p l e (rmX8_eases) s m args below meth c Q cX8_eases D (encM c3 ad) A w') : ∀ (z0 : Int32) (z1 : Int32) (z2 : Int32) (w : Mm) (H : Heap) (locs : List Loc) (ls : Array Slot), va_P D vwCl ((encM c3 ad) w) H → va_S A s.heap H locs → lv_has ls 2 [] → fX8_eases_25 z0 z1 z2 w = some w' → W p l e (rmX8_eases) s m args below meth c H locs 0 0 Q (F0 m 25 ls [.int z0, .int z1, .int z2, .ref (ad 1)]) := by
  have hx := X.1
  have hb := X.2.1
  have hml := X.2.2.1
  have hown := X.2.2.2.1
  have hts := X.2.2.2.2.1
  intro z0 z1 z2 w H locs ls hP hS hl h
  unfold fX8_eases_25 at h
  refine lv_isub hx hb dX8_eases_25 ?_
  obtain ⟨g_1, h⟩ := gd_s h
  refine x_iast X hP hS (gM1 c3 ad w) (sM1 c3 ad w _ _) g_1 dX8_eases_26 (fun H locs hP hS => ?_)
  refine x_nmw h hP (fun w_2 h hP => ?_)
  obtain rfl := Option.some.inj h
  exact hret _ _ _ _ hP hS dX8_eases_27
def fX8_eases_E (x1 : Int32) (w : Mm) : Option (Mm) := nm (x1 + 2) (fun z_3 => gd (inb z_3 1655 = true) (gd (inb (x1 + 2) 1655 = true) ((if (w.1 1 (x1 + 2).toNatClampNeg) ≤ 0 then fX8_eases_25 0 (w.1 1 z_3.toNatClampNeg) z_3 w else fX8_eases_25 1 (w.1 1 z_3.toNatClampNeg) z_3 w))))
set_option maxRecDepth 20000 in
theorem bX8_eases_E {p : Program} {l : Launch} {e : Env} {s : State} {m : MethodId} {args : Array Value} {below : List Frame} {meth : Method} {c : Code} {Q : State → Prop} {D : va_G} {c3 : C3} {ad : Nat → Nat} {A : Nat → Prop} {w' : Mm} (X : Cx p s m args c cX8_eases 2 RX8 wsX8_eases D c3 (encM c3 ad) gM A) (hret : Rv p l e (rmX8_eases) s m args below meth c Q cX8_eases D (encM c3 ad) A w') : ∀ (x1 : Int32) (w : Mm) (H : Heap) (locs : List Loc) (ls : Array Slot), va_P D vwCl ((encM c3 ad) w) H → va_S A s.heap H locs → lv_has ls 2 [(0, .ref (ad 0)), (1, .int x1)] → fX8_eases_E x1 w = some w' → W p l e (rmX8_eases) s m args below meth c H locs 0 0 Q (F0 m 0 ls []) := by
  have hx := X.1
  have hb := X.2.1
  have hml := X.2.2.1
  have hown := X.2.2.2.1
  have hts := X.2.2.2.2.1
  intro x1 w H locs ls hP hS hl h
  unfold fX8_eases_E at h
  refine lv_aload_n hx hb dX8_eases_0 rfl (lv_at hl 0 rfl) ?_
  refine x_get (rest := []) X hP (gM0 c3 ad w) rfl iwX8_eases_X8 0 (by decide) lkX8_eases_7 rfl dX8_eases_1 ?_
  refine lv_iload_n hx hb dX8_eases_4 rfl (lv_at hl 1 rfl) ?_
  refine lv_iconst (v := 2) hx hb dX8_eases_5 (by decide) ?_
  refine lv_iadd hx hb dX8_eases_6 ?_
  refine x_nmi h (fun z_3 h => ?_)
  refine lv_dup2_11 hx hb dX8_eases_7 rfl rfl ?_
  obtain ⟨g_4, h⟩ := gd_s h
  refine x_iald X hP (gM1 c3 ad w) g_4 dX8_eases_8 ?_
  refine lv_aload_n hx hb dX8_eases_9 rfl (lv_at hl 0 rfl) ?_
  refine x_get (rest := [.int (w.1 1 z_3.toNatClampNeg), .int z_3, .ref (ad 1)]) X hP (gM0 c3 ad w) rfl iwX8_eases_X8 0 (by decide) lkX8_eases_7 rfl dX8_eases_10 ?_
  refine lv_iload_n hx hb dX8_eases_13 rfl (lv_at hl 1 rfl) ?_
  refine lv_iconst (v := 2) hx hb dX8_eases_14 (by decide) ?_
  refine lv_iadd hx hb dX8_eases_15 ?_
  obtain ⟨g_5, h⟩ := gd_s h
  refine x_iald X hP (gM1 c3 ad w) g_5 dX8_eases_16 ?_
  refine lv_if_le (tgt := 24) hx hb dX8_eases_17 (by decide) (fun c_6 => ?_) (fun c_6 => ?_)
  · replace h := it_p c_6 h
    refine lv_iconst (v := 0) hx hb dX8_eases_24 (by decide) ?_
    exact bX8_eases_25 X hret 0 (w.1 1 z_3.toNatClampNeg) z_3 w _ _ _ hP hS (lv_sub hl [] rfl) h
  · replace h := it_n c_6 h
    refine lv_iconst (v := 1) hx hb dX8_eases_20 (by decide) ?_
    refine lv_goto (tgt := 25) hx hb dX8_eases_21 (by decide) ?_
    exact bX8_eases_25 X hret 1 (w.1 1 z_3.toNatClampNeg) z_3 w _ _ _ hP hS (lv_sub hl [] rfl) h
def fX8_eases (x1 : Int32) (w : Mm) : Option (Mm) := fX8_eases_E x1 w
theorem ctX8_eases (l : Launch) (D : va_G) (c3 : C3) (ad : Nat → Nat) (w : Mm) (sz : Nat) (x1 : Int32) (w' : Mm) (h : fX8_eases x1 w = some w') : Cv l yX8_eases wsX8_eases rmX8_eases D c3 (encM c3 ad) gM [.ref (ad 0), .int x1] w sz w' := by
  refine Cv.of (cc := cX8_eases) (maxL := 2) (encM_ok c3 ad) (by decide) rfl (Nat.le_of_ble_eq_true rfl) ?_
  intro p e s m below meth c A Q ls X hret hP hS hl
  exact bX8_eases_E X hret x1 w _ _ ls hP hS hl h
theorem iwX8_doDay_X8 : ∀ w ∈ wsX80, w ∈ wsX8_doDay := fun _ h => List.mem_cons_of_mem _ (List.mem_append_right _ h)
theorem lkX8_doDay_7 : Cond.fieldLink RX8 7 "StuckDoorModel" "row" "[I" ∈ wsX8_doDay := by decide +kernel
def rmX8_doDay : Room := { frames := 1, cells := 0, slots := 0, locals := 21 }
def fX8_doDay_E (w : Mm) : Option (Mm) := bo (fX8_keepPast w) (fun w_3 => nm (sA w_3 1 1 ((w_3.1 1 1) + 1)) (fun w_4 => bo (fX8_eases 0 w_4) (fun w_7 => some w_7)))
set_option maxRecDepth 20000 in
theorem bX8_doDay_E {p : Program} {l : Launch} {e : Env} {s : State} {m : MethodId} {args : Array Value} {below : List Frame} {meth : Method} {c : Code} {Q : State → Prop} {D : va_G} {c3 : C3} {ad : Nat → Nat} {A : Nat → Prop} {w' : Mm} (X : Cx p s m args c cX8_doDay 1 RX8 wsX8_doDay D c3 (encM c3 ad) gM A) (hret : Rv p l e (rmX8_doDay) s m args below meth c Q cX8_doDay D (encM c3 ad) A w') : ∀ (w : Mm) (H : Heap) (locs : List Loc) (ls : Array Slot), va_P D vwCl ((encM c3 ad) w) H → va_S A s.heap H locs → lv_has ls 1 [(0, .ref (ad 0))] → fX8_doDay_E w = some w' → W p l e (rmX8_doDay) s m args below meth c H locs 0 0 Q (F0 m 0 ls []) := by
  have hx := X.1
  have hb := X.2.1
  have hml := X.2.2.1
  have hown := X.2.2.2.1
  have hts := X.2.2.2.2.1
  intro w H locs ls hP hS hl h
  unfold fX8_doDay_E at h
  refine lv_aload_n hx hb dX8_doDay_0 rfl (lv_at hl 0 rfl) ?_
  obtain ⟨w_3, e_1, h⟩ := bo_s h
  refine x_gov X hS (x_runV (As := []) (rest := []) X gM_ok hP hS (ctX8_keepPast l D c3 ad w _ _ e_1) (cwV 0 hts gX8_doDay_X8_keepPast rfl rfl rfl (by decide +kernel) ⟨by decide, by decide⟩) (gM0 c3 ad w) rfl rfl rfl hl.1 rfl (Nat.le_of_ble_eq_true rfl) dX8_doDay_1) (fun H locs hP hS => ?_)
  refine lv_aload_n hx hb dX8_doDay_4 rfl (lv_at hl 0 rfl) ?_
  refine x_get (rest := []) X hP (gM0 c3 ad w_3) rfl iwX8_doDay_X8 0 (by decide) lkX8_doDay_7 rfl dX8_doDay_5 ?_
  refine lv_iconst (v := 1) hx hb dX8_doDay_8 (by decide) ?_
  refine lv_dup2_11 hx hb dX8_doDay_9 rfl rfl ?_
  refine x_ialdL (j := 1) X hP (gM1 c3 ad w_3) (by decide) rfl dX8_doDay_10 ?_
  refine lv_iconst (v := 1) hx hb dX8_doDay_11 (by decide) ?_
  refine lv_iadd hx hb dX8_doDay_12 ?_
  refine x_iastL (j := 1) X hP hS (gM1 c3 ad w_3) (sM1 c3 ad w_3 _ _) (by decide) rfl dX8_doDay_13 (fun H locs hP hS => ?_)
  refine x_nmw h hP (fun w_4 h hP => ?_)
  refine lv_aload_n hx hb dX8_doDay_14 rfl (lv_at hl 0 rfl) ?_
  refine lv_iconst (v := 0) hx hb dX8_doDay_15 (by decide) ?_
  obtain ⟨w_7, e_5, h⟩ := bo_s h
  refine x_gov X hS (x_runV (As := [.int 0]) (rest := []) X gM_ok hP hS (ctX8_eases l D c3 ad w_4 _ 0 _ e_5) (cwV 1 hts gX8_doDay_X8_eases rfl rfl rfl (by decide +kernel) ⟨by decide, by decide⟩) (gM0 c3 ad w_4) rfl rfl rfl hl.1 rfl (Nat.le_of_ble_eq_true rfl) dX8_doDay_16) (fun H locs hP hS => ?_)
  obtain rfl := Option.some.inj h
  exact hret _ _ _ _ hP hS dX8_doDay_19
def fX8_doDay (w : Mm) : Option (Mm) := fX8_doDay_E w
theorem ctX8_doDay (l : Launch) (D : va_G) (c3 : C3) (ad : Nat → Nat) (w : Mm) (sz : Nat) (w' : Mm) (h : fX8_doDay w = some w') : Cv l yX8_doDay wsX8_doDay rmX8_doDay D c3 (encM c3 ad) gM [.ref (ad 0)] w sz w' := by
  refine Cv.of (cc := cX8_doDay) (maxL := 1) (encM_ok c3 ad) (by decide) rfl (Nat.le_of_ble_eq_true rfl) ?_
  intro p e s m below meth c A Q ls X hret hP hS hl
  exact bX8_doDay_E X hret w _ _ ls hP hS hl h
theorem iwX8_day_X8 : ∀ w ∈ wsX80, w ∈ wsX8_day := fun _ h => List.mem_cons_of_mem _ (List.mem_append_right _ h)
theorem lkX8_day_7 : Cond.fieldLink RX8 7 "StuckDoorModel" "row" "[I" ∈ wsX8_day := by decide +kernel
theorem lkX8_day_167 : Cond.fieldLink RX8 167 "StuckDoorModel" "sayings" "I" ∈ wsX8_day := by decide +kernel
def rmX8_day : Room := { frames := 2, cells := 0, slots := 0, locals := 41 }
def fX8_day_E (w : Mm) : Option (Int32 × Mm) := (if (w.1 0 3) = 0 then some ((-4), w) else (if (w.1 1 0) = 40 then some ((-2), w) else bo (fX8_doDay w) (fun w_5 => some ((w_5.1 1 2), w_5))))
set_option maxRecDepth 20000 in
theorem bX8_day_E {p : Program} {l : Launch} {e : Env} {s : State} {m : MethodId} {args : Array Value} {below : List Frame} {meth : Method} {c : Code} {Q : State → Prop} {D : va_G} {c3 : C3} {ad : Nat → Nat} {A : Nat → Prop} {r : Int32} {w' : Mm} (X : Cx p s m args c cX8_day 1 RX8 wsX8_day D c3 (encM c3 ad) gM A) (hret : Ri p l e (rmX8_day) s m args below meth c Q cX8_day D (encM c3 ad) A r w') : ∀ (w : Mm) (H : Heap) (locs : List Loc) (ls : Array Slot), va_P D vwCl ((encM c3 ad) w) H → va_S A s.heap H locs → lv_has ls 1 [(0, .ref (ad 0))] → fX8_day_E w = some (r, w') → W p l e (rmX8_day) s m args below meth c H locs 0 0 Q (F0 m 0 ls []) := by
  have hx := X.1
  have hb := X.2.1
  have hml := X.2.2.1
  have hown := X.2.2.2.1
  have hts := X.2.2.2.2.1
  intro w H locs ls hP hS hl h
  unfold fX8_day_E at h
  refine lv_aload_n hx hb dX8_day_0 rfl (lv_at hl 0 rfl) ?_
  refine x_get (rest := []) X hP (gM0 c3 ad w) rfl iwX8_day_X8 3 (by decide) lkX8_day_167 rfl dX8_day_1 ?_
  refine lv_if_ne (tgt := 10) hx hb dX8_day_4 (by decide) (fun c_1 => ?_) (fun c_1 => ?_)
  · replace h := it_n c_1 h
    refine lv_aload_n hx hb dX8_day_10 rfl (lv_at hl 0 rfl) ?_
    refine x_get (rest := []) X hP (gM0 c3 ad w) rfl iwX8_day_X8 0 (by decide) lkX8_day_7 rfl dX8_day_11 ?_
    refine lv_iconst (v := 0) hx hb dX8_day_14 (by decide) ?_
    refine x_ialdL (j := 0) X hP (gM1 c3 ad w) (by decide) rfl dX8_day_15 ?_
    refine lv_bipush (v := 40) hx hb dX8_day_16 (by decide) ?_
    refine lv_icmp_ne (tgt := 24) hx hb dX8_day_18 (by decide) (fun c_2 => ?_) (fun c_2 => ?_)
    · replace h := it_n c_2 h
      refine lv_aload_n hx hb dX8_day_24 rfl (lv_at hl 0 rfl) ?_
      obtain ⟨w_5, e_3, h⟩ := bo_s h
      refine x_gov X hS (x_runV (As := []) (rest := []) X gM_ok hP hS (ctX8_doDay l D c3 ad w _ _ e_3) (cwV 0 hts gX8_day_X8_doDay rfl rfl rfl (by decide +kernel) ⟨by decide, by decide⟩) (gM0 c3 ad w) rfl rfl rfl hl.1 rfl (Nat.le_of_ble_eq_true rfl) dX8_day_25) (fun H locs hP hS => ?_)
      refine lv_aload_n hx hb dX8_day_28 rfl (lv_at hl 0 rfl) ?_
      refine x_get (rest := []) X hP (gM0 c3 ad w_5) rfl iwX8_day_X8 0 (by decide) lkX8_day_7 rfl dX8_day_29 ?_
      refine lv_iconst (v := 2) hx hb dX8_day_32 (by decide) ?_
      refine x_ialdL (j := 2) X hP (gM1 c3 ad w_5) (by decide) rfl dX8_day_33 ?_
      obtain ⟨rfl, rfl⟩ := Prod.mk.inj (Option.some.inj h)
      exact hret _ _ _ _ hP hS dX8_day_34
    · replace h := it_p c_2 h
      refine lv_bipush (v := (-2)) hx hb dX8_day_21 (by decide) ?_
      obtain ⟨rfl, rfl⟩ := Prod.mk.inj (Option.some.inj h)
      exact hret _ _ _ _ hP hS dX8_day_23
  · replace h := it_p c_1 h
    refine lv_bipush (v := (-4)) hx hb dX8_day_7 (by decide) ?_
    obtain ⟨rfl, rfl⟩ := Prod.mk.inj (Option.some.inj h)
    exact hret _ _ _ _ hP hS dX8_day_9
def fX8_day (w : Mm) : Option (Int32 × Mm) := fX8_day_E w
theorem ctX8_day (l : Launch) (D : va_G) (c3 : C3) (ad : Nat → Nat) (w : Mm) (sz : Nat) (r : Int32) (w' : Mm) (h : fX8_day w = some (r, w')) : Ci l yX8_day wsX8_day rmX8_day D c3 (encM c3 ad) gM [.ref (ad 0)] w sz r w' := by
  refine Ci.of (cc := cX8_day) (maxL := 1) (encM_ok c3 ad) (by decide) rfl (Nat.le_of_ble_eq_true rfl) ?_
  intro p e s m below meth c A Q ls X hret hP hS hl
  exact bX8_day_E X hret w _ _ ls hP hS hl h
theorem iwX8_undo_X8 : ∀ w ∈ wsX80, w ∈ wsX8_undo := fun _ h => List.mem_cons_of_mem _ (List.mem_append_right _ h)
theorem lkX8_undo_7 : Cond.fieldLink RX8 7 "StuckDoorModel" "row" "[I" ∈ wsX8_undo := by decide +kernel
def rmX8_undo : Room := { frames := 1, cells := 0, slots := 0, locals := 25 }
def fX8_undo_67 (x1 : Int32) (x2 : Int32) (w : Mm) : Option (Int32 × Mm) := nm (sA w 1 0 x1) (fun w_1 => some (x2, w_1))
set_option maxRecDepth 20000 in
theorem bX8_undo_67 {p : Program} {l : Launch} {e : Env} {s : State} {m : MethodId} {args : Array Value} {below : List Frame} {meth : Method} {c : Code} {Q : State → Prop} {D : va_G} {c3 : C3} {ad : Nat → Nat} {A : Nat → Prop} {r : Int32} {w' : Mm} (X : Cx p s m args c cX8_undo 4 RX8 wsX8_undo D c3 (encM c3 ad) gM A) (hret : Ri p l e (rmX8_undo) s m args below meth c Q cX8_undo D (encM c3 ad) A r w') : ∀ (x1 : Int32) (x2 : Int32) (w : Mm) (H : Heap) (locs : List Loc) (ls : Array Slot), va_P D vwCl ((encM c3 ad) w) H → va_S A s.heap H locs → lv_has ls 4 [(0, .ref (ad 0)), (1, .int x1), (2, .int x2)] → fX8_undo_67 x1 x2 w = some (r, w') → W p l e (rmX8_undo) s m args below meth c H locs 0 0 Q (F0 m 67 ls []) := by
  have hx := X.1
  have hb := X.2.1
  have hml := X.2.2.1
  have hown := X.2.2.2.1
  have hts := X.2.2.2.2.1
  intro x1 x2 w H locs ls hP hS hl h
  unfold fX8_undo_67 at h
  refine lv_aload_n hx hb dX8_undo_67 rfl (lv_at hl 0 rfl) ?_
  refine x_get (rest := []) X hP (gM0 c3 ad w) rfl iwX8_undo_X8 0 (by decide) lkX8_undo_7 rfl dX8_undo_68 ?_
  refine lv_iconst (v := 0) hx hb dX8_undo_71 (by decide) ?_
  refine lv_iload_n hx hb dX8_undo_72 rfl (lv_at hl 1 rfl) ?_
  refine x_iastL (j := 0) X hP hS (gM1 c3 ad w) (sM1 c3 ad w _ _) (by decide) rfl dX8_undo_73 (fun H locs hP hS => ?_)
  refine x_nmw h hP (fun w_1 h hP => ?_)
  refine lv_iload_n hx hb dX8_undo_74 rfl (lv_at hl 2 rfl) ?_
  obtain ⟨rfl, rfl⟩ := Prod.mk.inj (Option.some.inj h)
  exact hret _ _ _ _ hP hS dX8_undo_75
def fX8_undo_29 (x1 : Int32) (x2 : Int32) : Nat → Int32 → Mm → Option (Int32 × Mm)
  | 0, _, _ => none
  | n + 1, x3, w => (if 10 ≤ x3 then fX8_undo_67 x1 x2 w else (if x2 ≤ 0 then fX8_undo_67 x1 x2 w else gd (inb ((11 + (10 * x1)) + x3) 1655 = true) (gd (inb (1 + x3) 1655 = true) (nm (sA w 1 (1 + x3).toNatClampNeg (w.1 1 ((11 + (10 * x1)) + x3).toNatClampNeg)) (fun w_6 => fX8_undo_29 x1 x2 n (x3 + 1) w_6)))))
set_option maxRecDepth 20000 in
theorem bX8_undo_29 {p : Program} {l : Launch} {e : Env} {s : State} {m : MethodId} {args : Array Value} {below : List Frame} {meth : Method} {c : Code} {Q : State → Prop} {D : va_G} {c3 : C3} {ad : Nat → Nat} {A : Nat → Prop} {r : Int32} {w' : Mm} (X : Cx p s m args c cX8_undo 4 RX8 wsX8_undo D c3 (encM c3 ad) gM A) (hret : Ri p l e (rmX8_undo) s m args below meth c Q cX8_undo D (encM c3 ad) A r w') : ∀ (x1 : Int32) (x2 : Int32) (n : Nat) (x3 : Int32) (w : Mm) (H : Heap) (locs : List Loc) (ls : Array Slot), va_P D vwCl ((encM c3 ad) w) H → va_S A s.heap H locs → lv_has ls 4 [(0, .ref (ad 0)), (1, .int x1), (2, .int x2), (3, .int x3)] → fX8_undo_29 x1 x2 n x3 w = some (r, w') → W p l e (rmX8_undo) s m args below meth c H locs 0 0 Q (F0 m 29 ls []) := by
  have hx := X.1
  have hb := X.2.1
  have hml := X.2.2.1
  have hown := X.2.2.2.1
  have hts := X.2.2.2.2.1
  intro x1 x2 n
  induction n with
  | zero =>
    intro x3 w H locs ls hP hS hl h
    exact absurd h (by simp [fX8_undo_29])
  | succ n ih =>
    intro x3 w H locs ls hP hS hl h
    rw [fX8_undo_29] at h
    refine lv_iload_n hx hb dX8_undo_29 rfl (lv_at hl 3 rfl) ?_
    refine lv_bipush (v := 10) hx hb dX8_undo_30 (by decide) ?_
    refine lv_icmp_ge (tgt := 67) hx hb dX8_undo_32 (by decide) (fun c_2 => ?_) (fun c_2 => ?_)
    · replace h := it_p c_2 h
      exact bX8_undo_67 X hret x1 x2 w _ _ _ hP hS (lv_sub hl [0, 1, 2] rfl) h
    · replace h := it_n c_2 h
      refine lv_iload_n hx hb dX8_undo_35 rfl (lv_at hl 2 rfl) ?_
      refine lv_if_le (tgt := 67) hx hb dX8_undo_36 (by decide) (fun c_3 => ?_) (fun c_3 => ?_)
      · replace h := it_p c_3 h
        exact bX8_undo_67 X hret x1 x2 w _ _ _ hP hS (lv_sub hl [0, 1, 2] rfl) h
      · replace h := it_n c_3 h
        refine lv_aload_n hx hb dX8_undo_39 rfl (lv_at hl 0 rfl) ?_
        refine x_get (rest := []) X hP (gM0 c3 ad w) rfl iwX8_undo_X8 0 (by decide) lkX8_undo_7 rfl dX8_undo_40 ?_
        refine lv_iconst (v := 1) hx hb dX8_undo_43 (by decide) ?_
        refine lv_iload_n hx hb dX8_undo_44 rfl (lv_at hl 3 rfl) ?_
        refine lv_iadd hx hb dX8_undo_45 ?_
        refine lv_aload_n hx hb dX8_undo_46 rfl (lv_at hl 0 rfl) ?_
        refine x_get (rest := [.int (1 + x3), .ref (ad 1)]) X hP (gM0 c3 ad w) rfl iwX8_undo_X8 0 (by decide) lkX8_undo_7 rfl dX8_undo_47 ?_
        refine lv_bipush (v := 11) hx hb dX8_undo_50 (by decide) ?_
        refine lv_bipush (v := 10) hx hb dX8_undo_52 (by decide) ?_
        refine lv_iload_n hx hb dX8_undo_54 rfl (lv_at hl 1 rfl) ?_
        refine lv_imul hx hb dX8_undo_55 ?_
        refine lv_iadd hx hb dX8_undo_56 ?_
        refine lv_iload_n hx hb dX8_undo_57 rfl (lv_at hl 3 rfl) ?_
        refine lv_iadd hx hb dX8_undo_58 ?_
        obtain ⟨g_4, h⟩ := gd_s h
        refine x_iald X hP (gM1 c3 ad w) g_4 dX8_undo_59 ?_
        obtain ⟨g_5, h⟩ := gd_s h
        refine x_iast X hP hS (gM1 c3 ad w) (sM1 c3 ad w _ _) g_5 dX8_undo_60 (fun H locs hP hS => ?_)
        refine x_nmw h hP (fun w_6 h hP => ?_)
        refine lv_iinc (v := (x3 + 1)) (lv' := [(3, .int (x3 + 1)), (0, .ref (ad 0)), (1, .int x1), (2, .int x2)]) hx hb dX8_undo_61 hl (k := 3) rfl rfl (by decide) rfl (fun ls hl => ?_)
        refine lv_goto (tgt := 29) hx hb dX8_undo_64 (by decide) ?_
        exact ih (x3 + 1) w_6 _ _ _ hP hS (lv_sub hl [1, 2, 3, 0] rfl) h
def fX8_undo_E (x1 : Int32) (w : Mm) : Option (Int32 × Mm) := bo (fX8_in x1.toInt64 0 ((w.1 1 0).toInt64)) (fun r_8 => (if r_8 = 0 then some ((-1), w) else nm ((w.1 1 0) - x1) (fun x2_11 => fX8_undo_29 x1 x2_11 FU 0 w)))
set_option maxRecDepth 20000 in
theorem bX8_undo_E {p : Program} {l : Launch} {e : Env} {s : State} {m : MethodId} {args : Array Value} {below : List Frame} {meth : Method} {c : Code} {Q : State → Prop} {D : va_G} {c3 : C3} {ad : Nat → Nat} {A : Nat → Prop} {r : Int32} {w' : Mm} (X : Cx p s m args c cX8_undo 4 RX8 wsX8_undo D c3 (encM c3 ad) gM A) (hret : Ri p l e (rmX8_undo) s m args below meth c Q cX8_undo D (encM c3 ad) A r w') : ∀ (x1 : Int32) (w : Mm) (H : Heap) (locs : List Loc) (ls : Array Slot), va_P D vwCl ((encM c3 ad) w) H → va_S A s.heap H locs → lv_has ls 4 [(0, .ref (ad 0)), (1, .int x1)] → fX8_undo_E x1 w = some (r, w') → W p l e (rmX8_undo) s m args below meth c H locs 0 0 Q (F0 m 0 ls []) := by
  have hx := X.1
  have hb := X.2.1
  have hml := X.2.2.1
  have hown := X.2.2.2.1
  have hts := X.2.2.2.2.1
  intro x1 w H locs ls hP hS hl h
  unfold fX8_undo_E at h
  refine lv_iload_n hx hb dX8_undo_0 rfl (lv_at hl 1 rfl) ?_
  refine lv_i2l (v := x1.toInt64) hx hb dX8_undo_1 rfl ?_
  refine lv_lconst (v := 0) hx hb dX8_undo_2 (by decide) ?_
  refine lv_aload_n hx hb dX8_undo_3 rfl (lv_at hl 0 rfl) ?_
  refine x_get (rest := [.long 0, .long x1.toInt64]) X hP (gM0 c3 ad w) rfl iwX8_undo_X8 0 (by decide) lkX8_undo_7 rfl dX8_undo_4 ?_
  refine lv_iconst (v := 0) hx hb dX8_undo_7 (by decide) ?_
  refine x_ialdL (j := 0) X hP (gM1 c3 ad w) (by decide) rfl dX8_undo_8 ?_
  refine lv_i2l (v := (w.1 1 0).toInt64) hx hb dX8_undo_9 rfl ?_
  obtain ⟨r_8, e_7, h⟩ := bo_s h
  refine x_goi X hS (x_runS (As := [.long x1.toInt64, .long 0, .long ((w.1 1 0).toInt64)]) (rest := []) X gM_ok hP hS (ctX8_in l D c3 ad w _ x1.toInt64 0 ((w.1 1 0).toInt64) _ e_7) (va_cwS 3 hts gX8_undo_X8_in rfl rfl rfl (by decide +kernel) ⟨by decide, by decide⟩) rfl hl.1 rfl (Nat.le_of_ble_eq_true rfl) dX8_undo_10) (fun H locs hP hS => ?_)
  refine lv_if_ne (tgt := 18) hx hb dX8_undo_13 (by decide) (fun c_10 => ?_) (fun c_10 => ?_)
  · replace h := it_n c_10 h
    refine lv_aload_n hx hb dX8_undo_18 rfl (lv_at hl 0 rfl) ?_
    refine x_get (rest := []) X hP (gM0 c3 ad w) rfl iwX8_undo_X8 0 (by decide) lkX8_undo_7 rfl dX8_undo_19 ?_
    refine lv_iconst (v := 0) hx hb dX8_undo_22 (by decide) ?_
    refine x_ialdL (j := 0) X hP (gM1 c3 ad w) (by decide) rfl dX8_undo_23 ?_
    refine lv_iload_n hx hb dX8_undo_24 rfl (lv_at hl 1 rfl) ?_
    refine lv_isub hx hb dX8_undo_25 ?_
    refine x_nmi h (fun x2_11 h => ?_)
    refine lv_istore_n (lv' := [(2, .int x2_11), (0, .ref (ad 0)), (1, .int x1)]) hx hb dX8_undo_26 rfl hl (by decide) rfl (fun ls hl => ?_)
    refine lv_iconst (v := 0) hx hb dX8_undo_27 (by decide) ?_
    refine lv_istore_n (lv' := [(3, .int 0), (2, .int x2_11), (0, .ref (ad 0)), (1, .int x1)]) hx hb dX8_undo_28 rfl hl (by decide) rfl (fun ls hl => ?_)
    exact bX8_undo_29 X hret x1 x2_11 FU 0 w _ _ _ hP hS (lv_sub hl [2, 3, 1, 0] rfl) h
  · replace h := it_p c_10 h
    refine lv_iconst (v := (-1)) hx hb dX8_undo_16 (by decide) ?_
    obtain ⟨rfl, rfl⟩ := Prod.mk.inj (Option.some.inj h)
    exact hret _ _ _ _ hP hS dX8_undo_17
def fX8_undo (x1 : Int32) (w : Mm) : Option (Int32 × Mm) := fX8_undo_E x1 w
theorem ctX8_undo (l : Launch) (D : va_G) (c3 : C3) (ad : Nat → Nat) (w : Mm) (sz : Nat) (x1 : Int32) (r : Int32) (w' : Mm) (h : fX8_undo x1 w = some (r, w')) : Ci l yX8_undo wsX8_undo rmX8_undo D c3 (encM c3 ad) gM [.ref (ad 0), .int x1] w sz r w' := by
  refine Ci.of (cc := cX8_undo) (maxL := 4) (encM_ok c3 ad) (by decide) rfl (Nat.le_of_ble_eq_true rfl) ?_
  intro p e s m below meth c A Q ls X hret hP hS hl
  exact bX8_undo_E X hret x1 w _ _ ls hP hS hl h
theorem iwX8_copyFamily_X8 : ∀ w ∈ wsX80, w ∈ wsX8_copyFamily := fun _ h => List.mem_cons_of_mem _ (List.mem_append_right _ h)
theorem lkX8_copyFamily_7 : Cond.fieldLink RX8 7 "StuckDoorModel" "row" "[I" ∈ wsX8_copyFamily := by decide +kernel
def rmX8_copyFamily : Room := { frames := 0, cells := 0, slots := 0, locals := 0 }
def fX8_copyFamily_2 (x1 : Int32) (x2 : Int32) : Nat → Int32 → Mm → Option (Mm)
  | 0, _, _ => none
  | n + 1, x3, w => (if 411 ≤ x3 then some w else gd (inb (x1 + x3) 1655 = true) (gd (inb (x2 + x3) 1655 = true) (nm (sA w 1 (x2 + x3).toNatClampNeg (w.1 1 (x1 + x3).toNatClampNeg)) (fun w_4 => fX8_copyFamily_2 x1 x2 n (x3 + 1) w_4))))
set_option maxRecDepth 20000 in
theorem bX8_copyFamily_2 {p : Program} {l : Launch} {e : Env} {s : State} {m : MethodId} {args : Array Value} {below : List Frame} {meth : Method} {c : Code} {Q : State → Prop} {D : va_G} {c3 : C3} {ad : Nat → Nat} {A : Nat → Prop} {w' : Mm} (X : Cx p s m args c cX8_copyFamily 4 RX8 wsX8_copyFamily D c3 (encM c3 ad) gM A) (hret : Rv p l e (rmX8_copyFamily) s m args below meth c Q cX8_copyFamily D (encM c3 ad) A w') : ∀ (x1 : Int32) (x2 : Int32) (n : Nat) (x3 : Int32) (w : Mm) (H : Heap) (locs : List Loc) (ls : Array Slot), va_P D vwCl ((encM c3 ad) w) H → va_S A s.heap H locs → lv_has ls 4 [(0, .ref (ad 0)), (1, .int x1), (2, .int x2), (3, .int x3)] → fX8_copyFamily_2 x1 x2 n x3 w = some w' → W p l e (rmX8_copyFamily) s m args below meth c H locs 0 0 Q (F0 m 2 ls []) := by
  have hx := X.1
  have hb := X.2.1
  have hml := X.2.2.1
  have hown := X.2.2.2.1
  have hts := X.2.2.2.2.1
  intro x1 x2 n
  induction n with
  | zero =>
    intro x3 w H locs ls hP hS hl h
    exact absurd h (by simp [fX8_copyFamily_2])
  | succ n ih =>
    intro x3 w H locs ls hP hS hl h
    rw [fX8_copyFamily_2] at h
    refine lv_iload_n hx hb dX8_copyFamily_2 rfl (lv_at hl 3 rfl) ?_
    refine lv_sipush (v := 411) hx hb dX8_copyFamily_3 (by decide) ?_
    refine lv_icmp_ge (tgt := 31) hx hb dX8_copyFamily_6 (by decide) (fun c_1 => ?_) (fun c_1 => ?_)
    · replace h := it_p c_1 h
      obtain rfl := Option.some.inj h
      exact hret _ _ _ _ hP hS dX8_copyFamily_31
    · replace h := it_n c_1 h
      refine lv_aload_n hx hb dX8_copyFamily_9 rfl (lv_at hl 0 rfl) ?_
      refine x_get (rest := []) X hP (gM0 c3 ad w) rfl iwX8_copyFamily_X8 0 (by decide) lkX8_copyFamily_7 rfl dX8_copyFamily_10 ?_
      refine lv_iload_n hx hb dX8_copyFamily_13 rfl (lv_at hl 2 rfl) ?_
      refine lv_iload_n hx hb dX8_copyFamily_14 rfl (lv_at hl 3 rfl) ?_
      refine lv_iadd hx hb dX8_copyFamily_15 ?_
      refine lv_aload_n hx hb dX8_copyFamily_16 rfl (lv_at hl 0 rfl) ?_
      refine x_get (rest := [.int (x2 + x3), .ref (ad 1)]) X hP (gM0 c3 ad w) rfl iwX8_copyFamily_X8 0 (by decide) lkX8_copyFamily_7 rfl dX8_copyFamily_17 ?_
      refine lv_iload_n hx hb dX8_copyFamily_20 rfl (lv_at hl 1 rfl) ?_
      refine lv_iload_n hx hb dX8_copyFamily_21 rfl (lv_at hl 3 rfl) ?_
      refine lv_iadd hx hb dX8_copyFamily_22 ?_
      obtain ⟨g_2, h⟩ := gd_s h
      refine x_iald X hP (gM1 c3 ad w) g_2 dX8_copyFamily_23 ?_
      obtain ⟨g_3, h⟩ := gd_s h
      refine x_iast X hP hS (gM1 c3 ad w) (sM1 c3 ad w _ _) g_3 dX8_copyFamily_24 (fun H locs hP hS => ?_)
      refine x_nmw h hP (fun w_4 h hP => ?_)
      refine lv_iinc (v := (x3 + 1)) (lv' := [(3, .int (x3 + 1)), (0, .ref (ad 0)), (1, .int x1), (2, .int x2)]) hx hb dX8_copyFamily_25 hl (k := 3) rfl rfl (by decide) rfl (fun ls hl => ?_)
      refine lv_goto (tgt := 2) hx hb dX8_copyFamily_28 (by decide) ?_
      exact ih (x3 + 1) w_4 _ _ _ hP hS (lv_sub hl [1, 2, 3, 0] rfl) h
def fX8_copyFamily_E (x1 : Int32) (x2 : Int32) (w : Mm) : Option (Mm) := fX8_copyFamily_2 x1 x2 FU 0 w
set_option maxRecDepth 20000 in
theorem bX8_copyFamily_E {p : Program} {l : Launch} {e : Env} {s : State} {m : MethodId} {args : Array Value} {below : List Frame} {meth : Method} {c : Code} {Q : State → Prop} {D : va_G} {c3 : C3} {ad : Nat → Nat} {A : Nat → Prop} {w' : Mm} (X : Cx p s m args c cX8_copyFamily 4 RX8 wsX8_copyFamily D c3 (encM c3 ad) gM A) (hret : Rv p l e (rmX8_copyFamily) s m args below meth c Q cX8_copyFamily D (encM c3 ad) A w') : ∀ (x1 : Int32) (x2 : Int32) (w : Mm) (H : Heap) (locs : List Loc) (ls : Array Slot), va_P D vwCl ((encM c3 ad) w) H → va_S A s.heap H locs → lv_has ls 4 [(0, .ref (ad 0)), (1, .int x1), (2, .int x2)] → fX8_copyFamily_E x1 x2 w = some w' → W p l e (rmX8_copyFamily) s m args below meth c H locs 0 0 Q (F0 m 0 ls []) := by
  have hx := X.1
  have hb := X.2.1
  have hml := X.2.2.1
  have hown := X.2.2.2.1
  have hts := X.2.2.2.2.1
  intro x1 x2 w H locs ls hP hS hl h
  unfold fX8_copyFamily_E at h
  refine lv_iconst (v := 0) hx hb dX8_copyFamily_0 (by decide) ?_
  refine lv_istore_n (lv' := [(3, .int 0), (0, .ref (ad 0)), (1, .int x1), (2, .int x2)]) hx hb dX8_copyFamily_1 rfl hl (by decide) rfl (fun ls hl => ?_)
  exact bX8_copyFamily_2 X hret x1 x2 FU 0 w _ _ _ hP hS (lv_sub hl [1, 2, 3, 0] rfl) h
def fX8_copyFamily (x1 : Int32) (x2 : Int32) (w : Mm) : Option (Mm) := fX8_copyFamily_E x1 x2 w
theorem ctX8_copyFamily (l : Launch) (D : va_G) (c3 : C3) (ad : Nat → Nat) (w : Mm) (sz : Nat) (x1 : Int32) (x2 : Int32) (w' : Mm) (h : fX8_copyFamily x1 x2 w = some w') : Cv l yX8_copyFamily wsX8_copyFamily rmX8_copyFamily D c3 (encM c3 ad) gM [.ref (ad 0), .int x1, .int x2] w sz w' := by
  refine Cv.of (cc := cX8_copyFamily) (maxL := 4) (encM_ok c3 ad) (by decide) rfl (Nat.le_of_ble_eq_true rfl) ?_
  intro p e s m below meth c A Q ls X hret hP hS hl
  exact bX8_copyFamily_E X hret x1 x2 w _ _ ls hP hS hl h
theorem iwX8_keep_X8 : ∀ w ∈ wsX80, w ∈ wsX8_keep := fun _ h => List.mem_cons_of_mem _ (List.mem_append_right _ h)
theorem lkX8_keep_7 : Cond.fieldLink RX8 7 "StuckDoorModel" "row" "[I" ∈ wsX8_keep := by decide +kernel
theorem lkX8_keep_167 : Cond.fieldLink RX8 167 "StuckDoorModel" "sayings" "I" ∈ wsX8_keep := by decide +kernel
def rmX8_keep : Room := { frames := 1, cells := 0, slots := 0, locals := 25 }
def fX8_keep_E (x1 : Int32) (w : Mm) : Option (Int32 × Mm) := bo (fX8_in x1.toInt64 0 2) (fun r_2 => (if r_2 = 0 then some ((-1), w) else (if (w.1 0 3) = 0 then some ((-4), w) else bo (fX8_copyFamily 0 (411 * (1 + x1)) w) (fun w_8 => some ((w_8.1 1 0), w_8)))))
set_option maxRecDepth 20000 in
theorem bX8_keep_E {p : Program} {l : Launch} {e : Env} {s : State} {m : MethodId} {args : Array Value} {below : List Frame} {meth : Method} {c : Code} {Q : State → Prop} {D : va_G} {c3 : C3} {ad : Nat → Nat} {A : Nat → Prop} {r : Int32} {w' : Mm} (X : Cx p s m args c cX8_keep 2 RX8 wsX8_keep D c3 (encM c3 ad) gM A) (hret : Ri p l e (rmX8_keep) s m args below meth c Q cX8_keep D (encM c3 ad) A r w') : ∀ (x1 : Int32) (w : Mm) (H : Heap) (locs : List Loc) (ls : Array Slot), va_P D vwCl ((encM c3 ad) w) H → va_S A s.heap H locs → lv_has ls 2 [(0, .ref (ad 0)), (1, .int x1)] → fX8_keep_E x1 w = some (r, w') → W p l e (rmX8_keep) s m args below meth c H locs 0 0 Q (F0 m 0 ls []) := by
  have hx := X.1
  have hb := X.2.1
  have hml := X.2.2.1
  have hown := X.2.2.2.1
  have hts := X.2.2.2.2.1
  intro x1 w H locs ls hP hS hl h
  unfold fX8_keep_E at h
  refine lv_iload_n hx hb dX8_keep_0 rfl (lv_at hl 1 rfl) ?_
  refine lv_i2l (v := x1.toInt64) hx hb dX8_keep_1 rfl ?_
  refine lv_lconst (v := 0) hx hb dX8_keep_2 (by decide) ?_
  refine lv_ldc2 (v := 2) hx hb hown (hts (.constantLong RX8 220 (2)) (by decide +kernel)) dX8_keep_3 ?_
  obtain ⟨r_2, e_1, h⟩ := bo_s h
  refine x_goi X hS (x_runS (As := [.long x1.toInt64, .long 0, .long 2]) (rest := []) X gM_ok hP hS (ctX8_in l D c3 ad w _ x1.toInt64 0 2 _ e_1) (va_cwS 3 hts gX8_keep_X8_in rfl rfl rfl (by decide +kernel) ⟨by decide, by decide⟩) rfl hl.1 rfl (Nat.le_of_ble_eq_true rfl) dX8_keep_6) (fun H locs hP hS => ?_)
  refine lv_if_ne (tgt := 14) hx hb dX8_keep_9 (by decide) (fun c_4 => ?_) (fun c_4 => ?_)
  · replace h := it_n c_4 h
    refine lv_aload_n hx hb dX8_keep_14 rfl (lv_at hl 0 rfl) ?_
    refine x_get (rest := []) X hP (gM0 c3 ad w) rfl iwX8_keep_X8 3 (by decide) lkX8_keep_167 rfl dX8_keep_15 ?_
    refine lv_if_ne (tgt := 24) hx hb dX8_keep_18 (by decide) (fun c_5 => ?_) (fun c_5 => ?_)
    · replace h := it_n c_5 h
      refine lv_aload_n hx hb dX8_keep_24 rfl (lv_at hl 0 rfl) ?_
      refine lv_iconst (v := 0) hx hb dX8_keep_25 (by decide) ?_
      refine lv_sipush (v := 411) hx hb dX8_keep_26 (by decide) ?_
      refine lv_iconst (v := 1) hx hb dX8_keep_29 (by decide) ?_
      refine lv_iload_n hx hb dX8_keep_30 rfl (lv_at hl 1 rfl) ?_
      refine lv_iadd hx hb dX8_keep_31 ?_
      refine lv_imul hx hb dX8_keep_32 ?_
      obtain ⟨w_8, e_6, h⟩ := bo_s h
      refine x_gov X hS (x_runV (As := [.int 0, .int (411 * (1 + x1))]) (rest := []) X gM_ok hP hS (ctX8_copyFamily l D c3 ad w _ 0 (411 * (1 + x1)) _ e_6) (cwV 2 hts gX8_keep_X8_copyFamily rfl rfl rfl (by decide +kernel) ⟨by decide, by decide⟩) (gM0 c3 ad w) rfl rfl rfl hl.1 rfl (Nat.le_of_ble_eq_true rfl) dX8_keep_33) (fun H locs hP hS => ?_)
      refine lv_aload_n hx hb dX8_keep_36 rfl (lv_at hl 0 rfl) ?_
      refine x_get (rest := []) X hP (gM0 c3 ad w_8) rfl iwX8_keep_X8 0 (by decide) lkX8_keep_7 rfl dX8_keep_37 ?_
      refine lv_iconst (v := 0) hx hb dX8_keep_40 (by decide) ?_
      refine x_ialdL (j := 0) X hP (gM1 c3 ad w_8) (by decide) rfl dX8_keep_41 ?_
      obtain ⟨rfl, rfl⟩ := Prod.mk.inj (Option.some.inj h)
      exact hret _ _ _ _ hP hS dX8_keep_42
    · replace h := it_p c_5 h
      refine lv_bipush (v := (-4)) hx hb dX8_keep_21 (by decide) ?_
      obtain ⟨rfl, rfl⟩ := Prod.mk.inj (Option.some.inj h)
      exact hret _ _ _ _ hP hS dX8_keep_23
  · replace h := it_p c_4 h
    refine lv_iconst (v := (-1)) hx hb dX8_keep_12 (by decide) ?_
    obtain ⟨rfl, rfl⟩ := Prod.mk.inj (Option.some.inj h)
    exact hret _ _ _ _ hP hS dX8_keep_13
def fX8_keep (x1 : Int32) (w : Mm) : Option (Int32 × Mm) := fX8_keep_E x1 w
theorem ctX8_keep (l : Launch) (D : va_G) (c3 : C3) (ad : Nat → Nat) (w : Mm) (sz : Nat) (x1 : Int32) (r : Int32) (w' : Mm) (h : fX8_keep x1 w = some (r, w')) : Ci l yX8_keep wsX8_keep rmX8_keep D c3 (encM c3 ad) gM [.ref (ad 0), .int x1] w sz r w' := by
  refine Ci.of (cc := cX8_keep) (maxL := 2) (encM_ok c3 ad) (by decide) rfl (Nat.le_of_ble_eq_true rfl) ?_
  intro p e s m below meth c A Q ls X hret hP hS hl
  exact bX8_keep_E X hret x1 w _ _ ls hP hS hl h

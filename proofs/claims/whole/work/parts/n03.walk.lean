theorem iwX4_readPeople_X2 : ∀ w ∈ wsX20, w ∈ wsX4_readPeople := fun _ h => List.mem_cons_of_mem _ (List.mem_append_right _ h)
theorem iwX4_readPeople_X4 : ∀ w ∈ wsX40, w ∈ wsX4_readPeople := fun _ h => List.mem_cons_of_mem _ (List.mem_append_left _ (List.mem_append_right _ h))
theorem lkX4_readPeople_12 : Cond.fieldLink RX4 12 "StuckDoor$Reader" "draft" "LStuckDoor$Family;" ∈ wsX4_readPeople := by decide +kernel
theorem lkX4_readPeople_22 : Cond.fieldLink RX4 22 "StuckDoor$Reader" "size" "I" ∈ wsX4_readPeople := by decide +kernel
theorem lkX4_readPeople_60 : Cond.fieldLink RX4 60 "StuckDoor$Family" "people" "I" ∈ wsX4_readPeople := by decide +kernel
theorem lkX4_readPeople_63 : Cond.fieldLink RX4 63 "StuckDoor$Family" "bearing" "[I" ∈ wsX4_readPeople := by decide +kernel
def rmX4_readPeople : Room := { frames := 2, cells := 0, slots := 0, locals := 44 }
def fX4_readPeople_94 (x2 : Int32) (w : Mm) : Option (Int32 × Mm) := (if (w.1 31 0) ≤ 0 then bo (fX4_faultAt x2) (fun r_3 => some (r_3, w)) else some (x2, w))
set_option maxRecDepth 20000 in
theorem bX4_readPeople_94 {p : Program} {l : Launch} {e : Env} {s : State} {m : MethodId} {args : Array Value} {below : List Frame} {meth : Method} {c : Code} {Q : State → Prop} {D : va_G} {c3 : C3} {ad : Nat → Nat} {A : Nat → Prop} {r : Int32} {w' : Mm} (X : Cx p s m args c cX4_readPeople 3 RX4 wsX4_readPeople D c3 (encC c3 ad) gC A) (hret : Ri p l e (rmX4_readPeople) s m args below meth c Q cX4_readPeople D (encC c3 ad) A r w') : ∀ (x2 : Int32) (w : Mm) (H : Heap) (locs : List Loc) (ls : Array Slot), va_P D vwCl ((encC c3 ad) w) H → va_S A s.heap H locs → lv_has ls 3 [(0, .ref (ad 30)), (2, .int x2)] → fX4_readPeople_94 x2 w = some (r, w') → W p l e (rmX4_readPeople) s m args below meth c H locs 0 0 Q (F0 m 94 ls []) := by
  have hx := X.1
  have hb := X.2.1
  have hml := X.2.2.1
  have hown := X.2.2.2.1
  have hts := X.2.2.2.2.1
  intro x2 w H locs ls hP hS hl h
  unfold fX4_readPeople_94 at h
  refine lv_aload_n hx hb dX4_readPeople_94 rfl (lv_at hl 0 rfl) ?_
  refine x_get (rest := []) X hP (gC30 c3 ad w) rfl iwX4_readPeople_X4 0 (by decide) lkX4_readPeople_12 rfl dX4_readPeople_95 ?_
  refine x_get (rest := []) X hP (gC31 c3 ad w) rfl iwX4_readPeople_X2 0 (by decide) lkX4_readPeople_60 rfl dX4_readPeople_98 ?_
  refine lv_if_le (tgt := 108) hx hb dX4_readPeople_101 (by decide) (fun c_1 => ?_) (fun c_1 => ?_)
  · replace h := it_p c_1 h
    refine lv_iload_n hx hb dX4_readPeople_108 rfl (lv_at hl 1 rfl) ?_
    obtain ⟨r_3, e_2, h⟩ := bo_s h
    refine x_goi X hS (x_runS (As := [.int x2]) (rest := []) X gC_ok hP hS (ctX4_faultAt l D c3 ad w _ x2 _ e_2) (va_cwS 1 hts gX4_readPeople_X4_faultAt rfl rfl rfl (by decide +kernel) ⟨by decide, by decide⟩) rfl hl.1 rfl (Nat.le_of_ble_eq_true rfl) dX4_readPeople_109) (fun H locs hP hS => ?_)
    obtain ⟨rfl, rfl⟩ := Prod.mk.inj (Option.some.inj h)
    exact hret _ _ _ _ hP hS dX4_readPeople_112
  · replace h := it_n c_1 h
    refine lv_iload_n hx hb dX4_readPeople_104 rfl (lv_at hl 1 rfl) ?_
    refine lv_goto (tgt := 112) hx hb dX4_readPeople_105 (by decide) ?_
    obtain ⟨rfl, rfl⟩ := Prod.mk.inj (Option.some.inj h)
    exact hret _ _ _ _ hP hS dX4_readPeople_112
def fX4_readPeople_19 : Nat → Int32 → Mm → Option (Int32 × Mm)
  | 0, _, _ => none
  | n + 1, x2, w => (if (w.1 30 2) ≤ x2 then fX4_readPeople_94 x2 w else bo (fX4_figure x2 9 w) (fun r_7 => (if r_7 < 0 then fX4_readPeople_94 x2 w else (if (w.1 31 0) < 4 then bo (fX4_figure x2 9 w) (fun r_12 => gd (inb (w.1 31 0) 4 = true) (nm (sA w 32 (w.1 31 0).toNatClampNeg r_12) (fun w_15 => nm (sA w_15 31 0 ((w_15.1 31 0) + 1)) (fun w_16 => fX4_readPeople_19 n (x2 + 1) w_16)))) else bo (fX4_faultAt x2) (fun r_18 => some (r_18, w))))))
set_option maxRecDepth 20000 in
theorem bX4_readPeople_19 {p : Program} {l : Launch} {e : Env} {s : State} {m : MethodId} {args : Array Value} {below : List Frame} {meth : Method} {c : Code} {Q : State → Prop} {D : va_G} {c3 : C3} {ad : Nat → Nat} {A : Nat → Prop} {r : Int32} {w' : Mm} (X : Cx p s m args c cX4_readPeople 3 RX4 wsX4_readPeople D c3 (encC c3 ad) gC A) (hret : Ri p l e (rmX4_readPeople) s m args below meth c Q cX4_readPeople D (encC c3 ad) A r w') : ∀ (n : Nat) (x2 : Int32) (w : Mm) (H : Heap) (locs : List Loc) (ls : Array Slot), va_P D vwCl ((encC c3 ad) w) H → va_S A s.heap H locs → lv_has ls 3 [(0, .ref (ad 30)), (2, .int x2)] → fX4_readPeople_19 n x2 w = some (r, w') → W p l e (rmX4_readPeople) s m args below meth c H locs 0 0 Q (F0 m 19 ls []) := by
  have hx := X.1
  have hb := X.2.1
  have hml := X.2.2.1
  have hown := X.2.2.2.1
  have hts := X.2.2.2.2.1
  intro n
  induction n with
  | zero =>
    intro x2 w H locs ls hP hS hl h
    exact absurd h (by simp [fX4_readPeople_19])
  | succ n ih =>
    intro x2 w H locs ls hP hS hl h
    rw [fX4_readPeople_19] at h
    refine lv_iload_n hx hb dX4_readPeople_19 rfl (lv_at hl 1 rfl) ?_
    refine lv_aload_n hx hb dX4_readPeople_20 rfl (lv_at hl 0 rfl) ?_
    refine x_get (rest := [.int x2]) X hP (gC30 c3 ad w) rfl iwX4_readPeople_X4 2 (by decide) lkX4_readPeople_22 rfl dX4_readPeople_21 ?_
    refine lv_icmp_ge (tgt := 94) hx hb dX4_readPeople_24 (by decide) (fun c_5 => ?_) (fun c_5 => ?_)
    · replace h := it_p c_5 h
      exact bX4_readPeople_94 X hret x2 w _ _ _ hP hS (lv_sub hl [0, 1] rfl) h
    · replace h := it_n c_5 h
      refine lv_aload_n hx hb dX4_readPeople_27 rfl (lv_at hl 0 rfl) ?_
      refine lv_iload_n hx hb dX4_readPeople_28 rfl (lv_at hl 1 rfl) ?_
      refine lv_bipush (v := 9) hx hb dX4_readPeople_29 (by decide) ?_
      obtain ⟨r_7, e_6, h⟩ := bo_s h
      refine x_goi X hS (x_runV (As := [.int x2, .int 9]) (rest := []) X gC_ok hP hS (ctX4_figure l D c3 ad w _ x2 9 _ e_6) (cwV 2 hts gX4_readPeople_X4_figure rfl rfl rfl (by decide +kernel) ⟨by decide, by decide⟩) (gC30 c3 ad w) rfl rfl rfl hl.1 rfl (Nat.le_of_ble_eq_true rfl) dX4_readPeople_31) (fun H locs hP hS => ?_)
      refine lv_if_lt (tgt := 94) hx hb dX4_readPeople_34 (by decide) (fun c_9 => ?_) (fun c_9 => ?_)
      · replace h := it_p c_9 h
        exact bX4_readPeople_94 X hret x2 w _ _ _ hP hS (lv_sub hl [0, 1] rfl) h
      · replace h := it_n c_9 h
        refine lv_aload_n hx hb dX4_readPeople_37 rfl (lv_at hl 0 rfl) ?_
        refine x_get (rest := []) X hP (gC30 c3 ad w) rfl iwX4_readPeople_X4 0 (by decide) lkX4_readPeople_12 rfl dX4_readPeople_38 ?_
        refine x_get (rest := []) X hP (gC31 c3 ad w) rfl iwX4_readPeople_X2 0 (by decide) lkX4_readPeople_60 rfl dX4_readPeople_41 ?_
        refine lv_iconst (v := 4) hx hb dX4_readPeople_44 (by decide) ?_
        refine lv_icmp_lt (tgt := 53) hx hb dX4_readPeople_45 (by decide) (fun c_10 => ?_) (fun c_10 => ?_)
        · replace h := it_p c_10 h
          refine lv_aload_n hx hb dX4_readPeople_53 rfl (lv_at hl 0 rfl) ?_
          refine x_get (rest := []) X hP (gC30 c3 ad w) rfl iwX4_readPeople_X4 0 (by decide) lkX4_readPeople_12 rfl dX4_readPeople_54 ?_
          refine x_get (rest := []) X hP (gC31 c3 ad w) rfl iwX4_readPeople_X2 1 (by decide) lkX4_readPeople_63 rfl dX4_readPeople_57 ?_
          refine lv_aload_n hx hb dX4_readPeople_60 rfl (lv_at hl 0 rfl) ?_
          refine x_get (rest := [.ref (ad 32)]) X hP (gC30 c3 ad w) rfl iwX4_readPeople_X4 0 (by decide) lkX4_readPeople_12 rfl dX4_readPeople_61 ?_
          refine x_get (rest := [.ref (ad 32)]) X hP (gC31 c3 ad w) rfl iwX4_readPeople_X2 0 (by decide) lkX4_readPeople_60 rfl dX4_readPeople_64 ?_
          refine lv_aload_n hx hb dX4_readPeople_67 rfl (lv_at hl 0 rfl) ?_
          refine lv_iload_n hx hb dX4_readPeople_68 rfl (lv_at hl 1 rfl) ?_
          refine lv_bipush (v := 9) hx hb dX4_readPeople_69 (by decide) ?_
          obtain ⟨r_12, e_11, h⟩ := bo_s h
          refine x_goi X hS (x_runV (As := [.int x2, .int 9]) (rest := [.int (w.1 31 0), .ref (ad 32)]) X gC_ok hP hS (ctX4_figure l D c3 ad w _ x2 9 _ e_11) (cwV 2 hts gX4_readPeople_X4_figure rfl rfl rfl (by decide +kernel) ⟨by decide, by decide⟩) (gC30 c3 ad w) rfl rfl rfl hl.1 rfl (Nat.le_of_ble_eq_true rfl) dX4_readPeople_71) (fun H locs hP hS => ?_)
          obtain ⟨g_14, h⟩ := gd_s h
          refine x_iast X hP hS (gC32 c3 ad w) (sC32 c3 ad w _ _) g_14 dX4_readPeople_74 (fun H locs hP hS => ?_)
          refine x_nmw h hP (fun w_15 h hP => ?_)
          refine lv_aload_n hx hb dX4_readPeople_75 rfl (lv_at hl 0 rfl) ?_
          refine x_get (rest := []) X hP (gC30 c3 ad w_15) rfl iwX4_readPeople_X4 0 (by decide) lkX4_readPeople_12 rfl dX4_readPeople_76 ?_
          refine lv_dup hx hb dX4_readPeople_79 rfl ?_
          refine x_get (rest := [.ref (ad 31)]) X hP (gC31 c3 ad w_15) rfl iwX4_readPeople_X2 0 (by decide) lkX4_readPeople_60 rfl dX4_readPeople_80 ?_
          refine lv_iconst (v := 1) hx hb dX4_readPeople_83 (by decide) ?_
          refine lv_iadd hx hb dX4_readPeople_84 ?_
          refine x_put (v := .int ((w_15.1 31 0) + 1)) X hP hS (gC31 c3 ad w_15) rfl iwX4_readPeople_X2 tyX2 tyX2_ok nmX2 0 (by decide) lkX4_readPeople_60 rfl rfl rfl (Nat.le_of_ble_eq_true rfl) (pC31_0 c3 ad w_15 ((w_15.1 31 0) + 1)) dX4_readPeople_85 (fun H locs hP hS => ?_)
          refine x_nmw h hP (fun w_16 h hP => ?_)
          refine lv_iinc (v := (x2 + 1)) (lv' := [(2, .int (x2 + 1)), (0, .ref (ad 30))]) hx hb dX4_readPeople_88 hl (k := 1) rfl rfl (by decide) rfl (fun ls hl => ?_)
          refine lv_goto (tgt := 19) hx hb dX4_readPeople_91 (by decide) ?_
          exact ih (x2 + 1) w_16 _ _ _ hP hS (lv_sub hl [1, 0] rfl) h
        · replace h := it_n c_10 h
          refine lv_iload_n hx hb dX4_readPeople_48 rfl (lv_at hl 1 rfl) ?_
          obtain ⟨r_18, e_17, h⟩ := bo_s h
          refine x_goi X hS (x_runS (As := [.int x2]) (rest := []) X gC_ok hP hS (ctX4_faultAt l D c3 ad w _ x2 _ e_17) (va_cwS 1 hts gX4_readPeople_X4_faultAt rfl rfl rfl (by decide +kernel) ⟨by decide, by decide⟩) rfl hl.1 rfl (Nat.le_of_ble_eq_true rfl) dX4_readPeople_49) (fun H locs hP hS => ?_)
          obtain ⟨rfl, rfl⟩ := Prod.mk.inj (Option.some.inj h)
          exact hret _ _ _ _ hP hS dX4_readPeople_52
def fX4_readPeople_E (x1 : Int32) (w : Mm) : Option (Int32 × Mm) := bo (fX4_sign x1 w) (fun r_21 => (if r_21 = 102 then nm (x1 + 1) (fun x2_24 => fX4_readPeople_19 FU x2_24 w) else bo (fX4_faultAt x1) (fun r_26 => some (r_26, w))))
set_option maxRecDepth 20000 in
theorem bX4_readPeople_E {p : Program} {l : Launch} {e : Env} {s : State} {m : MethodId} {args : Array Value} {below : List Frame} {meth : Method} {c : Code} {Q : State → Prop} {D : va_G} {c3 : C3} {ad : Nat → Nat} {A : Nat → Prop} {r : Int32} {w' : Mm} (X : Cx p s m args c cX4_readPeople 3 RX4 wsX4_readPeople D c3 (encC c3 ad) gC A) (hret : Ri p l e (rmX4_readPeople) s m args below meth c Q cX4_readPeople D (encC c3 ad) A r w') : ∀ (x1 : Int32) (w : Mm) (H : Heap) (locs : List Loc) (ls : Array Slot), va_P D vwCl ((encC c3 ad) w) H → va_S A s.heap H locs → lv_has ls 3 [(0, .ref (ad 30)), (1, .int x1)] → fX4_readPeople_E x1 w = some (r, w') → W p l e (rmX4_readPeople) s m args below meth c H locs 0 0 Q (F0 m 0 ls []) := by
  have hx := X.1
  have hb := X.2.1
  have hml := X.2.2.1
  have hown := X.2.2.2.1
  have hts := X.2.2.2.2.1
  intro x1 w H locs ls hP hS hl h
  unfold fX4_readPeople_E at h
  refine lv_aload_n hx hb dX4_readPeople_0 rfl (lv_at hl 0 rfl) ?_
  refine lv_iload_n hx hb dX4_readPeople_1 rfl (lv_at hl 1 rfl) ?_
  obtain ⟨r_21, e_20, h⟩ := bo_s h
  refine x_goi X hS (x_runV (As := [.int x1]) (rest := []) X gC_ok hP hS (ctX4_sign l D c3 ad w _ x1 _ e_20) (cwV 1 hts gX4_readPeople_X4_sign rfl rfl rfl (by decide +kernel) ⟨by decide, by decide⟩) (gC30 c3 ad w) rfl rfl rfl hl.1 rfl (Nat.le_of_ble_eq_true rfl) dX4_readPeople_2) (fun H locs hP hS => ?_)
  refine lv_bipush (v := 102) hx hb dX4_readPeople_5 (by decide) ?_
  refine lv_icmp_eq (tgt := 15) hx hb dX4_readPeople_7 (by decide) (fun c_23 => ?_) (fun c_23 => ?_)
  · replace h := it_p c_23 h
    refine lv_iload_n hx hb dX4_readPeople_15 rfl (lv_at hl 1 rfl) ?_
    refine lv_iconst (v := 1) hx hb dX4_readPeople_16 (by decide) ?_
    refine lv_iadd hx hb dX4_readPeople_17 ?_
    refine x_nmi h (fun x2_24 h => ?_)
    refine lv_istore_n (lv' := [(2, .int x2_24), (0, .ref (ad 30)), (1, .int x1)]) hx hb dX4_readPeople_18 rfl hl (by decide) rfl (fun ls hl => ?_)
    exact bX4_readPeople_19 X hret FU x2_24 w _ _ _ hP hS (lv_sub hl [1, 0] rfl) h
  · replace h := it_n c_23 h
    refine lv_iload_n hx hb dX4_readPeople_10 rfl (lv_at hl 1 rfl) ?_
    obtain ⟨r_26, e_25, h⟩ := bo_s h
    refine x_goi X hS (x_runS (As := [.int x1]) (rest := []) X gC_ok hP hS (ctX4_faultAt l D c3 ad w _ x1 _ e_25) (va_cwS 1 hts gX4_readPeople_X4_faultAt rfl rfl rfl (by decide +kernel) ⟨by decide, by decide⟩) rfl hl.1 rfl (Nat.le_of_ble_eq_true rfl) dX4_readPeople_11) (fun H locs hP hS => ?_)
    obtain ⟨rfl, rfl⟩ := Prod.mk.inj (Option.some.inj h)
    exact hret _ _ _ _ hP hS dX4_readPeople_14
def fX4_readPeople (x1 : Int32) (w : Mm) : Option (Int32 × Mm) := fX4_readPeople_E x1 w
theorem ctX4_readPeople (l : Launch) (D : va_G) (c3 : C3) (ad : Nat → Nat) (w : Mm) (sz : Nat) (x1 : Int32) (r : Int32) (w' : Mm) (h : fX4_readPeople x1 w = some (r, w')) : Ci l yX4_readPeople wsX4_readPeople rmX4_readPeople D c3 (encC c3 ad) gC [.ref (ad 30), .int x1] w sz r w' := by
  refine Ci.of (cc := cX4_readPeople) (maxL := 3) (encC_ok c3 ad) (by decide) rfl (Nat.le_of_ble_eq_true rfl) ?_
  intro p e s m below meth c A Q ls X hret hP hS hl
  exact bX4_readPeople_E X hret x1 w _ _ ls hP hS hl h
theorem iwX4_faultOf_X2 : ∀ w ∈ wsX20, w ∈ wsX4_faultOf := fun _ h => List.mem_cons_of_mem _ (List.mem_append_right _ h)
theorem iwX4_faultOf_X4 : ∀ w ∈ wsX40, w ∈ wsX4_faultOf := fun _ h => List.mem_cons_of_mem _ (List.mem_append_left _ (List.mem_append_right _ h))
theorem lkX4_faultOf_12 : Cond.fieldLink RX4 12 "StuckDoor$Reader" "draft" "LStuckDoor$Family;" ∈ wsX4_faultOf := by decide +kernel
theorem lkX4_faultOf_18 : Cond.fieldLink RX4 18 "StuckDoor$Reader" "bytes" "[I" ∈ wsX4_faultOf := by decide +kernel
theorem lkX4_faultOf_22 : Cond.fieldLink RX4 22 "StuckDoor$Reader" "size" "I" ∈ wsX4_faultOf := by decide +kernel
theorem lkX4_faultOf_42 : Cond.fieldLink RX4 42 "StuckDoor$Family" "sayings" "I" ∈ wsX4_faultOf := by decide +kernel
def rmX4_faultOf_30_T : Room := { frames := 3, cells := 0, slots := 0, locals := 68 }
def fX4_faultOf_30_T_107 (x3 : Int32) (w : Mm) : Option (Int32 × Mm) := bo (fX4_faultAt x3) (fun r_2 => some (r_2, w))
set_option maxRecDepth 20000 in
theorem bX4_faultOf_30_T_107 {p : Program} {l : Launch} {e : Env} {s : State} {m : MethodId} {args : Array Value} {below : List Frame} {meth : Method} {c : Code} {Q : State → Prop} {D : va_G} {c3 : C3} {ad : Nat → Nat} {A : Nat → Prop} {r : Int32} {w' : Mm} (X : Cx p s m args c cX4_faultOf 5 RX4 wsX4_faultOf D c3 (encC c3 ad) gC A) (hret : Ri p l e (rmX4_faultOf_30_T) s m args below meth c Q cX4_faultOf D (encC c3 ad) A r w') : ∀ (x3 : Int32) (w : Mm) (H : Heap) (locs : List Loc) (ls : Array Slot), va_P D vwCl ((encC c3 ad) w) H → va_S A s.heap H locs → lv_has ls 5 [(3, .int x3)] → fX4_faultOf_30_T_107 x3 w = some (r, w') → W p l e (rmX4_faultOf_30_T) s m args below meth c H locs 0 0 Q (F0 m 107 ls []) := by
  have hx := X.1
  have hb := X.2.1
  have hml := X.2.2.1
  have hown := X.2.2.2.1
  have hts := X.2.2.2.2.1
  intro x3 w H locs ls hP hS hl h
  unfold fX4_faultOf_30_T_107 at h
  refine lv_iload_n hx hb dX4_faultOf_107 rfl (lv_at hl 0 rfl) ?_
  obtain ⟨r_2, e_1, h⟩ := bo_s h
  refine x_goi X hS (x_runS (As := [.int x3]) (rest := []) X gC_ok hP hS (ctX4_faultAt l D c3 ad w _ x3 _ e_1) (va_cwS 1 hts gX4_faultOf_X4_faultAt rfl rfl rfl (by decide +kernel) ⟨by decide, by decide⟩) rfl hl.1 rfl (Nat.le_of_ble_eq_true rfl) dX4_faultOf_108) (fun H locs hP hS => ?_)
  obtain ⟨rfl, rfl⟩ := Prod.mk.inj (Option.some.inj h)
  exact hret _ _ _ _ hP hS dX4_faultOf_111
def fX4_faultOf_30_T_100 (k35 : Int32 → Int32 → Mm → Option (Int32 × Mm)) (x4 : Int32) (z0 : Int32) (w : Mm) : Option (Int32 × Mm) := k35 z0 (x4 + 1) w
set_option maxRecDepth 20000 in
theorem bX4_faultOf_30_T_100 {p : Program} {l : Launch} {e : Env} {s : State} {m : MethodId} {args : Array Value} {below : List Frame} {meth : Method} {c : Code} {Q : State → Prop} {D : va_G} {c3 : C3} {ad : Nat → Nat} {A : Nat → Prop} {r : Int32} {w' : Mm} (X : Cx p s m args c cX4_faultOf 5 RX4 wsX4_faultOf D c3 (encC c3 ad) gC A) (hret : Ri p l e (rmX4_faultOf_30_T) s m args below meth c Q cX4_faultOf D (encC c3 ad) A r w') {k35 : Int32 → Int32 → Mm → Option (Int32 × Mm)} (hk35 : ∀ (x3 : Int32) (x4 : Int32) (w : Mm) (H : Heap) (locs : List Loc) (ls : Array Slot), va_P D vwCl ((encC c3 ad) w) H → va_S A s.heap H locs → lv_has ls 5 [(0, .ref (ad 30)), (3, .int x3), (4, .int x4)] → k35 x3 x4 w = some (r, w') → W p l e (rmX4_faultOf_30_T) s m args below meth c H locs 0 0 Q (F0 m 35 ls [])) : ∀ (x4 : Int32) (z0 : Int32) (w : Mm) (H : Heap) (locs : List Loc) (ls : Array Slot), va_P D vwCl ((encC c3 ad) w) H → va_S A s.heap H locs → lv_has ls 5 [(0, .ref (ad 30)), (4, .int x4)] → fX4_faultOf_30_T_100 k35 x4 z0 w = some (r, w') → W p l e (rmX4_faultOf_30_T) s m args below meth c H locs 0 0 Q (F0 m 100 ls [.int z0]) := by
  have hx := X.1
  have hb := X.2.1
  have hml := X.2.2.1
  have hown := X.2.2.2.1
  have hts := X.2.2.2.2.1
  intro x4 z0 w H locs ls hP hS hl h
  unfold fX4_faultOf_30_T_100 at h
  refine lv_istore_n (lv' := [(3, .int z0), (0, .ref (ad 30)), (4, .int x4)]) hx hb dX4_faultOf_100 rfl hl (by decide) rfl (fun ls hl => ?_)
  refine lv_iinc (v := (x4 + 1)) (lv' := [(4, .int (x4 + 1)), (3, .int z0), (0, .ref (ad 30))]) hx hb dX4_faultOf_101 hl (k := 2) rfl rfl (by decide) rfl (fun ls hl => ?_)
  refine lv_goto (tgt := 35) hx hb dX4_faultOf_104 (by decide) ?_
  exact hk35 z0 (x4 + 1) w _ _ _ hP hS (lv_sub hl [2, 1, 0] rfl) h
def fX4_faultOf_30_T_35 : Nat → Int32 → Int32 → Mm → Option (Int32 × Mm)
  | 0, _, _, _ => none
  | n + 1, x3, x4, w => (if 60 < x4 then fX4_faultOf_30_T_107 x3 w else (if x3 < 0 then fX4_faultOf_30_T_107 x3 w else bo (fX4_behindBlanks x3 w) (fun r_7 => (if r_7 < (w.1 30 2) then bo (fX4_sign r_7 w) (fun r_11 => (if r_11 = 100 then bd (fX4_readRoom r_7 w) (fun r_18 w_19 => fX4_faultOf_30_T_100 (fX4_faultOf_30_T_35 n) x4 r_18 w_19) else bd (fX4_readSaying r_7 w) (fun r_15 w_16 => fX4_faultOf_30_T_100 (fX4_faultOf_30_T_35 n) x4 r_15 w_16))) else (if (w.1 31 2) ≤ 0 then some (r_7, w) else some ((-9), w))))))
set_option maxRecDepth 20000 in
theorem bX4_faultOf_30_T_35 {p : Program} {l : Launch} {e : Env} {s : State} {m : MethodId} {args : Array Value} {below : List Frame} {meth : Method} {c : Code} {Q : State → Prop} {D : va_G} {c3 : C3} {ad : Nat → Nat} {A : Nat → Prop} {r : Int32} {w' : Mm} (X : Cx p s m args c cX4_faultOf 5 RX4 wsX4_faultOf D c3 (encC c3 ad) gC A) (hret : Ri p l e (rmX4_faultOf_30_T) s m args below meth c Q cX4_faultOf D (encC c3 ad) A r w') : ∀ (n : Nat) (x3 : Int32) (x4 : Int32) (w : Mm) (H : Heap) (locs : List Loc) (ls : Array Slot), va_P D vwCl ((encC c3 ad) w) H → va_S A s.heap H locs → lv_has ls 5 [(0, .ref (ad 30)), (3, .int x3), (4, .int x4)] → fX4_faultOf_30_T_35 n x3 x4 w = some (r, w') → W p l e (rmX4_faultOf_30_T) s m args below meth c H locs 0 0 Q (F0 m 35 ls []) := by
  have hx := X.1
  have hb := X.2.1
  have hml := X.2.2.1
  have hown := X.2.2.2.1
  have hts := X.2.2.2.2.1
  intro n
  induction n with
  | zero =>
    intro x3 x4 w H locs ls hP hS hl h
    exact absurd h (by simp [fX4_faultOf_30_T_35])
  | succ n ih =>
    intro x3 x4 w H locs ls hP hS hl h
    rw [fX4_faultOf_30_T_35] at h
    refine lv_iload hx hb dX4_faultOf_35 (lv_at hl 2 rfl) ?_
    refine lv_bipush (v := 60) hx hb dX4_faultOf_37 (by decide) ?_
    refine lv_icmp_gt (tgt := 107) hx hb dX4_faultOf_39 (by decide) (fun c_4 => ?_) (fun c_4 => ?_)
    · replace h := it_p c_4 h
      exact bX4_faultOf_30_T_107 X hret x3 w _ _ _ hP hS (lv_sub hl [1] rfl) h
    · replace h := it_n c_4 h
      refine lv_iload_n hx hb dX4_faultOf_42 rfl (lv_at hl 1 rfl) ?_
      refine lv_if_lt (tgt := 107) hx hb dX4_faultOf_43 (by decide) (fun c_5 => ?_) (fun c_5 => ?_)
      · replace h := it_p c_5 h
        exact bX4_faultOf_30_T_107 X hret x3 w _ _ _ hP hS (lv_sub hl [1] rfl) h
      · replace h := it_n c_5 h
        refine lv_aload_n hx hb dX4_faultOf_46 rfl (lv_at hl 0 rfl) ?_
        refine lv_iload_n hx hb dX4_faultOf_47 rfl (lv_at hl 1 rfl) ?_
        obtain ⟨r_7, e_6, h⟩ := bo_s h
        refine x_goi X hS (x_runV (As := [.int x3]) (rest := []) X gC_ok hP hS (ctX4_behindBlanks l D c3 ad w _ x3 _ e_6) (cwV 1 hts gX4_faultOf_X4_behindBlanks rfl rfl rfl (by decide +kernel) ⟨by decide, by decide⟩) (gC30 c3 ad w) rfl rfl rfl hl.1 rfl (Nat.le_of_ble_eq_true rfl) dX4_faultOf_48) (fun H locs hP hS => ?_)
        refine lv_istore_n (lv' := [(3, .int r_7), (0, .ref (ad 30)), (4, .int x4)]) hx hb dX4_faultOf_51 rfl hl (by decide) rfl (fun ls hl => ?_)
        refine lv_iload_n hx hb dX4_faultOf_52 rfl (lv_at hl 0 rfl) ?_
        refine lv_aload_n hx hb dX4_faultOf_53 rfl (lv_at hl 1 rfl) ?_
        refine x_get (rest := [.int r_7]) X hP (gC30 c3 ad w) rfl iwX4_faultOf_X4 2 (by decide) lkX4_faultOf_22 rfl dX4_faultOf_54 ?_
        refine lv_icmp_lt (tgt := 77) hx hb dX4_faultOf_57 (by decide) (fun c_9 => ?_) (fun c_9 => ?_)
        · replace h := it_p c_9 h
          refine lv_aload_n hx hb dX4_faultOf_77 rfl (lv_at hl 1 rfl) ?_
          refine lv_iload_n hx hb dX4_faultOf_78 rfl (lv_at hl 0 rfl) ?_
          obtain ⟨r_11, e_10, h⟩ := bo_s h
          refine x_goi X hS (x_runV (As := [.int r_7]) (rest := []) X gC_ok hP hS (ctX4_sign l D c3 ad w _ r_7 _ e_10) (cwV 1 hts gX4_faultOf_X4_sign rfl rfl rfl (by decide +kernel) ⟨by decide, by decide⟩) (gC30 c3 ad w) rfl rfl rfl hl.1 rfl (Nat.le_of_ble_eq_true rfl) dX4_faultOf_79) (fun H locs hP hS => ?_)
          refine lv_bipush (v := 100) hx hb dX4_faultOf_82 (by decide) ?_
          refine lv_icmp_ne (tgt := 95) hx hb dX4_faultOf_84 (by decide) (fun c_13 => ?_) (fun c_13 => ?_)
          · replace h := it_n c_13 h
            refine lv_aload_n hx hb dX4_faultOf_95 rfl (lv_at hl 1 rfl) ?_
            refine lv_iload_n hx hb dX4_faultOf_96 rfl (lv_at hl 0 rfl) ?_
            obtain ⟨r_15, w_16, e_14, h⟩ := bd_s h
            refine x_goi X hS (x_runV (As := [.int r_7]) (rest := []) X gC_ok hP hS (ctX4_readSaying l D c3 ad w _ r_7 _ _ e_14) (cwV 1 hts gX4_faultOf_X4_readSaying rfl rfl rfl (by decide +kernel) ⟨by decide, by decide⟩) (gC30 c3 ad w) rfl rfl rfl hl.1 rfl (Nat.le_of_ble_eq_true rfl) dX4_faultOf_97) (fun H locs hP hS => ?_)
            exact bX4_faultOf_30_T_100 (k35 := (fX4_faultOf_30_T_35 n)) X hret ih x4 r_15 w_16 _ _ _ hP hS (lv_sub hl [1, 2] rfl) h
          · replace h := it_p c_13 h
            refine lv_aload_n hx hb dX4_faultOf_87 rfl (lv_at hl 1 rfl) ?_
            refine lv_iload_n hx hb dX4_faultOf_88 rfl (lv_at hl 0 rfl) ?_
            obtain ⟨r_18, w_19, e_17, h⟩ := bd_s h
            refine x_goi X hS (x_runV (As := [.int r_7]) (rest := []) X gC_ok hP hS (ctX4_readRoom l D c3 ad w _ r_7 _ _ e_17) (cwV 1 hts gX4_faultOf_X4_readRoom rfl rfl rfl (by decide +kernel) ⟨by decide, by decide⟩) (gC30 c3 ad w) rfl rfl rfl hl.1 rfl (Nat.le_of_ble_eq_true rfl) dX4_faultOf_89) (fun H locs hP hS => ?_)
            refine lv_goto (tgt := 100) hx hb dX4_faultOf_92 (by decide) ?_
            exact bX4_faultOf_30_T_100 (k35 := (fX4_faultOf_30_T_35 n)) X hret ih x4 r_18 w_19 _ _ _ hP hS (lv_sub hl [1, 2] rfl) h
        · replace h := it_n c_9 h
          refine lv_aload_n hx hb dX4_faultOf_60 rfl (lv_at hl 1 rfl) ?_
          refine x_get (rest := []) X hP (gC30 c3 ad w) rfl iwX4_faultOf_X4 0 (by decide) lkX4_faultOf_12 rfl dX4_faultOf_61 ?_
          refine x_get (rest := []) X hP (gC31 c3 ad w) rfl iwX4_faultOf_X2 2 (by decide) lkX4_faultOf_42 rfl dX4_faultOf_64 ?_
          refine lv_if_le (tgt := 75) hx hb dX4_faultOf_67 (by decide) (fun c_20 => ?_) (fun c_20 => ?_)
          · replace h := it_p c_20 h
            refine lv_iload_n hx hb dX4_faultOf_75 rfl (lv_at hl 0 rfl) ?_
            obtain ⟨rfl, rfl⟩ := Prod.mk.inj (Option.some.inj h)
            exact hret _ _ _ _ hP hS dX4_faultOf_76
          · replace h := it_n c_20 h
            refine lv_bipush (v := (-9)) hx hb dX4_faultOf_70 (by decide) ?_
            refine lv_goto (tgt := 76) hx hb dX4_faultOf_72 (by decide) ?_
            obtain ⟨rfl, rfl⟩ := Prod.mk.inj (Option.some.inj h)
            exact hret _ _ _ _ hP hS dX4_faultOf_76
def fX4_faultOf_30_T_E (q1 : Nat) (x2 : Int32) (w : Mm) : Option (Int32 × Mm) := nm (sR w q1) (fun w_21 => gd (13 ≤ q1 ∧ q1 < 17) (nm (sA w_21 30 2 (if 60 < x2 then 60 else x2)) (fun w_23 => bo (fX2_clear_31 w_23) (fun w_26 => bo (fX4_behindBlanks 0 w_26) (fun r_28 => bd (fX4_readPeople r_28 w_26) (fun r_31 w_32 => fX4_faultOf_30_T_35 FU r_31 0 w_32))))))
set_option maxRecDepth 20000 in
theorem bX4_faultOf_30_T_E {p : Program} {l : Launch} {e : Env} {s : State} {m : MethodId} {args : Array Value} {below : List Frame} {meth : Method} {c : Code} {Q : State → Prop} {D : va_G} {c3 : C3} {ad : Nat → Nat} {A : Nat → Prop} {r : Int32} {w' : Mm} (X : Cx p s m args c cX4_faultOf 5 RX4 wsX4_faultOf D c3 (encC c3 ad) gC A) (hret : Ri p l e (rmX4_faultOf_30_T) s m args below meth c Q cX4_faultOf D (encC c3 ad) A r w') : ∀ (q1 : Nat) (x2 : Int32) (w : Mm) (H : Heap) (locs : List Loc) (ls : Array Slot), va_P D vwCl ((encC c3 ad) w) H → va_S A s.heap H locs → lv_has ls 5 [(0, .ref (ad 30)), (1, .ref (ad q1)), (2, .int x2)] → fX4_faultOf_30_T_E q1 x2 w = some (r, w') → W p l e (rmX4_faultOf_30_T) s m args below meth c H locs 0 0 Q (F0 m 0 ls []) := by
  have hx := X.1
  have hb := X.2.1
  have hml := X.2.2.1
  have hown := X.2.2.2.1
  have hts := X.2.2.2.2.1
  intro q1 x2 w H locs ls hP hS hl h
  unfold fX4_faultOf_30_T_E at h
  refine lv_aload_n hx hb dX4_faultOf_0 rfl (lv_at hl 0 rfl) ?_
  refine lv_aload_n hx hb dX4_faultOf_1 rfl (lv_at hl 1 rfl) ?_
  refine x_put (v := .ref (ad q1)) X hP hS (gC30 c3 ad w) rfl iwX4_faultOf_X4 tyX4 tyX4_ok nmX4 1 (by decide) lkX4_faultOf_18 rfl rfl rfl (Nat.le_of_ble_eq_true rfl) (pC30_1 c3 ad w q1) dX4_faultOf_2 (fun H locs hP hS => ?_)
  refine x_nmw h hP (fun w_21 h hP => ?_)
  refine lv_aload_n hx hb dX4_faultOf_5 rfl (lv_at hl 0 rfl) ?_
  refine lv_iload_n hx hb dX4_faultOf_6 rfl (lv_at hl 2 rfl) ?_
  refine lv_aload_n hx hb dX4_faultOf_7 rfl (lv_at hl 1 rfl) ?_
  obtain ⟨g_22, h⟩ := gd_s h
  refine x_alen (v := 60) X hP (gCrT c3 ad w_21 g_22) rfl dX4_faultOf_8 ?_
  refine va_mmin hx hb (by rw [hml]; exact hl.1.symm) hown (hts (.methodLink RX4 26 Lib.Math.min.name) (by decide +kernel)) (hts (.static Lib.Math.min.name) (by decide +kernel)) (hts (.initialized "java/lang/Math") (by decide +kernel)) (hts (.code Lib.Math.min.name Lib.Math.min.code 2 (some .int)) (by decide +kernel)) (Nat.le_of_ble_eq_true rfl) (Nat.le_of_ble_eq_true rfl) (Nat.zero_le _) (Nat.zero_le _) dX4_faultOf_9 ?_
  refine x_put (v := .int (if 60 < x2 then 60 else x2)) X hP hS (gC30 c3 ad w_21) rfl iwX4_faultOf_X4 tyX4 tyX4_ok nmX4 2 (by decide) lkX4_faultOf_22 rfl rfl rfl (Nat.le_of_ble_eq_true rfl) (pC30_2 c3 ad w_21 (if 60 < x2 then 60 else x2)) dX4_faultOf_12 (fun H locs hP hS => ?_)
  refine x_nmw h hP (fun w_23 h hP => ?_)
  refine lv_aload_n hx hb dX4_faultOf_15 rfl (lv_at hl 0 rfl) ?_
  refine x_get (rest := []) X hP (gC30 c3 ad w_23) rfl iwX4_faultOf_X4 0 (by decide) lkX4_faultOf_12 rfl dX4_faultOf_16 ?_
  obtain ⟨w_26, e_24, h⟩ := bo_s h
  refine x_gov X hS (x_runV (As := []) (rest := []) X gC_ok hP hS (ctX2_clear_31 l D c3 ad w_23 _ _ e_24) (cwV 0 hts gX4_faultOf_X2_clear rfl rfl rfl (by decide +kernel) ⟨by decide, by decide⟩) (gC31 c3 ad w_23) rfl rfl rfl hl.1 rfl (Nat.le_of_ble_eq_true rfl) dX4_faultOf_19) (fun H locs hP hS => ?_)
  refine lv_aload_n hx hb dX4_faultOf_22 rfl (lv_at hl 0 rfl) ?_
  refine lv_aload_n hx hb dX4_faultOf_23 rfl (lv_at hl 0 rfl) ?_
  refine lv_iconst (v := 0) hx hb dX4_faultOf_24 (by decide) ?_
  obtain ⟨r_28, e_27, h⟩ := bo_s h
  refine x_goi X hS (x_runV (As := [.int 0]) (rest := [.ref (ad 30)]) X gC_ok hP hS (ctX4_behindBlanks l D c3 ad w_26 _ 0 _ e_27) (cwV 1 hts gX4_faultOf_X4_behindBlanks rfl rfl rfl (by decide +kernel) ⟨by decide, by decide⟩) (gC30 c3 ad w_26) rfl rfl rfl hl.1 rfl (Nat.le_of_ble_eq_true rfl) dX4_faultOf_25) (fun H locs hP hS => ?_)
  obtain ⟨r_31, w_32, e_30, h⟩ := bd_s h
  refine x_goi X hS (x_runV (As := [.int r_28]) (rest := []) X gC_ok hP hS (ctX4_readPeople l D c3 ad w_26 _ r_28 _ _ e_30) (cwV 1 hts gX4_faultOf_X4_readPeople rfl rfl rfl (by decide +kernel) ⟨by decide, by decide⟩) (gC30 c3 ad w_26) rfl rfl rfl hl.1 rfl (Nat.le_of_ble_eq_true rfl) dX4_faultOf_28) (fun H locs hP hS => ?_)
  refine lv_istore_n (lv' := [(3, .int r_31), (0, .ref (ad 30)), (1, .ref (ad q1)), (2, .int x2)]) hx hb dX4_faultOf_31 rfl hl (by decide) rfl (fun ls hl => ?_)
  refine lv_iconst (v := 0) hx hb dX4_faultOf_32 (by decide) ?_
  refine lv_istore (lv' := [(4, .int 0), (3, .int r_31), (0, .ref (ad 30)), (1, .ref (ad q1)), (2, .int x2)]) hx hb dX4_faultOf_33 hl (by decide) rfl (fun ls hl => ?_)
  exact bX4_faultOf_30_T_35 X hret FU r_31 0 w_32 _ _ _ hP hS (lv_sub hl [2, 1, 0] rfl) h
def fX4_faultOf_30_T (q1 : Nat) (x2 : Int32) (w : Mm) : Option (Int32 × Mm) := fX4_faultOf_30_T_E q1 x2 w
theorem ctX4_faultOf_30_T (l : Launch) (D : va_G) (c3 : C3) (ad : Nat → Nat) (w : Mm) (sz : Nat) (q1 : Nat) (x2 : Int32) (r : Int32) (w' : Mm) (h : fX4_faultOf_30_T q1 x2 w = some (r, w')) : Ci l yX4_faultOf wsX4_faultOf rmX4_faultOf_30_T D c3 (encC c3 ad) gC [.ref (ad 30), .ref (ad q1), .int x2] w sz r w' := by
  refine Ci.of (cc := cX4_faultOf) (maxL := 5) (encC_ok c3 ad) (by decide) rfl (Nat.le_of_ble_eq_true rfl) ?_
  intro p e s m below meth c A Q ls X hret hP hS hl
  exact bX4_faultOf_30_T_E X hret q1 x2 w _ _ ls hP hS hl h
theorem iwX7_fault_X5 : ∀ w ∈ wsX50, w ∈ wsX7_fault := fun _ h => List.mem_cons_of_mem _ (List.mem_append_left _ (List.mem_append_left _ (List.mem_append_right _ h)))
theorem iwX7_fault_X7 : ∀ w ∈ wsX70, w ∈ wsX7_fault := fun _ h => List.mem_cons_of_mem _ (List.mem_append_left _ (List.mem_append_left _ (List.mem_append_left _ (List.mem_append_right _ h))))
theorem lkX7_fault_18 : Cond.fieldLink RX7 18 "StuckDoor" "texts" "LStuckDoor$Rows;" ∈ wsX7_fault := by decide +kernel
theorem lkX7_fault_34 : Cond.fieldLink RX7 34 "StuckDoor" "reader" "LStuckDoor$Reader;" ∈ wsX7_fault := by decide +kernel
theorem lkX7_fault_86 : Cond.fieldLink RX7 86 "StuckDoor$Rows" "places" "[[I" ∈ wsX7_fault := by decide +kernel
theorem lkX7_fault_94 : Cond.fieldLink RX7 94 "StuckDoor$Rows" "sizes" "[I" ∈ wsX7_fault := by decide +kernel
def rmX7_fault : Room := { frames := 4, cells := 0, slots := 0, locals := 92 }
def fX7_fault_E (x1 : Int32) (w : Mm) : Option (Int32 × Mm) := bd (fX7_refusalOfRow_0_10 x1 w) (fun r_2 w_3 => (if r_2 = 0 then gd (inb x1 4 = true) (bd (fX4_faultOf_30_T (13 + x1.toNatClampNeg) (w_3.1 12 x1.toNatClampNeg) w_3) (fun r_8 w_9 => some (r_8, w_9))) else some (r_2, w_3)))
set_option maxRecDepth 20000 in
theorem bX7_fault_E {p : Program} {l : Launch} {e : Env} {s : State} {m : MethodId} {args : Array Value} {below : List Frame} {meth : Method} {c : Code} {Q : State → Prop} {D : va_G} {c3 : C3} {ad : Nat → Nat} {A : Nat → Prop} {r : Int32} {w' : Mm} (X : Cx p s m args c cX7_fault 3 RX7 wsX7_fault D c3 (encC c3 ad) gC A) (hret : Ri p l e (rmX7_fault) s m args below meth c Q cX7_fault D (encC c3 ad) A r w') : ∀ (x1 : Int32) (w : Mm) (H : Heap) (locs : List Loc) (ls : Array Slot), va_P D vwCl ((encC c3 ad) w) H → va_S A s.heap H locs → lv_has ls 3 [(0, .ref (ad 0)), (1, .int x1)] → fX7_fault_E x1 w = some (r, w') → W p l e (rmX7_fault) s m args below meth c H locs 0 0 Q (F0 m 0 ls []) := by
  have hx := X.1
  have hb := X.2.1
  have hml := X.2.2.1
  have hown := X.2.2.2.1
  have hts := X.2.2.2.2.1
  intro x1 w H locs ls hP hS hl h
  unfold fX7_fault_E at h
  refine lv_aload_n hx hb dX7_fault_0 rfl (lv_at hl 0 rfl) ?_
  refine lv_aload_n hx hb dX7_fault_1 rfl (lv_at hl 0 rfl) ?_
  refine x_get (rest := [.ref (ad 0)]) X hP (gC0 c3 ad w) rfl iwX7_fault_X7 1 (by decide) lkX7_fault_18 rfl dX7_fault_2 ?_
  refine lv_iload_n hx hb dX7_fault_5 rfl (lv_at hl 1 rfl) ?_
  obtain ⟨r_2, w_3, e_1, h⟩ := bd_s h
  refine x_goi X hS (x_runV (As := [.ref (ad 10), .int x1]) (rest := []) X gC_ok hP hS (ctX7_refusalOfRow_0_10 l D c3 ad w _ x1 _ _ e_1) (cwV 2 hts gX7_fault_X7_refusalOfRow rfl rfl rfl (by decide +kernel) ⟨by decide, by decide⟩) (gC0 c3 ad w) rfl rfl rfl hl.1 rfl (Nat.le_of_ble_eq_true rfl) dX7_fault_6) (fun H locs hP hS => ?_)
  refine lv_istore_n (lv' := [(2, .int r_2), (0, .ref (ad 0)), (1, .int x1)]) hx hb dX7_fault_9 rfl hl (by decide) rfl (fun ls hl => ?_)
  refine lv_iload_n hx hb dX7_fault_10 rfl (lv_at hl 0 rfl) ?_
  refine lv_if_eq (tgt := 16) hx hb dX7_fault_11 (by decide) (fun c_4 => ?_) (fun c_4 => ?_)
  · replace h := it_p c_4 h
    refine lv_aload_n hx hb dX7_fault_16 rfl (lv_at hl 1 rfl) ?_
    refine x_get (rest := []) X hP (gC0 c3 ad w_3) rfl iwX7_fault_X7 4 (by decide) lkX7_fault_34 rfl dX7_fault_17 ?_
    refine lv_aload_n hx hb dX7_fault_20 rfl (lv_at hl 1 rfl) ?_
    refine x_get (rest := [.ref (ad 30)]) X hP (gC0 c3 ad w_3) rfl iwX7_fault_X7 1 (by decide) lkX7_fault_18 rfl dX7_fault_21 ?_
    refine x_get (rest := [.ref (ad 30)]) X hP (gC10 c3 ad w_3) rfl iwX7_fault_X5 0 (by decide) lkX7_fault_86 rfl dX7_fault_24 ?_
    refine lv_iload_n hx hb dX7_fault_27 rfl (lv_at hl 2 rfl) ?_
    obtain ⟨g_5, h⟩ := gd_s h
    have q_6 := rgn 13 g_5
    refine x_aald (z := ad (13 + x1.toNatClampNeg)) X hP (gC11 c3 ad w_3) g_5 rfl dX7_fault_28 ?_
    refine lv_aload_n hx hb dX7_fault_29 rfl (lv_at hl 1 rfl) ?_
    refine x_get (rest := [.ref (ad (13 + x1.toNatClampNeg)), .ref (ad 30)]) X hP (gC0 c3 ad w_3) rfl iwX7_fault_X7 1 (by decide) lkX7_fault_18 rfl dX7_fault_30 ?_
    refine x_get (rest := [.ref (ad (13 + x1.toNatClampNeg)), .ref (ad 30)]) X hP (gC10 c3 ad w_3) rfl iwX7_fault_X5 1 (by decide) lkX7_fault_94 rfl dX7_fault_33 ?_
    refine lv_iload_n hx hb dX7_fault_36 rfl (lv_at hl 2 rfl) ?_
    refine x_iald X hP (gC12 c3 ad w_3) g_5 dX7_fault_37 ?_
    obtain ⟨r_8, w_9, e_7, h⟩ := bd_s h
    refine x_goi X hS (x_runV (As := [.ref (ad (13 + x1.toNatClampNeg)), .int (w_3.1 12 x1.toNatClampNeg)]) (rest := []) X gC_ok hP hS (ctX4_faultOf_30_T l D c3 ad w_3 _ (13 + x1.toNatClampNeg) (w_3.1 12 x1.toNatClampNeg) _ _ e_7) (cwV 2 hts gX7_fault_X4_faultOf rfl rfl rfl (by decide +kernel) ⟨by decide, by decide⟩) (gC30 c3 ad w_3) rfl rfl rfl hl.1 rfl (Nat.le_of_ble_eq_true rfl) dX7_fault_38) (fun H locs hP hS => ?_)
    obtain ⟨rfl, rfl⟩ := Prod.mk.inj (Option.some.inj h)
    exact hret _ _ _ _ hP hS dX7_fault_41
  · replace h := it_n c_4 h
    refine lv_iload_n hx hb dX7_fault_14 rfl (lv_at hl 0 rfl) ?_
    obtain ⟨rfl, rfl⟩ := Prod.mk.inj (Option.some.inj h)
    exact hret _ _ _ _ hP hS dX7_fault_15
def fX7_fault (x1 : Int32) (w : Mm) : Option (Int32 × Mm) := fX7_fault_E x1 w
theorem ctX7_fault (l : Launch) (D : va_G) (c3 : C3) (ad : Nat → Nat) (w : Mm) (sz : Nat) (x1 : Int32) (r : Int32) (w' : Mm) (h : fX7_fault x1 w = some (r, w')) : Ci l yX7_fault wsX7_fault rmX7_fault D c3 (encC c3 ad) gC [.ref (ad 0), .int x1] w sz r w' := by
  refine Ci.of (cc := cX7_fault) (maxL := 3) (encC_ok c3 ad) (by decide) rfl (Nat.le_of_ble_eq_true rfl) ?_
  intro p e s m below meth c A Q ls X hret hP hS hl
  exact bX7_fault_E X hret x1 w _ _ ls hP hS hl h
def rmJ7_fill_53178_28 : Room := { frames := 0, cells := 0, slots := 0, locals := 0 }
def fJ7_fill_53178_28_5 (x1 : Int32) (x3 : Int32) : Nat → Int32 → Mm → Option (Mm)
  | 0, _, _ => none
  | n + 1, x2, w => (if x3 ≤ x2 then some w else gd (inb x2 6 = true) (nm (sA w 28 x2.toNatClampNeg x1) (fun w_3 => fJ7_fill_53178_28_5 x1 x3 n (x2 + 1) w_3)))
set_option maxRecDepth 20000 in
theorem bJ7_fill_53178_28_5 {p : Program} {l : Launch} {e : Env} {s : State} {m : MethodId} {args : Array Value} {below : List Frame} {meth : Method} {c : Code} {Q : State → Prop} {D : va_G} {c3 : C3} {ad : Nat → Nat} {A : Nat → Prop} {w' : Mm} (X : Cx p s m args c cJ7_fill_53178 4 RJ7 wsJ7_fill_53178 D c3 (encC c3 ad) gC A) (hret : Rv p l e (rmJ7_fill_53178_28) s m args below meth c Q cJ7_fill_53178 D (encC c3 ad) A w') : ∀ (x1 : Int32) (x3 : Int32) (n : Nat) (x2 : Int32) (w : Mm) (H : Heap) (locs : List Loc) (ls : Array Slot), va_P D vwCl ((encC c3 ad) w) H → va_S A s.heap H locs → lv_has ls 4 [(0, .ref (ad 28)), (1, .int x1), (2, .int x2), (3, .int x3)] → fJ7_fill_53178_28_5 x1 x3 n x2 w = some w' → W p l e (rmJ7_fill_53178_28) s m args below meth c H locs 0 0 Q (F0 m 5 ls []) := by
  have hx := X.1
  have hb := X.2.1
  have hml := X.2.2.1
  have hown := X.2.2.2.1
  have hts := X.2.2.2.2.1
  intro x1 x3 n
  induction n with
  | zero =>
    intro x2 w H locs ls hP hS hl h
    exact absurd h (by simp [fJ7_fill_53178_28_5])
  | succ n ih =>
    intro x2 w H locs ls hP hS hl h
    rw [fJ7_fill_53178_28_5] at h
    refine lv_iload_n hx hb dJ7_fill_53178_5 rfl (lv_at hl 2 rfl) ?_
    refine lv_iload_n hx hb dJ7_fill_53178_6 rfl (lv_at hl 3 rfl) ?_
    refine lv_icmp_ge (tgt := 20) hx hb dJ7_fill_53178_7 (by decide) (fun c_1 => ?_) (fun c_1 => ?_)
    · replace h := it_p c_1 h
      obtain rfl := Option.some.inj h
      exact hret _ _ _ _ hP hS dJ7_fill_53178_20
    · replace h := it_n c_1 h
      refine lv_aload_n hx hb dJ7_fill_53178_10 rfl (lv_at hl 0 rfl) ?_
      refine lv_iload_n hx hb dJ7_fill_53178_11 rfl (lv_at hl 2 rfl) ?_
      refine lv_iload_n hx hb dJ7_fill_53178_12 rfl (lv_at hl 1 rfl) ?_
      obtain ⟨g_2, h⟩ := gd_s h
      refine x_iast X hP hS (gC28 c3 ad w) (sC28 c3 ad w _ _) g_2 dJ7_fill_53178_13 (fun H locs hP hS => ?_)
      refine x_nmw h hP (fun w_3 h hP => ?_)
      refine lv_iinc (v := (x2 + 1)) (lv' := [(2, .int (x2 + 1)), (0, .ref (ad 28)), (1, .int x1), (3, .int x3)]) hx hb dJ7_fill_53178_14 hl (k := 2) rfl rfl (by decide) rfl (fun ls hl => ?_)
      refine lv_goto (tgt := 5) hx hb dJ7_fill_53178_17 (by decide) ?_
      exact ih (x2 + 1) w_3 _ _ _ hP hS (lv_sub hl [1, 2, 0, 3] rfl) h
def fJ7_fill_53178_28_E (x1 : Int32) (w : Mm) : Option (Mm) := fJ7_fill_53178_28_5 x1 6 FU 0 w
set_option maxRecDepth 20000 in
theorem bJ7_fill_53178_28_E {p : Program} {l : Launch} {e : Env} {s : State} {m : MethodId} {args : Array Value} {below : List Frame} {meth : Method} {c : Code} {Q : State → Prop} {D : va_G} {c3 : C3} {ad : Nat → Nat} {A : Nat → Prop} {w' : Mm} (X : Cx p s m args c cJ7_fill_53178 4 RJ7 wsJ7_fill_53178 D c3 (encC c3 ad) gC A) (hret : Rv p l e (rmJ7_fill_53178_28) s m args below meth c Q cJ7_fill_53178 D (encC c3 ad) A w') : ∀ (x1 : Int32) (w : Mm) (H : Heap) (locs : List Loc) (ls : Array Slot), va_P D vwCl ((encC c3 ad) w) H → va_S A s.heap H locs → lv_has ls 4 [(0, .ref (ad 28)), (1, .int x1)] → fJ7_fill_53178_28_E x1 w = some w' → W p l e (rmJ7_fill_53178_28) s m args below meth c H locs 0 0 Q (F0 m 0 ls []) := by
  have hx := X.1
  have hb := X.2.1
  have hml := X.2.2.1
  have hown := X.2.2.2.1
  have hts := X.2.2.2.2.1
  intro x1 w H locs ls hP hS hl h
  unfold fJ7_fill_53178_28_E at h
  refine lv_iconst (v := 0) hx hb dJ7_fill_53178_0 (by decide) ?_
  refine lv_istore_n (lv' := [(2, .int 0), (0, .ref (ad 28)), (1, .int x1)]) hx hb dJ7_fill_53178_1 rfl hl (by decide) rfl (fun ls hl => ?_)
  refine lv_aload_n hx hb dJ7_fill_53178_2 rfl (lv_at hl 1 rfl) ?_
  refine x_alen (v := 6) X hP (gC28 c3 ad w) rfl dJ7_fill_53178_3 ?_
  refine lv_istore_n (lv' := [(3, .int 6), (2, .int 0), (0, .ref (ad 28)), (1, .int x1)]) hx hb dJ7_fill_53178_4 rfl hl (by decide) rfl (fun ls hl => ?_)
  exact bJ7_fill_53178_28_5 X hret x1 6 FU 0 w _ _ _ hP hS (lv_sub hl [2, 3, 1, 0] rfl) h
def fJ7_fill_53178_28 (x1 : Int32) (w : Mm) : Option (Mm) := fJ7_fill_53178_28_E x1 w
theorem ctJ7_fill_53178_28 (l : Launch) (D : va_G) (c3 : C3) (ad : Nat → Nat) (w : Mm) (sz : Nat) (x1 : Int32) (w' : Mm) (h : fJ7_fill_53178_28 x1 w = some w') : Cv l yJ7_fill_53178 wsJ7_fill_53178 rmJ7_fill_53178_28 D c3 (encC c3 ad) gC [.ref (ad 28), .int x1] w sz w' := by
  refine Cv.of (cc := cJ7_fill_53178) (maxL := 4) (encC_ok c3 ad) (by decide) rfl (Nat.le_of_ble_eq_true rfl) ?_
  intro p e s m below meth c A Q ls X hret hP hS hl
  exact bJ7_fill_53178_28_E X hret x1 w _ _ ls hP hS hl h
theorem iwX2_startAnew_X2 : ∀ w ∈ wsX20, w ∈ wsX2_startAnew := fun _ h => List.mem_cons_of_mem _ (List.mem_append_right _ h)
theorem lkX2_startAnew_34 : Cond.fieldLink RX2 34 "StuckDoor$Family" "strain" "I" ∈ wsX2_startAnew := by decide +kernel
theorem lkX2_startAnew_37 : Cond.fieldLink RX2 37 "StuckDoor$Family" "settled" "I" ∈ wsX2_startAnew := by decide +kernel
theorem lkX2_startAnew_40 : Cond.fieldLink RX2 40 "StuckDoor$Family" "whoIsOver" "I" ∈ wsX2_startAnew := by decide +kernel
theorem lkX2_startAnew_43 : Cond.fieldLink RX2 43 "StuckDoor$Family" "said" "[I" ∈ wsX2_startAnew := by decide +kernel
theorem lkX2_startAnew_46 : Cond.fieldLink RX2 46 "StuckDoor$Family" "deeds" "I" ∈ wsX2_startAnew := by decide +kernel
def rmX2_startAnew_23 : Room := { frames := 1, cells := 0, slots := 0, locals := 23 }
def fX2_startAnew_23_E (w : Mm) : Option (Mm) := nm (sA w 23 7 0) (fun w_1 => nm (sA w_1 23 8 0) (fun w_2 => nm (sA w_2 23 9 (-9)) (fun w_3 => bo (fJ7_fill_53178_28 0 w_3) (fun w_6 => nm (sA w_6 23 11 0) (fun w_7 => some w_7)))))
set_option maxRecDepth 20000 in
theorem bX2_startAnew_23_E {p : Program} {l : Launch} {e : Env} {s : State} {m : MethodId} {args : Array Value} {below : List Frame} {meth : Method} {c : Code} {Q : State → Prop} {D : va_G} {c3 : C3} {ad : Nat → Nat} {A : Nat → Prop} {w' : Mm} (X : Cx p s m args c cX2_startAnew 1 RX2 wsX2_startAnew D c3 (encC c3 ad) gC A) (hret : Rv p l e (rmX2_startAnew_23) s m args below meth c Q cX2_startAnew D (encC c3 ad) A w') : ∀ (w : Mm) (H : Heap) (locs : List Loc) (ls : Array Slot), va_P D vwCl ((encC c3 ad) w) H → va_S A s.heap H locs → lv_has ls 1 [(0, .ref (ad 23))] → fX2_startAnew_23_E w = some w' → W p l e (rmX2_startAnew_23) s m args below meth c H locs 0 0 Q (F0 m 0 ls []) := by
  have hx := X.1
  have hb := X.2.1
  have hml := X.2.2.1
  have hown := X.2.2.2.1
  have hts := X.2.2.2.2.1
  intro w H locs ls hP hS hl h
  unfold fX2_startAnew_23_E at h
  refine lv_aload_n hx hb dX2_startAnew_0 rfl (lv_at hl 0 rfl) ?_
  refine lv_iconst (v := 0) hx hb dX2_startAnew_1 (by decide) ?_
  refine x_put (v := .int 0) X hP hS (gC23 c3 ad w) rfl iwX2_startAnew_X2 tyX2 tyX2_ok nmX2 7 (by decide) lkX2_startAnew_34 rfl rfl rfl (Nat.le_of_ble_eq_true rfl) (pC23_7 c3 ad w 0) dX2_startAnew_2 (fun H locs hP hS => ?_)
  refine x_nmw h hP (fun w_1 h hP => ?_)
  refine lv_aload_n hx hb dX2_startAnew_5 rfl (lv_at hl 0 rfl) ?_
  refine lv_iconst (v := 0) hx hb dX2_startAnew_6 (by decide) ?_
  refine x_put (v := .int 0) X hP hS (gC23 c3 ad w_1) rfl iwX2_startAnew_X2 tyX2 tyX2_ok nmX2 8 (by decide) lkX2_startAnew_37 rfl rfl rfl (Nat.le_of_ble_eq_true rfl) (pC23_8 c3 ad w_1 0) dX2_startAnew_7 (fun H locs hP hS => ?_)
  refine x_nmw h hP (fun w_2 h hP => ?_)
  refine lv_aload_n hx hb dX2_startAnew_10 rfl (lv_at hl 0 rfl) ?_
  refine lv_bipush (v := (-9)) hx hb dX2_startAnew_11 (by decide) ?_
  refine x_put (v := .int (-9)) X hP hS (gC23 c3 ad w_2) rfl iwX2_startAnew_X2 tyX2 tyX2_ok nmX2 9 (by decide) lkX2_startAnew_40 rfl rfl rfl (Nat.le_of_ble_eq_true rfl) (pC23_9 c3 ad w_2 (-9)) dX2_startAnew_13 (fun H locs hP hS => ?_)
  refine x_nmw h hP (fun w_3 h hP => ?_)
  refine lv_aload_n hx hb dX2_startAnew_16 rfl (lv_at hl 0 rfl) ?_
  refine x_get (rest := []) X hP (gC23 c3 ad w_3) rfl iwX2_startAnew_X2 10 (by decide) lkX2_startAnew_43 rfl dX2_startAnew_17 ?_
  refine lv_iconst (v := 0) hx hb dX2_startAnew_20 (by decide) ?_
  obtain ⟨w_6, e_4, h⟩ := bo_s h
  refine x_gov X hS (x_runS (As := [.ref (ad 28), .int 0]) (rest := []) X gC_ok hP hS (ctJ7_fill_53178_28 l D c3 ad w_3 _ 0 _ e_4) (va_cwS 2 hts gX2_startAnew_J7_fill_53178 rfl rfl rfl (by decide +kernel) ⟨by decide, by decide⟩) rfl hl.1 rfl (Nat.le_of_ble_eq_true rfl) dX2_startAnew_21) (fun H locs hP hS => ?_)
  refine lv_aload_n hx hb dX2_startAnew_24 rfl (lv_at hl 0 rfl) ?_
  refine lv_iconst (v := 0) hx hb dX2_startAnew_25 (by decide) ?_
  refine x_put (v := .int 0) X hP hS (gC23 c3 ad w_6) rfl iwX2_startAnew_X2 tyX2 tyX2_ok nmX2 11 (by decide) lkX2_startAnew_46 rfl rfl rfl (Nat.le_of_ble_eq_true rfl) (pC23_11 c3 ad w_6 0) dX2_startAnew_26 (fun H locs hP hS => ?_)
  refine x_nmw h hP (fun w_7 h hP => ?_)
  obtain rfl := Option.some.inj h
  exact hret _ _ _ _ hP hS dX2_startAnew_29
def fX2_startAnew_23 (w : Mm) : Option (Mm) := fX2_startAnew_23_E w
theorem ctX2_startAnew_23 (l : Launch) (D : va_G) (c3 : C3) (ad : Nat → Nat) (w : Mm) (sz : Nat) (w' : Mm) (h : fX2_startAnew_23 w = some w') : Cv l yX2_startAnew wsX2_startAnew rmX2_startAnew_23 D c3 (encC c3 ad) gC [.ref (ad 23)] w sz w' := by
  refine Cv.of (cc := cX2_startAnew) (maxL := 1) (encC_ok c3 ad) (by decide) rfl (Nat.le_of_ble_eq_true rfl) ?_
  intro p e s m below meth c A Q ls X hret hP hS hl
  exact bX2_startAnew_23_E X hret w _ _ ls hP hS hl h
theorem iwX2_become_X2 : ∀ w ∈ wsX20, w ∈ wsX2_become := fun _ h => List.mem_cons_of_mem _ (List.mem_append_right _ h)
theorem lkX2_become_9 : Cond.fieldLink RX2 9 "StuckDoor$Family" "people" "I" ∈ wsX2_become := by decide +kernel
theorem lkX2_become_15 : Cond.fieldLink RX2 15 "StuckDoor$Family" "bearing" "[I" ∈ wsX2_become := by decide +kernel
theorem lkX2_become_19 : Cond.fieldLink RX2 19 "StuckDoor$Family" "sayings" "I" ∈ wsX2_become := by decide +kernel
theorem lkX2_become_22 : Cond.fieldLink RX2 22 "StuckDoor$Family" "kind" "[I" ∈ wsX2_become := by decide +kernel
theorem lkX2_become_25 : Cond.fieldLink RX2 25 "StuckDoor$Family" "told" "[I" ∈ wsX2_become := by decide +kernel
theorem lkX2_become_28 : Cond.fieldLink RX2 28 "StuckDoor$Family" "topics" "[I" ∈ wsX2_become := by decide +kernel
theorem lkX2_become_31 : Cond.fieldLink RX2 31 "StuckDoor$Family" "stuckRooms" "I" ∈ wsX2_become := by decide +kernel
def rmX2_become_23_31 : Room := { frames := 2, cells := 0, slots := 0, locals := 43 }
def fX2_become_23_31_E (w : Mm) : Option (Mm) := nm (sA w 23 0 (w.1 31 0)) (fun w_1 => nm (sA w_1 23 2 (w_1.1 31 2)) (fun w_2 => nm (sA w_2 23 6 (w_2.1 31 6)) (fun w_3 => gd (¬ (0 : Int32) < 0 ∧ ¬ (0 : Int32) < 0 ∧ ¬ (4 : Int32) < 0 ∧ (0 : Int32).toNatClampNeg + (4 : Int32).toNatClampNeg ≤ 4 ∧ (0 : Int32).toNatClampNeg + (4 : Int32).toNatClampNeg ≤ 4) (nm (sF w_3 24 (va_cpy (w_3.1 32) (w_3.1 24) (0 : Int32).toNatClampNeg (0 : Int32).toNatClampNeg (4 : Int32).toNatClampNeg)) (fun w_5 => gd (¬ (0 : Int32) < 0 ∧ ¬ (0 : Int32) < 0 ∧ ¬ (6 : Int32) < 0 ∧ (0 : Int32).toNatClampNeg + (6 : Int32).toNatClampNeg ≤ 6 ∧ (0 : Int32).toNatClampNeg + (6 : Int32).toNatClampNeg ≤ 6) (nm (sF w_5 25 (va_cpy (w_5.1 33) (w_5.1 25) (0 : Int32).toNatClampNeg (0 : Int32).toNatClampNeg (6 : Int32).toNatClampNeg)) (fun w_7 => nm (sF w_7 26 (va_cpy (w_7.1 34) (w_7.1 26) (0 : Int32).toNatClampNeg (0 : Int32).toNatClampNeg (6 : Int32).toNatClampNeg)) (fun w_8 => nm (sF w_8 27 (va_cpy (w_8.1 35) (w_8.1 27) (0 : Int32).toNatClampNeg (0 : Int32).toNatClampNeg (6 : Int32).toNatClampNeg)) (fun w_9 => bo (fX2_startAnew_23 w_9) (fun w_12 => some w_12))))))))))
set_option maxRecDepth 20000 in
theorem bX2_become_23_31_E {p : Program} {l : Launch} {e : Env} {s : State} {m : MethodId} {args : Array Value} {below : List Frame} {meth : Method} {c : Code} {Q : State → Prop} {D : va_G} {c3 : C3} {ad : Nat → Nat} {A : Nat → Prop} {w' : Mm} (X : Cx p s m args c cX2_become 2 RX2 wsX2_become D c3 (encC c3 ad) gC A) (hret : Rv p l e (rmX2_become_23_31) s m args below meth c Q cX2_become D (encC c3 ad) A w') : ∀ (w : Mm) (H : Heap) (locs : List Loc) (ls : Array Slot), va_P D vwCl ((encC c3 ad) w) H → va_S A s.heap H locs → lv_has ls 2 [(0, .ref (ad 23)), (1, .ref (ad 31))] → fX2_become_23_31_E w = some w' → W p l e (rmX2_become_23_31) s m args below meth c H locs 0 0 Q (F0 m 0 ls []) := by
  have hx := X.1
  have hb := X.2.1
  have hml := X.2.2.1
  have hown := X.2.2.2.1
  have hts := X.2.2.2.2.1
  intro w H locs ls hP hS hl h
  unfold fX2_become_23_31_E at h
  refine lv_aload_n hx hb dX2_become_0 rfl (lv_at hl 0 rfl) ?_
  refine lv_aload_n hx hb dX2_become_1 rfl (lv_at hl 1 rfl) ?_
  refine x_get (rest := [.ref (ad 23)]) X hP (gC31 c3 ad w) rfl iwX2_become_X2 0 (by decide) lkX2_become_9 rfl dX2_become_2 ?_
  refine x_put (v := .int (w.1 31 0)) X hP hS (gC23 c3 ad w) rfl iwX2_become_X2 tyX2 tyX2_ok nmX2 0 (by decide) lkX2_become_9 rfl rfl rfl (Nat.le_of_ble_eq_true rfl) (pC23_0 c3 ad w (w.1 31 0)) dX2_become_5 (fun H locs hP hS => ?_)
  refine x_nmw h hP (fun w_1 h hP => ?_)
  refine lv_aload_n hx hb dX2_become_8 rfl (lv_at hl 0 rfl) ?_
  refine lv_aload_n hx hb dX2_become_9 rfl (lv_at hl 1 rfl) ?_
  refine x_get (rest := [.ref (ad 23)]) X hP (gC31 c3 ad w_1) rfl iwX2_become_X2 2 (by decide) lkX2_become_19 rfl dX2_become_10 ?_
  refine x_put (v := .int (w_1.1 31 2)) X hP hS (gC23 c3 ad w_1) rfl iwX2_become_X2 tyX2 tyX2_ok nmX2 2 (by decide) lkX2_become_19 rfl rfl rfl (Nat.le_of_ble_eq_true rfl) (pC23_2 c3 ad w_1 (w_1.1 31 2)) dX2_become_13 (fun H locs hP hS => ?_)
  refine x_nmw h hP (fun w_2 h hP => ?_)
  refine lv_aload_n hx hb dX2_become_16 rfl (lv_at hl 0 rfl) ?_
  refine lv_aload_n hx hb dX2_become_17 rfl (lv_at hl 1 rfl) ?_
  refine x_get (rest := [.ref (ad 23)]) X hP (gC31 c3 ad w_2) rfl iwX2_become_X2 6 (by decide) lkX2_become_31 rfl dX2_become_18 ?_
  refine x_put (v := .int (w_2.1 31 6)) X hP hS (gC23 c3 ad w_2) rfl iwX2_become_X2 tyX2 tyX2_ok nmX2 6 (by decide) lkX2_become_31 rfl rfl rfl (Nat.le_of_ble_eq_true rfl) (pC23_6 c3 ad w_2 (w_2.1 31 6)) dX2_become_21 (fun H locs hP hS => ?_)
  refine x_nmw h hP (fun w_3 h hP => ?_)
  refine lv_aload_n hx hb dX2_become_24 rfl (lv_at hl 1 rfl) ?_
  refine x_get (rest := []) X hP (gC31 c3 ad w_3) rfl iwX2_become_X2 1 (by decide) lkX2_become_15 rfl dX2_become_25 ?_
  refine lv_iconst (v := 0) hx hb dX2_become_28 (by decide) ?_
  refine lv_aload_n hx hb dX2_become_29 rfl (lv_at hl 0 rfl) ?_
  refine x_get (rest := [.int 0, .ref (ad 32)]) X hP (gC23 c3 ad w_3) rfl iwX2_become_X2 1 (by decide) lkX2_become_15 rfl dX2_become_30 ?_
  refine lv_iconst (v := 0) hx hb dX2_become_33 (by decide) ?_
  refine lv_iconst (v := 4) hx hb dX2_become_34 (by decide) ?_
  obtain ⟨g_4, h⟩ := gd_s h
  refine x_copy X hP hS (gC32 c3 ad w_3) (gC24 c3 ad w_3) (tC24 c3 ad w_3 _) g_4 (by rw [hml]; exact hl.1.symm) (hts (.methodLink RX2 52 arraycopyName) (by decide +kernel)) (hts (.native arraycopyName) (by decide +kernel)) (hts (.static arraycopyName) (by decide +kernel)) (hts (.initialized "java/lang/System") (by decide +kernel)) (Nat.le_of_ble_eq_true rfl) (Nat.le_of_ble_eq_true rfl) dX2_become_35 (fun H locs hP hS => ?_)
  refine x_nmw h hP (fun w_5 h hP => ?_)
  refine lv_aload_n hx hb dX2_become_38 rfl (lv_at hl 1 rfl) ?_
  refine x_get (rest := []) X hP (gC31 c3 ad w_5) rfl iwX2_become_X2 3 (by decide) lkX2_become_22 rfl dX2_become_39 ?_
  refine lv_iconst (v := 0) hx hb dX2_become_42 (by decide) ?_
  refine lv_aload_n hx hb dX2_become_43 rfl (lv_at hl 0 rfl) ?_
  refine x_get (rest := [.int 0, .ref (ad 33)]) X hP (gC23 c3 ad w_5) rfl iwX2_become_X2 3 (by decide) lkX2_become_22 rfl dX2_become_44 ?_
  refine lv_iconst (v := 0) hx hb dX2_become_47 (by decide) ?_
  refine lv_bipush (v := 6) hx hb dX2_become_48 (by decide) ?_
  obtain ⟨g_6, h⟩ := gd_s h
  refine x_copy X hP hS (gC33 c3 ad w_5) (gC25 c3 ad w_5) (tC25 c3 ad w_5 _) g_6 (by rw [hml]; exact hl.1.symm) (hts (.methodLink RX2 52 arraycopyName) (by decide +kernel)) (hts (.native arraycopyName) (by decide +kernel)) (hts (.static arraycopyName) (by decide +kernel)) (hts (.initialized "java/lang/System") (by decide +kernel)) (Nat.le_of_ble_eq_true rfl) (Nat.le_of_ble_eq_true rfl) dX2_become_50 (fun H locs hP hS => ?_)
  refine x_nmw h hP (fun w_7 h hP => ?_)
  refine lv_aload_n hx hb dX2_become_53 rfl (lv_at hl 1 rfl) ?_
  refine x_get (rest := []) X hP (gC31 c3 ad w_7) rfl iwX2_become_X2 4 (by decide) lkX2_become_25 rfl dX2_become_54 ?_
  refine lv_iconst (v := 0) hx hb dX2_become_57 (by decide) ?_
  refine lv_aload_n hx hb dX2_become_58 rfl (lv_at hl 0 rfl) ?_
  refine x_get (rest := [.int 0, .ref (ad 34)]) X hP (gC23 c3 ad w_7) rfl iwX2_become_X2 4 (by decide) lkX2_become_25 rfl dX2_become_59 ?_
  refine lv_iconst (v := 0) hx hb dX2_become_62 (by decide) ?_
  refine lv_bipush (v := 6) hx hb dX2_become_63 (by decide) ?_
  refine x_copy X hP hS (gC34 c3 ad w_7) (gC26 c3 ad w_7) (tC26 c3 ad w_7 _) g_6 (by rw [hml]; exact hl.1.symm) (hts (.methodLink RX2 52 arraycopyName) (by decide +kernel)) (hts (.native arraycopyName) (by decide +kernel)) (hts (.static arraycopyName) (by decide +kernel)) (hts (.initialized "java/lang/System") (by decide +kernel)) (Nat.le_of_ble_eq_true rfl) (Nat.le_of_ble_eq_true rfl) dX2_become_65 (fun H locs hP hS => ?_)
  refine x_nmw h hP (fun w_8 h hP => ?_)
  refine lv_aload_n hx hb dX2_become_68 rfl (lv_at hl 1 rfl) ?_
  refine x_get (rest := []) X hP (gC31 c3 ad w_8) rfl iwX2_become_X2 5 (by decide) lkX2_become_28 rfl dX2_become_69 ?_
  refine lv_iconst (v := 0) hx hb dX2_become_72 (by decide) ?_
  refine lv_aload_n hx hb dX2_become_73 rfl (lv_at hl 0 rfl) ?_
  refine x_get (rest := [.int 0, .ref (ad 35)]) X hP (gC23 c3 ad w_8) rfl iwX2_become_X2 5 (by decide) lkX2_become_28 rfl dX2_become_74 ?_
  refine lv_iconst (v := 0) hx hb dX2_become_77 (by decide) ?_
  refine lv_bipush (v := 6) hx hb dX2_become_78 (by decide) ?_
  refine x_copy X hP hS (gC35 c3 ad w_8) (gC27 c3 ad w_8) (tC27 c3 ad w_8 _) g_6 (by rw [hml]; exact hl.1.symm) (hts (.methodLink RX2 52 arraycopyName) (by decide +kernel)) (hts (.native arraycopyName) (by decide +kernel)) (hts (.static arraycopyName) (by decide +kernel)) (hts (.initialized "java/lang/System") (by decide +kernel)) (Nat.le_of_ble_eq_true rfl) (Nat.le_of_ble_eq_true rfl) dX2_become_80 (fun H locs hP hS => ?_)
  refine x_nmw h hP (fun w_9 h hP => ?_)
  refine lv_aload_n hx hb dX2_become_83 rfl (lv_at hl 0 rfl) ?_
  obtain ⟨w_12, e_10, h⟩ := bo_s h
  refine x_gov X hS (x_runV (As := []) (rest := []) X gC_ok hP hS (ctX2_startAnew_23 l D c3 ad w_9 _ _ e_10) (cwV 0 hts gX2_become_X2_startAnew rfl rfl rfl (by decide +kernel) ⟨by decide, by decide⟩) (gC23 c3 ad w_9) rfl rfl rfl hl.1 rfl (Nat.le_of_ble_eq_true rfl) dX2_become_84) (fun H locs hP hS => ?_)
  obtain rfl := Option.some.inj h
  exact hret _ _ _ _ hP hS dX2_become_87
def fX2_become_23_31 (w : Mm) : Option (Mm) := fX2_become_23_31_E w
theorem ctX2_become_23_31 (l : Launch) (D : va_G) (c3 : C3) (ad : Nat → Nat) (w : Mm) (sz : Nat) (w' : Mm) (h : fX2_become_23_31 w = some w') : Cv l yX2_become wsX2_become rmX2_become_23_31 D c3 (encC c3 ad) gC [.ref (ad 23), .ref (ad 31)] w sz w' := by
  refine Cv.of (cc := cX2_become) (maxL := 2) (encC_ok c3 ad) (by decide) rfl (Nat.le_of_ble_eq_true rfl) ?_
  intro p e s m below meth c A Q ls X hret hP hS hl
  exact bX2_become_23_31_E X hret w _ _ ls hP hS hl h
theorem iwX7_family_X2 : ∀ w ∈ wsX20, w ∈ wsX7_family := fun _ h => List.mem_cons_of_mem _ (List.mem_append_right _ h)
theorem iwX7_family_X4 : ∀ w ∈ wsX40, w ∈ wsX7_family := fun _ h => List.mem_cons_of_mem _ (List.mem_append_left _ (List.mem_append_right _ h))
theorem iwX7_family_X5 : ∀ w ∈ wsX50, w ∈ wsX7_family := fun _ h => List.mem_cons_of_mem _ (List.mem_append_left _ (List.mem_append_left _ (List.mem_append_right _ h)))
theorem iwX7_family_X7 : ∀ w ∈ wsX70, w ∈ wsX7_family := fun _ h => List.mem_cons_of_mem _ (List.mem_append_left _ (List.mem_append_left _ (List.mem_append_left _ (List.mem_append_right _ h))))
theorem lkX7_family_18 : Cond.fieldLink RX7 18 "StuckDoor" "texts" "LStuckDoor$Rows;" ∈ wsX7_family := by decide +kernel
theorem lkX7_family_21 : Cond.fieldLink RX7 21 "StuckDoor" "kept" "LStuckDoor$Rows;" ∈ wsX7_family := by decide +kernel
theorem lkX7_family_27 : Cond.fieldLink RX7 27 "StuckDoor" "family" "LStuckDoor$Family;" ∈ wsX7_family := by decide +kernel
theorem lkX7_family_34 : Cond.fieldLink RX7 34 "StuckDoor" "reader" "LStuckDoor$Reader;" ∈ wsX7_family := by decide +kernel
theorem lkX7_family_86 : Cond.fieldLink RX7 86 "StuckDoor$Rows" "places" "[[I" ∈ wsX7_family := by decide +kernel
theorem lkX7_family_94 : Cond.fieldLink RX7 94 "StuckDoor$Rows" "sizes" "[I" ∈ wsX7_family := by decide +kernel
theorem lkX7_family_114 : Cond.fieldLink RX7 114 "StuckDoor$Reader" "draft" "LStuckDoor$Family;" ∈ wsX7_family := by decide +kernel
theorem lkX7_family_121 : Cond.fieldLink RX7 121 "StuckDoor$Family" "sayings" "I" ∈ wsX7_family := by decide +kernel
def rmX7_family : Room := { frames := 4, cells := 0, slots := 0, locals := 92 }
def fX7_family_65 : Nat → Int32 → Mm → Option (Int32 × Mm)
  | 0, _, _ => none
  | n + 1, x3, w => (if 3 ≤ x3 then some ((w.1 23 2), w) else gd (inb x3 3 = true) (nm (sA w 19 x3.toNatClampNeg (-1)) (fun w_3 => fX7_family_65 n (x3 + 1) w_3)))
set_option maxRecDepth 20000 in
theorem bX7_family_65 {p : Program} {l : Launch} {e : Env} {s : State} {m : MethodId} {args : Array Value} {below : List Frame} {meth : Method} {c : Code} {Q : State → Prop} {D : va_G} {c3 : C3} {ad : Nat → Nat} {A : Nat → Prop} {r : Int32} {w' : Mm} (X : Cx p s m args c cX7_family 4 RX7 wsX7_family D c3 (encC c3 ad) gC A) (hret : Ri p l e (rmX7_family) s m args below meth c Q cX7_family D (encC c3 ad) A r w') : ∀ (n : Nat) (x3 : Int32) (w : Mm) (H : Heap) (locs : List Loc) (ls : Array Slot), va_P D vwCl ((encC c3 ad) w) H → va_S A s.heap H locs → lv_has ls 4 [(0, .ref (ad 0)), (3, .int x3)] → fX7_family_65 n x3 w = some (r, w') → W p l e (rmX7_family) s m args below meth c H locs 0 0 Q (F0 m 65 ls []) := by
  have hx := X.1
  have hb := X.2.1
  have hml := X.2.2.1
  have hown := X.2.2.2.1
  have hts := X.2.2.2.2.1
  intro n
  induction n with
  | zero =>
    intro x3 w H locs ls hP hS hl h
    exact absurd h (by simp [fX7_family_65])
  | succ n ih =>
    intro x3 w H locs ls hP hS hl h
    rw [fX7_family_65] at h
    refine lv_iload_n hx hb dX7_family_65 rfl (lv_at hl 1 rfl) ?_
    refine lv_iconst (v := 3) hx hb dX7_family_66 (by decide) ?_
    refine lv_icmp_ge (tgt := 86) hx hb dX7_family_67 (by decide) (fun c_1 => ?_) (fun c_1 => ?_)
    · replace h := it_p c_1 h
      refine lv_aload_n hx hb dX7_family_86 rfl (lv_at hl 0 rfl) ?_
      refine x_get (rest := []) X hP (gC0 c3 ad w) rfl iwX7_family_X7 3 (by decide) lkX7_family_27 rfl dX7_family_87 ?_
      refine x_get (rest := []) X hP (gC23 c3 ad w) rfl iwX7_family_X2 2 (by decide) lkX7_family_121 rfl dX7_family_90 ?_
      obtain ⟨rfl, rfl⟩ := Prod.mk.inj (Option.some.inj h)
      exact hret _ _ _ _ hP hS dX7_family_93
    · replace h := it_n c_1 h
      refine lv_aload_n hx hb dX7_family_70 rfl (lv_at hl 0 rfl) ?_
      refine x_get (rest := []) X hP (gC0 c3 ad w) rfl iwX7_family_X7 2 (by decide) lkX7_family_21 rfl dX7_family_71 ?_
      refine x_get (rest := []) X hP (gC17 c3 ad w) rfl iwX7_family_X5 1 (by decide) lkX7_family_94 rfl dX7_family_74 ?_
      refine lv_iload_n hx hb dX7_family_77 rfl (lv_at hl 1 rfl) ?_
      refine lv_iconst (v := (-1)) hx hb dX7_family_78 (by decide) ?_
      obtain ⟨g_2, h⟩ := gd_s h
      refine x_iast X hP hS (gC19 c3 ad w) (sC19 c3 ad w _ _) g_2 dX7_family_79 (fun H locs hP hS => ?_)
      refine x_nmw h hP (fun w_3 h hP => ?_)
      refine lv_iinc (v := (x3 + 1)) (lv' := [(3, .int (x3 + 1)), (0, .ref (ad 0))]) hx hb dX7_family_80 hl (k := 1) rfl rfl (by decide) rfl (fun ls hl => ?_)
      refine lv_goto (tgt := 65) hx hb dX7_family_83 (by decide) ?_
      exact ih (x3 + 1) w_3 _ _ _ hP hS (lv_sub hl [1, 0] rfl) h
def fX7_family_E (x1 : Int32) (w : Mm) : Option (Int32 × Mm) := bd (fX7_refusalOfRow_0_10 x1 w) (fun r_5 w_6 => (if r_5 = 0 then gd (inb x1 4 = true) (bd (fX4_faultOf_30_T (13 + x1.toNatClampNeg) (w_6.1 12 x1.toNatClampNeg) w_6) (fun r_11 w_12 => (if r_11 = (-9) then bo (fX2_become_23_31 w_12) (fun w_16 => fX7_family_65 FU 0 w_16) else some ((-4), w_12)))) else some (r_5, w_6)))
set_option maxRecDepth 20000 in
theorem bX7_family_E {p : Program} {l : Launch} {e : Env} {s : State} {m : MethodId} {args : Array Value} {below : List Frame} {meth : Method} {c : Code} {Q : State → Prop} {D : va_G} {c3 : C3} {ad : Nat → Nat} {A : Nat → Prop} {r : Int32} {w' : Mm} (X : Cx p s m args c cX7_family 4 RX7 wsX7_family D c3 (encC c3 ad) gC A) (hret : Ri p l e (rmX7_family) s m args below meth c Q cX7_family D (encC c3 ad) A r w') : ∀ (x1 : Int32) (w : Mm) (H : Heap) (locs : List Loc) (ls : Array Slot), va_P D vwCl ((encC c3 ad) w) H → va_S A s.heap H locs → lv_has ls 4 [(0, .ref (ad 0)), (1, .int x1)] → fX7_family_E x1 w = some (r, w') → W p l e (rmX7_family) s m args below meth c H locs 0 0 Q (F0 m 0 ls []) := by
  have hx := X.1
  have hb := X.2.1
  have hml := X.2.2.1
  have hown := X.2.2.2.1
  have hts := X.2.2.2.2.1
  intro x1 w H locs ls hP hS hl h
  unfold fX7_family_E at h
  refine lv_aload_n hx hb dX7_family_0 rfl (lv_at hl 0 rfl) ?_
  refine lv_aload_n hx hb dX7_family_1 rfl (lv_at hl 0 rfl) ?_
  refine x_get (rest := [.ref (ad 0)]) X hP (gC0 c3 ad w) rfl iwX7_family_X7 1 (by decide) lkX7_family_18 rfl dX7_family_2 ?_
  refine lv_iload_n hx hb dX7_family_5 rfl (lv_at hl 1 rfl) ?_
  obtain ⟨r_5, w_6, e_4, h⟩ := bd_s h
  refine x_goi X hS (x_runV (As := [.ref (ad 10), .int x1]) (rest := []) X gC_ok hP hS (ctX7_refusalOfRow_0_10 l D c3 ad w _ x1 _ _ e_4) (cwV 2 hts gX7_family_X7_refusalOfRow rfl rfl rfl (by decide +kernel) ⟨by decide, by decide⟩) (gC0 c3 ad w) rfl rfl rfl hl.1 rfl (Nat.le_of_ble_eq_true rfl) dX7_family_6) (fun H locs hP hS => ?_)
  refine lv_istore_n (lv' := [(2, .int r_5), (0, .ref (ad 0)), (1, .int x1)]) hx hb dX7_family_9 rfl hl (by decide) rfl (fun ls hl => ?_)
  refine lv_iload_n hx hb dX7_family_10 rfl (lv_at hl 0 rfl) ?_
  refine lv_if_eq (tgt := 16) hx hb dX7_family_11 (by decide) (fun c_7 => ?_) (fun c_7 => ?_)
  · replace h := it_p c_7 h
    refine lv_aload_n hx hb dX7_family_16 rfl (lv_at hl 1 rfl) ?_
    refine x_get (rest := []) X hP (gC0 c3 ad w_6) rfl iwX7_family_X7 4 (by decide) lkX7_family_34 rfl dX7_family_17 ?_
    refine lv_aload_n hx hb dX7_family_20 rfl (lv_at hl 1 rfl) ?_
    refine x_get (rest := [.ref (ad 30)]) X hP (gC0 c3 ad w_6) rfl iwX7_family_X7 1 (by decide) lkX7_family_18 rfl dX7_family_21 ?_
    refine x_get (rest := [.ref (ad 30)]) X hP (gC10 c3 ad w_6) rfl iwX7_family_X5 0 (by decide) lkX7_family_86 rfl dX7_family_24 ?_
    refine lv_iload_n hx hb dX7_family_27 rfl (lv_at hl 2 rfl) ?_
    obtain ⟨g_8, h⟩ := gd_s h
    have q_9 := rgn 13 g_8
    refine x_aald (z := ad (13 + x1.toNatClampNeg)) X hP (gC11 c3 ad w_6) g_8 rfl dX7_family_28 ?_
    refine lv_aload_n hx hb dX7_family_29 rfl (lv_at hl 1 rfl) ?_
    refine x_get (rest := [.ref (ad (13 + x1.toNatClampNeg)), .ref (ad 30)]) X hP (gC0 c3 ad w_6) rfl iwX7_family_X7 1 (by decide) lkX7_family_18 rfl dX7_family_30 ?_
    refine x_get (rest := [.ref (ad (13 + x1.toNatClampNeg)), .ref (ad 30)]) X hP (gC10 c3 ad w_6) rfl iwX7_family_X5 1 (by decide) lkX7_family_94 rfl dX7_family_33 ?_
    refine lv_iload_n hx hb dX7_family_36 rfl (lv_at hl 2 rfl) ?_
    refine x_iald X hP (gC12 c3 ad w_6) g_8 dX7_family_37 ?_
    obtain ⟨r_11, w_12, e_10, h⟩ := bd_s h
    refine x_goi X hS (x_runV (As := [.ref (ad (13 + x1.toNatClampNeg)), .int (w_6.1 12 x1.toNatClampNeg)]) (rest := []) X gC_ok hP hS (ctX4_faultOf_30_T l D c3 ad w_6 _ (13 + x1.toNatClampNeg) (w_6.1 12 x1.toNatClampNeg) _ _ e_10) (cwV 2 hts gX7_family_X4_faultOf rfl rfl rfl (by decide +kernel) ⟨by decide, by decide⟩) (gC30 c3 ad w_6) rfl rfl rfl hl.1 rfl (Nat.le_of_ble_eq_true rfl) dX7_family_38) (fun H locs hP hS => ?_)
    refine lv_bipush (v := (-9)) hx hb dX7_family_41 (by decide) ?_
    refine lv_icmp_eq (tgt := 49) hx hb dX7_family_43 (by decide) (fun c_13 => ?_) (fun c_13 => ?_)
    · replace h := it_p c_13 h
      refine lv_aload_n hx hb dX7_family_49 rfl (lv_at hl 1 rfl) ?_
      refine x_get (rest := []) X hP (gC0 c3 ad w_12) rfl iwX7_family_X7 3 (by decide) lkX7_family_27 rfl dX7_family_50 ?_
      refine lv_aload_n hx hb dX7_family_53 rfl (lv_at hl 1 rfl) ?_
      refine x_get (rest := [.ref (ad 23)]) X hP (gC0 c3 ad w_12) rfl iwX7_family_X7 4 (by decide) lkX7_family_34 rfl dX7_family_54 ?_
      refine x_get (rest := [.ref (ad 23)]) X hP (gC30 c3 ad w_12) rfl iwX7_family_X4 0 (by decide) lkX7_family_114 rfl dX7_family_57 ?_
      obtain ⟨w_16, e_14, h⟩ := bo_s h
      refine x_gov X hS (x_runV (As := [.ref (ad 31)]) (rest := []) X gC_ok hP hS (ctX2_become_23_31 l D c3 ad w_12 _ _ e_14) (cwV 1 hts gX7_family_X2_become rfl rfl rfl (by decide +kernel) ⟨by decide, by decide⟩) (gC23 c3 ad w_12) rfl rfl rfl hl.1 rfl (Nat.le_of_ble_eq_true rfl) dX7_family_60) (fun H locs hP hS => ?_)
      refine lv_iconst (v := 0) hx hb dX7_family_63 (by decide) ?_
      refine lv_istore_n (lv' := [(3, .int 0), (2, .int r_5), (0, .ref (ad 0)), (1, .int x1)]) hx hb dX7_family_64 rfl hl (by decide) rfl (fun ls hl => ?_)
      exact bX7_family_65 X hret FU 0 w_16 _ _ _ hP hS (lv_sub hl [2, 0] rfl) h
    · replace h := it_n c_13 h
      refine lv_bipush (v := (-4)) hx hb dX7_family_46 (by decide) ?_
      obtain ⟨rfl, rfl⟩ := Prod.mk.inj (Option.some.inj h)
      exact hret _ _ _ _ hP hS dX7_family_48
  · replace h := it_n c_7 h
    refine lv_iload_n hx hb dX7_family_14 rfl (lv_at hl 0 rfl) ?_
    obtain ⟨rfl, rfl⟩ := Prod.mk.inj (Option.some.inj h)
    exact hret _ _ _ _ hP hS dX7_family_15
def fX7_family (x1 : Int32) (w : Mm) : Option (Int32 × Mm) := fX7_family_E x1 w
theorem ctX7_family (l : Launch) (D : va_G) (c3 : C3) (ad : Nat → Nat) (w : Mm) (sz : Nat) (x1 : Int32) (r : Int32) (w' : Mm) (h : fX7_family x1 w = some (r, w')) : Ci l yX7_family wsX7_family rmX7_family D c3 (encC c3 ad) gC [.ref (ad 0), .int x1] w sz r w' := by
  refine Ci.of (cc := cX7_family) (maxL := 4) (encC_ok c3 ad) (by decide) rfl (Nat.le_of_ble_eq_true rfl) ?_
  intro p e s m below meth c A Q ls X hret hP hS hl
  exact bX7_family_E X hret x1 w _ _ ls hP hS hl h
theorem iwX2_hasSaying_X2 : ∀ w ∈ wsX20, w ∈ wsX2_hasSaying := fun _ h => List.mem_cons_of_mem _ (List.mem_append_right _ h)
theorem lkX2_hasSaying_19 : Cond.fieldLink RX2 19 "StuckDoor$Family" "sayings" "I" ∈ wsX2_hasSaying := by decide +kernel
def rmX2_hasSaying_23 : Room := { frames := 0, cells := 0, slots := 0, locals := 0 }
def fX2_hasSaying_23_E (x1 : Int32) (w : Mm) : Option (Int32) := (if x1 < 0 then some 0 else (if (w.1 23 2) ≤ x1 then some 0 else some 1))
set_option maxRecDepth 20000 in
theorem bX2_hasSaying_23_E {p : Program} {l : Launch} {e : Env} {s : State} {m : MethodId} {args : Array Value} {below : List Frame} {meth : Method} {c : Code} {Q : State → Prop} {D : va_G} {c3 : C3} {ad : Nat → Nat} {A : Nat → Prop} {r : Int32} {w : Mm} (X : Cx p s m args c cX2_hasSaying 2 RX2 wsX2_hasSaying D c3 (encC c3 ad) gC A) (hret : Rz p l e (rmX2_hasSaying_23) s m args below meth c Q cX2_hasSaying D (encC c3 ad) A r w) : ∀ (x1 : Int32) (H : Heap) (locs : List Loc) (ls : Array Slot), va_P D vwCl ((encC c3 ad) w) H → va_S A s.heap H locs → lv_has ls 2 [(0, .ref (ad 23)), (1, .int x1)] → fX2_hasSaying_23_E x1 w = some r → W p l e (rmX2_hasSaying_23) s m args below meth c H locs 0 0 Q (F0 m 0 ls []) := by
  have hx := X.1
  have hb := X.2.1
  have hml := X.2.2.1
  have hown := X.2.2.2.1
  have hts := X.2.2.2.2.1
  intro x1 H locs ls hP hS hl h
  unfold fX2_hasSaying_23_E at h
  refine lv_iload_n hx hb dX2_hasSaying_0 rfl (lv_at hl 1 rfl) ?_
  refine lv_if_lt (tgt := 16) hx hb dX2_hasSaying_1 (by decide) (fun c_1 => ?_) (fun c_1 => ?_)
  · replace h := it_p c_1 h
    refine lv_iconst (v := 0) hx hb dX2_hasSaying_16 (by decide) ?_
    obtain rfl := Option.some.inj h
    exact hret (Or.inl rfl) _ _ _ _ hP hS dX2_hasSaying_17
  · replace h := it_n c_1 h
    refine lv_iload_n hx hb dX2_hasSaying_4 rfl (lv_at hl 1 rfl) ?_
    refine lv_aload_n hx hb dX2_hasSaying_5 rfl (lv_at hl 0 rfl) ?_
    refine x_get (rest := [.int x1]) X hP (gC23 c3 ad w) rfl iwX2_hasSaying_X2 2 (by decide) lkX2_hasSaying_19 rfl dX2_hasSaying_6 ?_
    refine lv_icmp_ge (tgt := 16) hx hb dX2_hasSaying_9 (by decide) (fun c_2 => ?_) (fun c_2 => ?_)
    · replace h := it_p c_2 h
      refine lv_iconst (v := 0) hx hb dX2_hasSaying_16 (by decide) ?_
      obtain rfl := Option.some.inj h
      exact hret (Or.inl rfl) _ _ _ _ hP hS dX2_hasSaying_17
    · replace h := it_n c_2 h
      refine lv_iconst (v := 1) hx hb dX2_hasSaying_12 (by decide) ?_
      refine lv_goto (tgt := 17) hx hb dX2_hasSaying_13 (by decide) ?_
      obtain rfl := Option.some.inj h
      exact hret (Or.inr rfl) _ _ _ _ hP hS dX2_hasSaying_17
def fX2_hasSaying_23 (x1 : Int32) (w : Mm) : Option (Int32) := fX2_hasSaying_23_E x1 w
theorem ctX2_hasSaying_23 (l : Launch) (D : va_G) (c3 : C3) (ad : Nat → Nat) (w : Mm) (sz : Nat) (x1 : Int32) (r : Int32) (h : fX2_hasSaying_23 x1 w = some r) : Ci l yX2_hasSaying wsX2_hasSaying rmX2_hasSaying_23 D c3 (encC c3 ad) gC [.ref (ad 23), .int x1] w sz r w := by
  refine Ci.ofz (cc := cX2_hasSaying) (maxL := 2) (encC_ok c3 ad) (by decide) rfl (Nat.le_of_ble_eq_true rfl) ?_
  intro p e s m below meth c A Q ls X hret hP hS hl
  exact bX2_hasSaying_23_E X hret x1 _ _ ls hP hS hl h
def rmJ6_bitCount_0f7a4 : Room := { frames := 0, cells := 0, slots := 0, locals := 0 }
def fJ6_bitCount_0f7a4_E (x0 : Int32) : Option (Int32) := nm (x0 - (((x0.toUInt32 >>> ((1 : Int32).toUInt32 &&& Int32.toUInt32 31)).toInt32) &&& 1431655765)) (fun x0_1 => nm ((x0_1 &&& 858993459) + (((x0_1.toUInt32 >>> ((2 : Int32).toUInt32 &&& Int32.toUInt32 31)).toInt32) &&& 858993459)) (fun x0_2 => nm ((x0_2 + ((x0_2.toUInt32 >>> ((4 : Int32).toUInt32 &&& Int32.toUInt32 31)).toInt32)) &&& 252645135) (fun x0_3 => nm (x0_3 + ((x0_3.toUInt32 >>> ((8 : Int32).toUInt32 &&& Int32.toUInt32 31)).toInt32)) (fun x0_4 => nm (x0_4 + ((x0_4.toUInt32 >>> ((16 : Int32).toUInt32 &&& Int32.toUInt32 31)).toInt32)) (fun x0_5 => some (x0_5 &&& 63))))))
set_option maxRecDepth 20000 in
theorem bJ6_bitCount_0f7a4_E {p : Program} {l : Launch} {e : Env} {s : State} {m : MethodId} {args : Array Value} {below : List Frame} {meth : Method} {c : Code} {Q : State → Prop} {D : va_G} {c3 : C3} {ad : Nat → Nat} {A : Nat → Prop} {r : Int32} {w : Mm} (X : Cx p s m args c cJ6_bitCount_0f7a4 1 RJ6 wsJ6_bitCount_0f7a4 D c3 (encC c3 ad) gC A) (hret : Ri p l e (rmJ6_bitCount_0f7a4) s m args below meth c Q cJ6_bitCount_0f7a4 D (encC c3 ad) A r w) : ∀ (x0 : Int32) (H : Heap) (locs : List Loc) (ls : Array Slot), va_P D vwCl ((encC c3 ad) w) H → va_S A s.heap H locs → lv_has ls 1 [(0, .int x0)] → fJ6_bitCount_0f7a4_E x0 = some r → W p l e (rmJ6_bitCount_0f7a4) s m args below meth c H locs 0 0 Q (F0 m 0 ls []) := by
  have hx := X.1
  have hb := X.2.1
  have hml := X.2.2.1
  have hown := X.2.2.2.1
  have hts := X.2.2.2.2.1
  intro x0 H locs ls hP hS hl h
  unfold fJ6_bitCount_0f7a4_E at h
  refine lv_iload_n hx hb dJ6_bitCount_0f7a4_0 rfl (lv_at hl 0 rfl) ?_
  refine lv_iload_n hx hb dJ6_bitCount_0f7a4_1 rfl (lv_at hl 0 rfl) ?_
  refine lv_iconst (v := 1) hx hb dJ6_bitCount_0f7a4_2 (by decide) ?_
  refine lv_iushr (v := (x0.toUInt32 >>> ((1 : Int32).toUInt32 &&& Int32.toUInt32 31)).toInt32) hx hb dJ6_bitCount_0f7a4_3 rfl ?_
  refine lv_ldcw (v := 1431655765) hx hb hown (hts (.constant RJ6 265 (1431655765)) (by decide +kernel)) dJ6_bitCount_0f7a4_4 ?_
  refine lv_iand hx hb dJ6_bitCount_0f7a4_7 ?_
  refine lv_isub hx hb dJ6_bitCount_0f7a4_8 ?_
  refine x_nmi h (fun x0_1 h => ?_)
  refine lv_istore_n (lv' := [(0, .int x0_1)]) hx hb dJ6_bitCount_0f7a4_9 rfl hl (by decide) rfl (fun ls hl => ?_)
  refine lv_iload_n hx hb dJ6_bitCount_0f7a4_10 rfl (lv_at hl 0 rfl) ?_
  refine lv_ldcw (v := 858993459) hx hb hown (hts (.constant RJ6 266 (858993459)) (by decide +kernel)) dJ6_bitCount_0f7a4_11 ?_
  refine lv_iand hx hb dJ6_bitCount_0f7a4_14 ?_
  refine lv_iload_n hx hb dJ6_bitCount_0f7a4_15 rfl (lv_at hl 0 rfl) ?_
  refine lv_iconst (v := 2) hx hb dJ6_bitCount_0f7a4_16 (by decide) ?_
  refine lv_iushr (v := (x0_1.toUInt32 >>> ((2 : Int32).toUInt32 &&& Int32.toUInt32 31)).toInt32) hx hb dJ6_bitCount_0f7a4_17 rfl ?_
  refine lv_ldcw (v := 858993459) hx hb hown (hts (.constant RJ6 266 (858993459)) (by decide +kernel)) dJ6_bitCount_0f7a4_18 ?_
  refine lv_iand hx hb dJ6_bitCount_0f7a4_21 ?_
  refine lv_iadd hx hb dJ6_bitCount_0f7a4_22 ?_
  refine x_nmi h (fun x0_2 h => ?_)
  refine lv_istore_n (lv' := [(0, .int x0_2)]) hx hb dJ6_bitCount_0f7a4_23 rfl hl (by decide) rfl (fun ls hl => ?_)
  refine lv_iload_n hx hb dJ6_bitCount_0f7a4_24 rfl (lv_at hl 0 rfl) ?_
  refine lv_iload_n hx hb dJ6_bitCount_0f7a4_25 rfl (lv_at hl 0 rfl) ?_
  refine lv_iconst (v := 4) hx hb dJ6_bitCount_0f7a4_26 (by decide) ?_
  refine lv_iushr (v := (x0_2.toUInt32 >>> ((4 : Int32).toUInt32 &&& Int32.toUInt32 31)).toInt32) hx hb dJ6_bitCount_0f7a4_27 rfl ?_
  refine lv_iadd hx hb dJ6_bitCount_0f7a4_28 ?_
  refine lv_ldcw (v := 252645135) hx hb hown (hts (.constant RJ6 267 (252645135)) (by decide +kernel)) dJ6_bitCount_0f7a4_29 ?_
  refine lv_iand hx hb dJ6_bitCount_0f7a4_32 ?_
  refine x_nmi h (fun x0_3 h => ?_)
  refine lv_istore_n (lv' := [(0, .int x0_3)]) hx hb dJ6_bitCount_0f7a4_33 rfl hl (by decide) rfl (fun ls hl => ?_)
  refine lv_iload_n hx hb dJ6_bitCount_0f7a4_34 rfl (lv_at hl 0 rfl) ?_
  refine lv_iload_n hx hb dJ6_bitCount_0f7a4_35 rfl (lv_at hl 0 rfl) ?_
  refine lv_bipush (v := 8) hx hb dJ6_bitCount_0f7a4_36 (by decide) ?_
  refine lv_iushr (v := (x0_3.toUInt32 >>> ((8 : Int32).toUInt32 &&& Int32.toUInt32 31)).toInt32) hx hb dJ6_bitCount_0f7a4_38 rfl ?_
  refine lv_iadd hx hb dJ6_bitCount_0f7a4_39 ?_
  refine x_nmi h (fun x0_4 h => ?_)
  refine lv_istore_n (lv' := [(0, .int x0_4)]) hx hb dJ6_bitCount_0f7a4_40 rfl hl (by decide) rfl (fun ls hl => ?_)
  refine lv_iload_n hx hb dJ6_bitCount_0f7a4_41 rfl (lv_at hl 0 rfl) ?_
  refine lv_iload_n hx hb dJ6_bitCount_0f7a4_42 rfl (lv_at hl 0 rfl) ?_
  refine lv_bipush (v := 16) hx hb dJ6_bitCount_0f7a4_43 (by decide) ?_
  refine lv_iushr (v := (x0_4.toUInt32 >>> ((16 : Int32).toUInt32 &&& Int32.toUInt32 31)).toInt32) hx hb dJ6_bitCount_0f7a4_45 rfl ?_
  refine lv_iadd hx hb dJ6_bitCount_0f7a4_46 ?_
  refine x_nmi h (fun x0_5 h => ?_)
  refine lv_istore_n (lv' := [(0, .int x0_5)]) hx hb dJ6_bitCount_0f7a4_47 rfl hl (by decide) rfl (fun ls hl => ?_)
  refine lv_iload_n hx hb dJ6_bitCount_0f7a4_48 rfl (lv_at hl 0 rfl) ?_
  refine lv_bipush (v := 63) hx hb dJ6_bitCount_0f7a4_49 (by decide) ?_
  refine lv_iand hx hb dJ6_bitCount_0f7a4_51 ?_
  obtain rfl := Option.some.inj h
  exact hret _ _ _ _ hP hS dJ6_bitCount_0f7a4_52
def fJ6_bitCount_0f7a4 (x0 : Int32) : Option (Int32) := fJ6_bitCount_0f7a4_E x0
theorem ctJ6_bitCount_0f7a4 (l : Launch) (D : va_G) (c3 : C3) (ad : Nat → Nat) (w : Mm) (sz : Nat) (x0 : Int32) (r : Int32) (h : fJ6_bitCount_0f7a4 x0 = some r) : Ci l yJ6_bitCount_0f7a4 wsJ6_bitCount_0f7a4 rmJ6_bitCount_0f7a4 D c3 (encC c3 ad) gC [.int x0] w sz r w := by
  refine Ci.of (cc := cJ6_bitCount_0f7a4) (maxL := 1) (encC_ok c3 ad) (by decide) rfl (Nat.le_of_ble_eq_true rfl) ?_
  intro p e s m below meth c A Q ls X hret hP hS hl
  exact bJ6_bitCount_0f7a4_E X hret x0 _ _ ls hP hS hl h
theorem iwX2_openTopics_X2 : ∀ w ∈ wsX20, w ∈ wsX2_openTopics := fun _ h => List.mem_cons_of_mem _ (List.mem_append_right _ h)
theorem lkX2_openTopics_37 : Cond.fieldLink RX2 37 "StuckDoor$Family" "settled" "I" ∈ wsX2_openTopics := by decide +kernel
def rmX2_openTopics_23 : Room := { frames := 1, cells := 0, slots := 0, locals := 20 }
def fX2_openTopics_23_E (w : Mm) : Option (Int32) := bo (fJ6_bitCount_0f7a4 (w.1 23 8)) (fun r_2 => some (3 - r_2))
set_option maxRecDepth 20000 in
theorem bX2_openTopics_23_E {p : Program} {l : Launch} {e : Env} {s : State} {m : MethodId} {args : Array Value} {below : List Frame} {meth : Method} {c : Code} {Q : State → Prop} {D : va_G} {c3 : C3} {ad : Nat → Nat} {A : Nat → Prop} {r : Int32} {w : Mm} (X : Cx p s m args c cX2_openTopics 1 RX2 wsX2_openTopics D c3 (encC c3 ad) gC A) (hret : Ri p l e (rmX2_openTopics_23) s m args below meth c Q cX2_openTopics D (encC c3 ad) A r w) : ∀ (H : Heap) (locs : List Loc) (ls : Array Slot), va_P D vwCl ((encC c3 ad) w) H → va_S A s.heap H locs → lv_has ls 1 [(0, .ref (ad 23))] → fX2_openTopics_23_E w = some r → W p l e (rmX2_openTopics_23) s m args below meth c H locs 0 0 Q (F0 m 0 ls []) := by
  have hx := X.1
  have hb := X.2.1
  have hml := X.2.2.1
  have hown := X.2.2.2.1
  have hts := X.2.2.2.2.1
  intro H locs ls hP hS hl h
  unfold fX2_openTopics_23_E at h
  refine lv_iconst (v := 3) hx hb dX2_openTopics_0 (by decide) ?_
  refine lv_aload_n hx hb dX2_openTopics_1 rfl (lv_at hl 0 rfl) ?_
  refine x_get (rest := [.int 3]) X hP (gC23 c3 ad w) rfl iwX2_openTopics_X2 8 (by decide) lkX2_openTopics_37 rfl dX2_openTopics_2 ?_
  obtain ⟨r_2, e_1, h⟩ := bo_s h
  refine x_goi X hS (x_runS (As := [.int (w.1 23 8)]) (rest := [.int 3]) X gC_ok hP hS (ctJ6_bitCount_0f7a4 l D c3 ad w _ (w.1 23 8) _ e_1) (va_cwS 1 hts gX2_openTopics_J6_bitCount_0f7a4 rfl rfl rfl (by decide +kernel) ⟨by decide, by decide⟩) rfl hl.1 rfl (Nat.le_of_ble_eq_true rfl) dX2_openTopics_5) (fun H locs hP hS => ?_)
  refine lv_isub hx hb dX2_openTopics_8 ?_
  obtain rfl := Option.some.inj h
  exact hret _ _ _ _ hP hS dX2_openTopics_9
def fX2_openTopics_23 (w : Mm) : Option (Int32) := fX2_openTopics_23_E w
theorem ctX2_openTopics_23 (l : Launch) (D : va_G) (c3 : C3) (ad : Nat → Nat) (w : Mm) (sz : Nat) (r : Int32) (h : fX2_openTopics_23 w = some r) : Ci l yX2_openTopics wsX2_openTopics rmX2_openTopics_23 D c3 (encC c3 ad) gC [.ref (ad 23)] w sz r w := by
  refine Ci.of (cc := cX2_openTopics) (maxL := 1) (encC_ok c3 ad) (by decide) rfl (Nat.le_of_ble_eq_true rfl) ?_
  intro p e s m below meth c A Q ls X hret hP hS hl
  exact bX2_openTopics_23_E X hret _ _ ls hP hS hl h
def rmX2_nearOf : Room := { frames := 1, cells := 0, slots := 0, locals := 21 }
def fX2_nearOf_E (x0 : Int32) (x1 : Int32) (x2 : Int32) (x3 : Int32) : Option (Int32) := (if x0 = 1 then some (x1 + x2) else (if x0 = 2 then some (x1 / 2) else (if x0 = 3 then some (if 0 < ((x1 + x2) - 2) then ((x1 + x2) - 2) else 0) else (if x0 = 4 then some ((x1 / 2) + x3) else (if x0 = 5 then some (2 * (x1 + x2)) else some x1)))))
set_option maxRecDepth 20000 in
theorem bX2_nearOf_E {p : Program} {l : Launch} {e : Env} {s : State} {m : MethodId} {args : Array Value} {below : List Frame} {meth : Method} {c : Code} {Q : State → Prop} {D : va_G} {c3 : C3} {ad : Nat → Nat} {A : Nat → Prop} {r : Int32} {w : Mm} (X : Cx p s m args c cX2_nearOf 4 RX2 wsX2_nearOf D c3 (encC c3 ad) gC A) (hret : Ri p l e (rmX2_nearOf) s m args below meth c Q cX2_nearOf D (encC c3 ad) A r w) : ∀ (x0 : Int32) (x1 : Int32) (x2 : Int32) (x3 : Int32) (H : Heap) (locs : List Loc) (ls : Array Slot), va_P D vwCl ((encC c3 ad) w) H → va_S A s.heap H locs → lv_has ls 4 [(0, .int x0), (1, .int x1), (2, .int x2), (3, .int x3)] → fX2_nearOf_E x0 x1 x2 x3 = some r → W p l e (rmX2_nearOf) s m args below meth c H locs 0 0 Q (F0 m 0 ls []) := by
  have hx := X.1
  have hb := X.2.1
  have hml := X.2.2.1
  have hown := X.2.2.2.1
  have hts := X.2.2.2.2.1
  intro x0 x1 x2 x3 H locs ls hP hS hl h
  unfold fX2_nearOf_E at h
  refine lv_iload_n hx hb dX2_nearOf_0 rfl (lv_at hl 0 rfl) ?_
  by_cases c_1 : x0 = 1
  · replace h := it_p c_1 h
    refine lv_tableIn (off := 35) (tgt := 36) hx hb dX2_nearOf_1 (by rw [c_1]; decide) (by rw [c_1]; decide) (by rw [c_1]; decide) (by decide) ?_
    refine lv_iload_n hx hb dX2_nearOf_36 rfl (lv_at hl 1 rfl) ?_
    refine lv_iload_n hx hb dX2_nearOf_37 rfl (lv_at hl 2 rfl) ?_
    refine lv_iadd hx hb dX2_nearOf_38 ?_
    obtain rfl := Option.some.inj h
    exact hret _ _ _ _ hP hS dX2_nearOf_39
  replace h := it_n c_1 h
  by_cases c_2 : x0 = 2
  · replace h := it_p c_2 h
    refine lv_tableIn (off := 39) (tgt := 40) hx hb dX2_nearOf_1 (by rw [c_2]; decide) (by rw [c_2]; decide) (by rw [c_2]; decide) (by decide) ?_
    refine lv_iload_n hx hb dX2_nearOf_40 rfl (lv_at hl 1 rfl) ?_
    refine lv_iconst (v := 2) hx hb dX2_nearOf_41 (by decide) ?_
    refine lv_idiv hx hb dX2_nearOf_42 (by decide) ?_
    obtain rfl := Option.some.inj h
    exact hret _ _ _ _ hP hS dX2_nearOf_43
  replace h := it_n c_2 h
  by_cases c_3 : x0 = 3
  · replace h := it_p c_3 h
    refine lv_tableIn (off := 43) (tgt := 44) hx hb dX2_nearOf_1 (by rw [c_3]; decide) (by rw [c_3]; decide) (by rw [c_3]; decide) (by decide) ?_
    refine lv_iconst (v := 0) hx hb dX2_nearOf_44 (by decide) ?_
    refine lv_iload_n hx hb dX2_nearOf_45 rfl (lv_at hl 1 rfl) ?_
    refine lv_iload_n hx hb dX2_nearOf_46 rfl (lv_at hl 2 rfl) ?_
    refine lv_iadd hx hb dX2_nearOf_47 ?_
    refine lv_iconst (v := 2) hx hb dX2_nearOf_48 (by decide) ?_
    refine lv_isub hx hb dX2_nearOf_49 ?_
    refine va_mmax hx hb (by rw [hml]; exact hl.1.symm) hown (hts (.methodLink RX2 80 Lib.Math.max.name) (by decide +kernel)) (hts (.static Lib.Math.max.name) (by decide +kernel)) (hts (.initialized "java/lang/Math") (by decide +kernel)) (hts (.code Lib.Math.max.name Lib.Math.max.code 2 (some .int)) (by decide +kernel)) (Nat.le_of_ble_eq_true rfl) (Nat.le_of_ble_eq_true rfl) (Nat.zero_le _) (Nat.zero_le _) dX2_nearOf_50 ?_
    obtain rfl := Option.some.inj h
    exact hret _ _ _ _ hP hS dX2_nearOf_53
  replace h := it_n c_3 h
  by_cases c_4 : x0 = 4
  · replace h := it_p c_4 h
    refine lv_tableIn (off := 53) (tgt := 54) hx hb dX2_nearOf_1 (by rw [c_4]; decide) (by rw [c_4]; decide) (by rw [c_4]; decide) (by decide) ?_
    refine lv_iload_n hx hb dX2_nearOf_54 rfl (lv_at hl 1 rfl) ?_
    refine lv_iconst (v := 2) hx hb dX2_nearOf_55 (by decide) ?_
    refine lv_idiv hx hb dX2_nearOf_56 (by decide) ?_
    refine lv_iload_n hx hb dX2_nearOf_57 rfl (lv_at hl 3 rfl) ?_
    refine lv_iadd hx hb dX2_nearOf_58 ?_
    obtain rfl := Option.some.inj h
    exact hret _ _ _ _ hP hS dX2_nearOf_59
  replace h := it_n c_4 h
  by_cases c_5 : x0 = 5
  · replace h := it_p c_5 h
    refine lv_tableIn (off := 59) (tgt := 60) hx hb dX2_nearOf_1 (by rw [c_5]; decide) (by rw [c_5]; decide) (by rw [c_5]; decide) (by decide) ?_
    refine lv_iconst (v := 2) hx hb dX2_nearOf_60 (by decide) ?_
    refine lv_iload_n hx hb dX2_nearOf_61 rfl (lv_at hl 1 rfl) ?_
    refine lv_iload_n hx hb dX2_nearOf_62 rfl (lv_at hl 2 rfl) ?_
    refine lv_iadd hx hb dX2_nearOf_63 ?_
    refine lv_imul hx hb dX2_nearOf_64 ?_
    obtain rfl := Option.some.inj h
    exact hret _ _ _ _ hP hS dX2_nearOf_65
  replace h := it_n c_5 h
  refine lv_tableOut (tgt := 66) hx hb dX2_nearOf_1 (by have := lv_neT c_1 (a := 1) rfl; have := lv_neT c_2 (a := 2) rfl; have := lv_neT c_3 (a := 3) rfl; have := lv_neT c_4 (a := 4) rfl; have := lv_neT c_5 (a := 5) rfl; omega) (by decide) ?_
  refine lv_iload_n hx hb dX2_nearOf_66 rfl (lv_at hl 1 rfl) ?_
  obtain rfl := Option.some.inj h
  exact hret _ _ _ _ hP hS dX2_nearOf_67
def fX2_nearOf (x0 : Int32) (x1 : Int32) (x2 : Int32) (x3 : Int32) : Option (Int32) := fX2_nearOf_E x0 x1 x2 x3
theorem ctX2_nearOf (l : Launch) (D : va_G) (c3 : C3) (ad : Nat → Nat) (w : Mm) (sz : Nat) (x0 : Int32) (x1 : Int32) (x2 : Int32) (x3 : Int32) (r : Int32) (h : fX2_nearOf x0 x1 x2 x3 = some r) : Ci l yX2_nearOf wsX2_nearOf rmX2_nearOf D c3 (encC c3 ad) gC [.int x0, .int x1, .int x2, .int x3] w sz r w := by
  refine Ci.of (cc := cX2_nearOf) (maxL := 4) (encC_ok c3 ad) (by decide) rfl (Nat.le_of_ble_eq_true rfl) ?_
  intro p e s m below meth c A Q ls X hret hP hS hl
  exact bX2_nearOf_E X hret x0 x1 x2 x3 _ _ ls hP hS hl h
theorem iwX2_nearNow_X2 : ∀ w ∈ wsX20, w ∈ wsX2_nearNow := fun _ h => List.mem_cons_of_mem _ (List.mem_append_right _ h)
theorem lkX2_nearNow_22 : Cond.fieldLink RX2 22 "StuckDoor$Family" "kind" "[I" ∈ wsX2_nearNow := by decide +kernel
theorem lkX2_nearNow_25 : Cond.fieldLink RX2 25 "StuckDoor$Family" "told" "[I" ∈ wsX2_nearNow := by decide +kernel
theorem lkX2_nearNow_43 : Cond.fieldLink RX2 43 "StuckDoor$Family" "said" "[I" ∈ wsX2_nearNow := by decide +kernel
def rmX2_nearNow_23 : Room := { frames := 2, cells := 0, slots := 0, locals := 44 }
def fX2_nearNow_23_E (x1 : Int32) (w : Mm) : Option (Int32) := gd (inb x1 6 = true) (bo (fX2_openTopics_23 w) (fun r_3 => bo (fX2_nearOf (w.1 25 x1.toNatClampNeg) (w.1 26 x1.toNatClampNeg) (w.1 28 x1.toNatClampNeg) r_3) (fun r_6 => some r_6)))
set_option maxRecDepth 20000 in
theorem bX2_nearNow_23_E {p : Program} {l : Launch} {e : Env} {s : State} {m : MethodId} {args : Array Value} {below : List Frame} {meth : Method} {c : Code} {Q : State → Prop} {D : va_G} {c3 : C3} {ad : Nat → Nat} {A : Nat → Prop} {r : Int32} {w : Mm} (X : Cx p s m args c cX2_nearNow 2 RX2 wsX2_nearNow D c3 (encC c3 ad) gC A) (hret : Ri p l e (rmX2_nearNow_23) s m args below meth c Q cX2_nearNow D (encC c3 ad) A r w) : ∀ (x1 : Int32) (H : Heap) (locs : List Loc) (ls : Array Slot), va_P D vwCl ((encC c3 ad) w) H → va_S A s.heap H locs → lv_has ls 2 [(0, .ref (ad 23)), (1, .int x1)] → fX2_nearNow_23_E x1 w = some r → W p l e (rmX2_nearNow_23) s m args below meth c H locs 0 0 Q (F0 m 0 ls []) := by
  have hx := X.1
  have hb := X.2.1
  have hml := X.2.2.1
  have hown := X.2.2.2.1
  have hts := X.2.2.2.2.1
  intro x1 H locs ls hP hS hl h
  unfold fX2_nearNow_23_E at h
  refine lv_aload_n hx hb dX2_nearNow_0 rfl (lv_at hl 0 rfl) ?_
  refine x_get (rest := []) X hP (gC23 c3 ad w) rfl iwX2_nearNow_X2 3 (by decide) lkX2_nearNow_22 rfl dX2_nearNow_1 ?_
  refine lv_iload_n hx hb dX2_nearNow_4 rfl (lv_at hl 1 rfl) ?_
  obtain ⟨g_1, h⟩ := gd_s h
  refine x_iald X hP (gC25 c3 ad w) g_1 dX2_nearNow_5 ?_
  refine lv_aload_n hx hb dX2_nearNow_6 rfl (lv_at hl 0 rfl) ?_
  refine x_get (rest := [.int (w.1 25 x1.toNatClampNeg)]) X hP (gC23 c3 ad w) rfl iwX2_nearNow_X2 4 (by decide) lkX2_nearNow_25 rfl dX2_nearNow_7 ?_
  refine lv_iload_n hx hb dX2_nearNow_10 rfl (lv_at hl 1 rfl) ?_
  refine x_iald X hP (gC26 c3 ad w) g_1 dX2_nearNow_11 ?_
  refine lv_aload_n hx hb dX2_nearNow_12 rfl (lv_at hl 0 rfl) ?_
  refine x_get (rest := [.int (w.1 26 x1.toNatClampNeg), .int (w.1 25 x1.toNatClampNeg)]) X hP (gC23 c3 ad w) rfl iwX2_nearNow_X2 10 (by decide) lkX2_nearNow_43 rfl dX2_nearNow_13 ?_
  refine lv_iload_n hx hb dX2_nearNow_16 rfl (lv_at hl 1 rfl) ?_
  refine x_iald X hP (gC28 c3 ad w) g_1 dX2_nearNow_17 ?_
  refine lv_aload_n hx hb dX2_nearNow_18 rfl (lv_at hl 0 rfl) ?_
  obtain ⟨r_3, e_2, h⟩ := bo_s h
  refine x_goi X hS (x_runV (As := []) (rest := [.int (w.1 28 x1.toNatClampNeg), .int (w.1 26 x1.toNatClampNeg), .int (w.1 25 x1.toNatClampNeg)]) X gC_ok hP hS (ctX2_openTopics_23 l D c3 ad w _ _ e_2) (cwV 0 hts gX2_nearNow_X2_openTopics rfl rfl rfl (by decide +kernel) ⟨by decide, by decide⟩) (gC23 c3 ad w) rfl rfl rfl hl.1 rfl (Nat.le_of_ble_eq_true rfl) dX2_nearNow_19) (fun H locs hP hS => ?_)
  obtain ⟨r_6, e_5, h⟩ := bo_s h
  refine x_goi X hS (x_runS (As := [.int (w.1 25 x1.toNatClampNeg), .int (w.1 26 x1.toNatClampNeg), .int (w.1 28 x1.toNatClampNeg), .int r_3]) (rest := []) X gC_ok hP hS (ctX2_nearOf l D c3 ad w _ (w.1 25 x1.toNatClampNeg) (w.1 26 x1.toNatClampNeg) (w.1 28 x1.toNatClampNeg) r_3 _ e_5) (va_cwS 4 hts gX2_nearNow_X2_nearOf rfl rfl rfl (by decide +kernel) ⟨by decide, by decide⟩) rfl hl.1 rfl (Nat.le_of_ble_eq_true rfl) dX2_nearNow_22) (fun H locs hP hS => ?_)
  obtain rfl := Option.some.inj h
  exact hret _ _ _ _ hP hS dX2_nearNow_25
def fX2_nearNow_23 (x1 : Int32) (w : Mm) : Option (Int32) := fX2_nearNow_23_E x1 w
theorem ctX2_nearNow_23 (l : Launch) (D : va_G) (c3 : C3) (ad : Nat → Nat) (w : Mm) (sz : Nat) (x1 : Int32) (r : Int32) (h : fX2_nearNow_23 x1 w = some r) : Ci l yX2_nearNow wsX2_nearNow rmX2_nearNow_23 D c3 (encC c3 ad) gC [.ref (ad 23), .int x1] w sz r w := by
  refine Ci.of (cc := cX2_nearNow) (maxL := 2) (encC_ok c3 ad) (by decide) rfl (Nat.le_of_ble_eq_true rfl) ?_
  intro p e s m below meth c A Q ls X hret hP hS hl
  exact bX2_nearNow_23_E X hret x1 _ _ ls hP hS hl h

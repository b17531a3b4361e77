theorem iwX8_on_X8 : ∀ w ∈ wsX80, w ∈ wsX8_on := fun _ h => List.mem_cons_of_mem _ (List.mem_append_right _ h)
theorem lkX8_on_7 : Cond.fieldLink RX8 7 "StuckDoorModel" "row" "[I" ∈ wsX8_on := by decide +kernel
def rmX8_on : Room := { frames := 1, cells := 0, slots := 0, locals := 25 }
def fX8_on_E (x1 : Int32) (w : Mm) : Option (Int32 × Mm) := bo (fX8_in x1.toInt64 0 2) (fun r_2 => (if r_2 = 0 then some ((-1), w) else gd (inb ((411 * (1 + x1)) + 0) 1655 = true) ((if 0 ≤ (w.1 1 ((411 * (1 + x1)) + 0).toNatClampNeg) then bo (fX8_copyFamily (411 * (1 + x1)) 0 w) (fun w_9 => some ((w_9.1 1 0), w_9)) else bd (fX8_find 1 w) (fun r_11 w_12 => some (r_11, w_12))))))
set_option maxRecDepth 20000 in
theorem bX8_on_E {p : Program} {l : Launch} {e : Env} {s : State} {m : MethodId} {args : Array Value} {below : List Frame} {meth : Method} {c : Code} {Q : State → Prop} {D : va_G} {c3 : C3} {ad : Nat → Nat} {A : Nat → Prop} {r : Int32} {w' : Mm} (X : Cx p s m args c cX8_on 2 RX8 wsX8_on D c3 (encM c3 ad) gM A) (hret : Ri p l e (rmX8_on) s m args below meth c Q cX8_on D (encM c3 ad) A r w') : ∀ (x1 : Int32) (w : Mm) (H : Heap) (locs : List Loc) (ls : Array Slot), va_P D vwCl ((encM c3 ad) w) H → va_S A s.heap H locs → lv_has ls 2 [(0, .ref (ad 0)), (1, .int x1)] → fX8_on_E x1 w = some (r, w') → W p l e (rmX8_on) s m args below meth c H locs 0 0 Q (F0 m 0 ls []) := by
  have hx := X.1
  have hb := X.2.1
  have hml := X.2.2.1
  have hown := X.2.2.2.1
  have hts := X.2.2.2.2.1
  intro x1 w H locs ls hP hS hl h
  unfold fX8_on_E at h
  refine lv_iload_n hx hb dX8_on_0 rfl (lv_at hl 1 rfl) ?_
  refine lv_i2l (v := x1.toInt64) hx hb dX8_on_1 rfl ?_
  refine lv_lconst (v := 0) hx hb dX8_on_2 (by decide) ?_
  refine lv_ldc2 (v := 2) hx hb hown (hts (.constantLong RX8 220 (2)) (by decide +kernel)) dX8_on_3 ?_
  obtain ⟨r_2, e_1, h⟩ := bo_s h
  refine x_goi X hS (x_runS (As := [.long x1.toInt64, .long 0, .long 2]) (rest := []) X gM_ok hP hS (ctX8_in l D c3 ad w _ x1.toInt64 0 2 _ e_1) (va_cwS 3 hts gX8_on_X8_in rfl rfl rfl (by decide +kernel) ⟨by decide, by decide⟩) rfl hl.1 rfl (Nat.le_of_ble_eq_true rfl) dX8_on_6) (fun H locs hP hS => ?_)
  refine lv_if_ne (tgt := 14) hx hb dX8_on_9 (by decide) (fun c_4 => ?_) (fun c_4 => ?_)
  · replace h := it_n c_4 h
    refine lv_aload_n hx hb dX8_on_14 rfl (lv_at hl 0 rfl) ?_
    refine x_get (rest := []) X hP (gM0 c3 ad w) rfl iwX8_on_X8 0 (by decide) lkX8_on_7 rfl dX8_on_15 ?_
    refine lv_sipush (v := 411) hx hb dX8_on_18 (by decide) ?_
    refine lv_iconst (v := 1) hx hb dX8_on_21 (by decide) ?_
    refine lv_iload_n hx hb dX8_on_22 rfl (lv_at hl 1 rfl) ?_
    refine lv_iadd hx hb dX8_on_23 ?_
    refine lv_imul hx hb dX8_on_24 ?_
    refine lv_iconst (v := 0) hx hb dX8_on_25 (by decide) ?_
    refine lv_iadd hx hb dX8_on_26 ?_
    obtain ⟨g_5, h⟩ := gd_s h
    refine x_iald X hP (gM1 c3 ad w) g_5 dX8_on_27 ?_
    refine lv_if_ge (tgt := 37) hx hb dX8_on_28 (by decide) (fun c_6 => ?_) (fun c_6 => ?_)
    · replace h := it_p c_6 h
      refine lv_aload_n hx hb dX8_on_37 rfl (lv_at hl 0 rfl) ?_
      refine lv_sipush (v := 411) hx hb dX8_on_38 (by decide) ?_
      refine lv_iconst (v := 1) hx hb dX8_on_41 (by decide) ?_
      refine lv_iload_n hx hb dX8_on_42 rfl (lv_at hl 1 rfl) ?_
      refine lv_iadd hx hb dX8_on_43 ?_
      refine lv_imul hx hb dX8_on_44 ?_
      refine lv_iconst (v := 0) hx hb dX8_on_45 (by decide) ?_
      obtain ⟨w_9, e_7, h⟩ := bo_s h
      refine x_gov X hS (x_runV (As := [.int (411 * (1 + x1)), .int 0]) (rest := []) X gM_ok hP hS (ctX8_copyFamily l D c3 ad w _ (411 * (1 + x1)) 0 _ e_7) (cwV 2 hts gX8_on_X8_copyFamily rfl rfl rfl (by decide +kernel) ⟨by decide, by decide⟩) (gM0 c3 ad w) rfl rfl rfl hl.1 rfl (Nat.le_of_ble_eq_true rfl) dX8_on_46) (fun H locs hP hS => ?_)
      refine lv_aload_n hx hb dX8_on_49 rfl (lv_at hl 0 rfl) ?_
      refine x_get (rest := []) X hP (gM0 c3 ad w_9) rfl iwX8_on_X8 0 (by decide) lkX8_on_7 rfl dX8_on_50 ?_
      refine lv_iconst (v := 0) hx hb dX8_on_53 (by decide) ?_
      refine x_ialdL (j := 0) X hP (gM1 c3 ad w_9) (by decide) rfl dX8_on_54 ?_
      obtain ⟨rfl, rfl⟩ := Prod.mk.inj (Option.some.inj h)
      exact hret _ _ _ _ hP hS dX8_on_55
    · replace h := it_n c_6 h
      refine lv_aload_n hx hb dX8_on_31 rfl (lv_at hl 0 rfl) ?_
      refine lv_iconst (v := 1) hx hb dX8_on_32 (by decide) ?_
      obtain ⟨r_11, w_12, e_10, h⟩ := bd_s h
      refine x_goi X hS (x_runV (As := [.int 1]) (rest := []) X gM_ok hP hS (ctX8_find l D c3 ad w _ 1 _ _ e_10) (cwV 1 hts gX8_on_X8_find rfl rfl rfl (by decide +kernel) ⟨by decide, by decide⟩) (gM0 c3 ad w) rfl rfl rfl hl.1 rfl (Nat.le_of_ble_eq_true rfl) dX8_on_33) (fun H locs hP hS => ?_)
      obtain ⟨rfl, rfl⟩ := Prod.mk.inj (Option.some.inj h)
      exact hret _ _ _ _ hP hS dX8_on_36
  · replace h := it_p c_4 h
    refine lv_iconst (v := (-1)) hx hb dX8_on_12 (by decide) ?_
    obtain ⟨rfl, rfl⟩ := Prod.mk.inj (Option.some.inj h)
    exact hret _ _ _ _ hP hS dX8_on_13
def fX8_on (x1 : Int32) (w : Mm) : Option (Int32 × Mm) := fX8_on_E x1 w
theorem ctX8_on (l : Launch) (D : va_G) (c3 : C3) (ad : Nat → Nat) (w : Mm) (sz : Nat) (x1 : Int32) (r : Int32) (w' : Mm) (h : fX8_on x1 w = some (r, w')) : Ci l yX8_on wsX8_on rmX8_on D c3 (encM c3 ad) gM [.ref (ad 0), .int x1] w sz r w' := by
  refine Ci.of (cc := cX8_on) (maxL := 2) (encM_ok c3 ad) (by decide) rfl (Nat.le_of_ble_eq_true rfl) ?_
  intro p e s m below meth c A Q ls X hret hP hS hl
  exact bX8_on_E X hret x1 w _ _ ls hP hS hl h
theorem iwX8_can_X8 : ∀ w ∈ wsX80, w ∈ wsX8_can := fun _ h => List.mem_cons_of_mem _ (List.mem_append_right _ h)
theorem lkX8_can_167 : Cond.fieldLink RX8 167 "StuckDoorModel" "sayings" "I" ∈ wsX8_can := by decide +kernel
def rmX8_can : Room := { frames := 4, cells := 0, slots := 0, locals := 86 }
def fX8_can_46 (k14 : Int32 → Int32 → Option (Int32)) (x1 : Int32) (x3 : Int32) (z0 : Int32) (z1 : Int32) (w : Mm) : Option (Int32) := nm (z1 ||| z0) (fun x2_1 => k14 x2_1 (x3 + 1))
set_option maxRecDepth 20000 in
theorem bX8_can_46 {p : Program} {l : Launch} {e : Env} {s : State} {m : MethodId} {args : Array Value} {below : List Frame} {meth : Method} {c : Code} {Q : State → Prop} {D : va_G} {c3 : C3} {ad : Nat → Nat} {A : Nat → Prop} {r : Int32} {w : Mm} (X : Cx p s m args c cX8_can 4 RX8 wsX8_can D c3 (encM c3 ad) gM A) (hret : Ri p l e (rmX8_can) s m args below meth c Q cX8_can D (encM c3 ad) A r w) {x1 : Int32} {k14 : Int32 → Int32 → Option (Int32)} (hk14 : ∀ (x2 : Int32) (x3 : Int32) (H : Heap) (locs : List Loc) (ls : Array Slot), va_P D vwCl ((encM c3 ad) w) H → va_S A s.heap H locs → lv_has ls 4 [(0, .ref (ad 0)), (1, .int x1), (2, .int x2), (3, .int x3)] → k14 x2 x3 = some r → W p l e (rmX8_can) s m args below meth c H locs 0 0 Q (F0 m 14 ls [])) : ∀ (x3 : Int32) (z0 : Int32) (z1 : Int32) (H : Heap) (locs : List Loc) (ls : Array Slot), va_P D vwCl ((encM c3 ad) w) H → va_S A s.heap H locs → lv_has ls 4 [(0, .ref (ad 0)), (1, .int x1), (3, .int x3)] → fX8_can_46 k14 x1 x3 z0 z1 w = some r → W p l e (rmX8_can) s m args below meth c H locs 0 0 Q (F0 m 46 ls [.int z0, .int z1]) := by
  have hx := X.1
  have hb := X.2.1
  have hml := X.2.2.1
  have hown := X.2.2.2.1
  have hts := X.2.2.2.2.1
  intro x3 z0 z1 H locs ls hP hS hl h
  unfold fX8_can_46 at h
  refine lv_ior hx hb dX8_can_46 ?_
  refine x_nmi h (fun x2_1 h => ?_)
  refine lv_istore_n (lv' := [(2, .int x2_1), (0, .ref (ad 0)), (1, .int x1), (3, .int x3)]) hx hb dX8_can_47 rfl hl (by decide) rfl (fun ls hl => ?_)
  refine lv_iinc (v := (x3 + 1)) (lv' := [(3, .int (x3 + 1)), (2, .int x2_1), (0, .ref (ad 0)), (1, .int x1)]) hx hb dX8_can_48 hl (k := 3) rfl rfl (by decide) rfl (fun ls hl => ?_)
  refine lv_goto (tgt := 14) hx hb dX8_can_51 (by decide) ?_
  exact hk14 x2_1 (x3 + 1) _ _ _ hP hS (lv_sub hl [2, 3, 1, 0] rfl) h
def fX8_can_45 (k14 : Int32 → Int32 → Option (Int32)) (x1 : Int32) (x3 : Int32) (z0 : Int32) (w : Mm) : Option (Int32) := fX8_can_46 k14 x1 x3 0 z0 w
set_option maxRecDepth 20000 in
theorem bX8_can_45 {p : Program} {l : Launch} {e : Env} {s : State} {m : MethodId} {args : Array Value} {below : List Frame} {meth : Method} {c : Code} {Q : State → Prop} {D : va_G} {c3 : C3} {ad : Nat → Nat} {A : Nat → Prop} {r : Int32} {w : Mm} (X : Cx p s m args c cX8_can 4 RX8 wsX8_can D c3 (encM c3 ad) gM A) (hret : Ri p l e (rmX8_can) s m args below meth c Q cX8_can D (encM c3 ad) A r w) {x1 : Int32} {k14 : Int32 → Int32 → Option (Int32)} (hk14 : ∀ (x2 : Int32) (x3 : Int32) (H : Heap) (locs : List Loc) (ls : Array Slot), va_P D vwCl ((encM c3 ad) w) H → va_S A s.heap H locs → lv_has ls 4 [(0, .ref (ad 0)), (1, .int x1), (2, .int x2), (3, .int x3)] → k14 x2 x3 = some r → W p l e (rmX8_can) s m args below meth c H locs 0 0 Q (F0 m 14 ls [])) : ∀ (x3 : Int32) (z0 : Int32) (H : Heap) (locs : List Loc) (ls : Array Slot), va_P D vwCl ((encM c3 ad) w) H → va_S A s.heap H locs → lv_has ls 4 [(0, .ref (ad 0)), (1, .int x1), (3, .int x3)] → fX8_can_45 k14 x1 x3 z0 w = some r → W p l e (rmX8_can) s m args below meth c H locs 0 0 Q (F0 m 45 ls [.int z0]) := by
  have hx := X.1
  have hb := X.2.1
  have hml := X.2.2.1
  have hown := X.2.2.2.1
  have hts := X.2.2.2.2.1
  intro x3 z0 H locs ls hP hS hl h
  unfold fX8_can_45 at h
  refine lv_iconst (v := 0) hx hb dX8_can_45 (by decide) ?_
  exact bX8_can_46 (x1 := x1) (k14 := k14) X hret hk14 x3 0 z0 _ _ _ hP hS (lv_sub hl [0, 1, 2] rfl) h
def fX8_can_14 (x1 : Int32) (w : Mm) : Nat → Int32 → Int32 → Option (Int32)
  | 0, _, _ => none
  | n + 1, x2, x3 => (if (w.1 0 3) ≤ x3 then some x2 else bo (fX8_isOver w) (fun r_4 => (if r_4 = 0 then bo (fX8_bearsIt x1 x3 w) (fun r_8 => (if r_8 = 0 then fX8_can_45 (fX8_can_14 x1 w n) x1 x3 x2 w else fX8_can_46 (fX8_can_14 x1 w n) x1 x3 (1 <<< (x3 &&& 31)) x2 w)) else fX8_can_45 (fX8_can_14 x1 w n) x1 x3 x2 w)))
set_option maxRecDepth 20000 in
theorem bX8_can_14 {p : Program} {l : Launch} {e : Env} {s : State} {m : MethodId} {args : Array Value} {below : List Frame} {meth : Method} {c : Code} {Q : State → Prop} {D : va_G} {c3 : C3} {ad : Nat → Nat} {A : Nat → Prop} {r : Int32} {w : Mm} (X : Cx p s m args c cX8_can 4 RX8 wsX8_can D c3 (encM c3 ad) gM A) (hret : Ri p l e (rmX8_can) s m args below meth c Q cX8_can D (encM c3 ad) A r w) : ∀ (x1 : Int32) (n : Nat) (x2 : Int32) (x3 : Int32) (H : Heap) (locs : List Loc) (ls : Array Slot), va_P D vwCl ((encM c3 ad) w) H → va_S A s.heap H locs → lv_has ls 4 [(0, .ref (ad 0)), (1, .int x1), (2, .int x2), (3, .int x3)] → fX8_can_14 x1 w n x2 x3 = some r → W p l e (rmX8_can) s m args below meth c H locs 0 0 Q (F0 m 14 ls []) := by
  have hx := X.1
  have hb := X.2.1
  have hml := X.2.2.1
  have hown := X.2.2.2.1
  have hts := X.2.2.2.2.1
  intro x1 n
  induction n with
  | zero =>
    intro x2 x3 H locs ls hP hS hl h
    exact absurd h (by simp [fX8_can_14])
  | succ n ih =>
    intro x2 x3 H locs ls hP hS hl h
    rw [fX8_can_14] at h
    refine lv_iload_n hx hb dX8_can_14 rfl (lv_at hl 3 rfl) ?_
    refine lv_aload_n hx hb dX8_can_15 rfl (lv_at hl 0 rfl) ?_
    refine x_get (rest := [.int x3]) X hP (gM0 c3 ad w) rfl iwX8_can_X8 3 (by decide) lkX8_can_167 rfl dX8_can_16 ?_
    refine lv_icmp_ge (tgt := 54) hx hb dX8_can_19 (by decide) (fun c_2 => ?_) (fun c_2 => ?_)
    · replace h := it_p c_2 h
      refine lv_iload_n hx hb dX8_can_54 rfl (lv_at hl 2 rfl) ?_
      obtain rfl := Option.some.inj h
      exact hret _ _ _ _ hP hS dX8_can_55
    · replace h := it_n c_2 h
      refine lv_iload_n hx hb dX8_can_22 rfl (lv_at hl 2 rfl) ?_
      refine lv_aload_n hx hb dX8_can_23 rfl (lv_at hl 0 rfl) ?_
      obtain ⟨r_4, e_3, h⟩ := bo_s h
      refine x_goi X hS (x_runV (As := []) (rest := [.int x2]) X gM_ok hP hS (ctX8_isOver l D c3 ad w _ _ e_3) (cwV 0 hts gX8_can_X8_isOver rfl rfl rfl (by decide +kernel) ⟨by decide, by decide⟩) (gM0 c3 ad w) rfl rfl rfl hl.1 rfl (Nat.le_of_ble_eq_true rfl) dX8_can_24) (fun H locs hP hS => ?_)
      refine lv_if_ne (tgt := 45) hx hb dX8_can_27 (by decide) (fun c_6 => ?_) (fun c_6 => ?_)
      · replace h := it_n c_6 h
        exact bX8_can_45 (x1 := x1) (k14 := (fX8_can_14 x1 w n)) X hret ih x3 x2 _ _ _ hP hS (lv_sub hl [0, 1, 3] rfl) h
      · replace h := it_p c_6 h
        refine lv_aload_n hx hb dX8_can_30 rfl (lv_at hl 0 rfl) ?_
        refine lv_iload_n hx hb dX8_can_31 rfl (lv_at hl 1 rfl) ?_
        refine lv_iload_n hx hb dX8_can_32 rfl (lv_at hl 3 rfl) ?_
        obtain ⟨r_8, e_7, h⟩ := bo_s h
        refine x_goi X hS (x_runV (As := [.int x1, .int x3]) (rest := [.int x2]) X gM_ok hP hS (ctX8_bearsIt l D c3 ad w _ x1 x3 _ e_7) (cwV 2 hts gX8_can_X8_bearsIt rfl rfl rfl (by decide +kernel) ⟨by decide, by decide⟩) (gM0 c3 ad w) rfl rfl rfl hl.1 rfl (Nat.le_of_ble_eq_true rfl) dX8_can_33) (fun H locs hP hS => ?_)
        refine lv_if_eq (tgt := 45) hx hb dX8_can_36 (by decide) (fun c_10 => ?_) (fun c_10 => ?_)
        · replace h := it_p c_10 h
          exact bX8_can_45 (x1 := x1) (k14 := (fX8_can_14 x1 w n)) X hret ih x3 x2 _ _ _ hP hS (lv_sub hl [0, 1, 3] rfl) h
        · replace h := it_n c_10 h
          refine lv_iconst (v := 1) hx hb dX8_can_39 (by decide) ?_
          refine lv_iload_n hx hb dX8_can_40 rfl (lv_at hl 3 rfl) ?_
          refine lv_ishl hx hb dX8_can_41 ?_
          refine lv_goto (tgt := 46) hx hb dX8_can_42 (by decide) ?_
          exact bX8_can_46 (x1 := x1) (k14 := (fX8_can_14 x1 w n)) X hret ih x3 (1 <<< (x3 &&& 31)) x2 _ _ _ hP hS (lv_sub hl [0, 1, 3] rfl) h
def fX8_can_E (x1 : Int32) (w : Mm) : Option (Int32) := bo (fX8_isOne x1 w) (fun r_12 => (if r_12 = 0 then some (-1) else fX8_can_14 x1 w FU 0 0))
set_option maxRecDepth 20000 in
theorem bX8_can_E {p : Program} {l : Launch} {e : Env} {s : State} {m : MethodId} {args : Array Value} {below : List Frame} {meth : Method} {c : Code} {Q : State → Prop} {D : va_G} {c3 : C3} {ad : Nat → Nat} {A : Nat → Prop} {r : Int32} {w : Mm} (X : Cx p s m args c cX8_can 4 RX8 wsX8_can D c3 (encM c3 ad) gM A) (hret : Ri p l e (rmX8_can) s m args below meth c Q cX8_can D (encM c3 ad) A r w) : ∀ (x1 : Int32) (H : Heap) (locs : List Loc) (ls : Array Slot), va_P D vwCl ((encM c3 ad) w) H → va_S A s.heap H locs → lv_has ls 4 [(0, .ref (ad 0)), (1, .int x1)] → fX8_can_E x1 w = some r → W p l e (rmX8_can) s m args below meth c H locs 0 0 Q (F0 m 0 ls []) := by
  have hx := X.1
  have hb := X.2.1
  have hml := X.2.2.1
  have hown := X.2.2.2.1
  have hts := X.2.2.2.2.1
  intro x1 H locs ls hP hS hl h
  unfold fX8_can_E at h
  refine lv_aload_n hx hb dX8_can_0 rfl (lv_at hl 0 rfl) ?_
  refine lv_iload_n hx hb dX8_can_1 rfl (lv_at hl 1 rfl) ?_
  obtain ⟨r_12, e_11, h⟩ := bo_s h
  refine x_goi X hS (x_runV (As := [.int x1]) (rest := []) X gM_ok hP hS (ctX8_isOne l D c3 ad w _ x1 _ e_11) (cwV 1 hts gX8_can_X8_isOne rfl rfl rfl (by decide +kernel) ⟨by decide, by decide⟩) (gM0 c3 ad w) rfl rfl rfl hl.1 rfl (Nat.le_of_ble_eq_true rfl) dX8_can_2) (fun H locs hP hS => ?_)
  refine lv_if_ne (tgt := 10) hx hb dX8_can_5 (by decide) (fun c_14 => ?_) (fun c_14 => ?_)
  · replace h := it_n c_14 h
    refine lv_iconst (v := 0) hx hb dX8_can_10 (by decide) ?_
    refine lv_istore_n (lv' := [(2, .int 0), (0, .ref (ad 0)), (1, .int x1)]) hx hb dX8_can_11 rfl hl (by decide) rfl (fun ls hl => ?_)
    refine lv_iconst (v := 0) hx hb dX8_can_12 (by decide) ?_
    refine lv_istore_n (lv' := [(3, .int 0), (2, .int 0), (0, .ref (ad 0)), (1, .int x1)]) hx hb dX8_can_13 rfl hl (by decide) rfl (fun ls hl => ?_)
    exact bX8_can_14 X hret x1 FU 0 0 _ _ _ hP hS (lv_sub hl [2, 3, 1, 0] rfl) h
  · replace h := it_p c_14 h
    refine lv_iconst (v := (-1)) hx hb dX8_can_8 (by decide) ?_
    obtain rfl := Option.some.inj h
    exact hret _ _ _ _ hP hS dX8_can_9
def fX8_can (x1 : Int32) (w : Mm) : Option (Int32) := fX8_can_E x1 w
theorem ctX8_can (l : Launch) (D : va_G) (c3 : C3) (ad : Nat → Nat) (w : Mm) (sz : Nat) (x1 : Int32) (r : Int32) (h : fX8_can x1 w = some r) : Ci l yX8_can wsX8_can rmX8_can D c3 (encM c3 ad) gM [.ref (ad 0), .int x1] w sz r w := by
  refine Ci.of (cc := cX8_can) (maxL := 4) (encM_ok c3 ad) (by decide) rfl (Nat.le_of_ble_eq_true rfl) ?_
  intro p e s m below meth c A Q ls X hret hP hS hl
  exact bX8_can_E X hret x1 _ _ ls hP hS hl h
def rmX8_over : Room := { frames := 5, cells := 0, slots := 0, locals := 109 }
def fX8_over_E (x1 : Int32) (w : Mm) : Option (Int32) := bo (fX8_isSaying x1 w) (fun r_2 => (if r_2 = 0 then some (-1) else bo (fX8_overOf x1 w) (fun r_6 => some r_6)))
set_option maxRecDepth 20000 in
theorem bX8_over_E {p : Program} {l : Launch} {e : Env} {s : State} {m : MethodId} {args : Array Value} {below : List Frame} {meth : Method} {c : Code} {Q : State → Prop} {D : va_G} {c3 : C3} {ad : Nat → Nat} {A : Nat → Prop} {r : Int32} {w : Mm} (X : Cx p s m args c cX8_over 2 RX8 wsX8_over D c3 (encM c3 ad) gM A) (hret : Ri p l e (rmX8_over) s m args below meth c Q cX8_over D (encM c3 ad) A r w) : ∀ (x1 : Int32) (H : Heap) (locs : List Loc) (ls : Array Slot), va_P D vwCl ((encM c3 ad) w) H → va_S A s.heap H locs → lv_has ls 2 [(0, .ref (ad 0)), (1, .int x1)] → fX8_over_E x1 w = some r → W p l e (rmX8_over) s m args below meth c H locs 0 0 Q (F0 m 0 ls []) := by
  have hx := X.1
  have hb := X.2.1
  have hml := X.2.2.1
  have hown := X.2.2.2.1
  have hts := X.2.2.2.2.1
  intro x1 H locs ls hP hS hl h
  unfold fX8_over_E at h
  refine lv_aload_n hx hb dX8_over_0 rfl (lv_at hl 0 rfl) ?_
  refine lv_iload_n hx hb dX8_over_1 rfl (lv_at hl 1 rfl) ?_
  obtain ⟨r_2, e_1, h⟩ := bo_s h
  refine x_goi X hS (x_runV (As := [.int x1]) (rest := []) X gM_ok hP hS (ctX8_isSaying l D c3 ad w _ x1 _ e_1) (cwV 1 hts gX8_over_X8_isSaying rfl rfl rfl (by decide +kernel) ⟨by decide, by decide⟩) (gM0 c3 ad w) rfl rfl rfl hl.1 rfl (Nat.le_of_ble_eq_true rfl) dX8_over_2) (fun H locs hP hS => ?_)
  refine lv_if_eq (tgt := 16) hx hb dX8_over_5 (by decide) (fun c_4 => ?_) (fun c_4 => ?_)
  · replace h := it_p c_4 h
    refine lv_iconst (v := (-1)) hx hb dX8_over_16 (by decide) ?_
    obtain rfl := Option.some.inj h
    exact hret _ _ _ _ hP hS dX8_over_17
  · replace h := it_n c_4 h
    refine lv_aload_n hx hb dX8_over_8 rfl (lv_at hl 0 rfl) ?_
    refine lv_iload_n hx hb dX8_over_9 rfl (lv_at hl 1 rfl) ?_
    obtain ⟨r_6, e_5, h⟩ := bo_s h
    refine x_goi X hS (x_runV (As := [.int x1]) (rest := []) X gM_ok hP hS (ctX8_overOf l D c3 ad w _ x1 _ e_5) (cwV 1 hts gX8_over_X8_overOf rfl rfl rfl (by decide +kernel) ⟨by decide, by decide⟩) (gM0 c3 ad w) rfl rfl rfl hl.1 rfl (Nat.le_of_ble_eq_true rfl) dX8_over_10) (fun H locs hP hS => ?_)
    refine lv_goto (tgt := 17) hx hb dX8_over_13 (by decide) ?_
    obtain rfl := Option.some.inj h
    exact hret _ _ _ _ hP hS dX8_over_17
def fX8_over (x1 : Int32) (w : Mm) : Option (Int32) := fX8_over_E x1 w
theorem ctX8_over (l : Launch) (D : va_G) (c3 : C3) (ad : Nat → Nat) (w : Mm) (sz : Nat) (x1 : Int32) (r : Int32) (h : fX8_over x1 w = some r) : Ci l yX8_over wsX8_over rmX8_over D c3 (encM c3 ad) gM [.ref (ad 0), .int x1] w sz r w := by
  refine Ci.of (cc := cX8_over) (maxL := 2) (encM_ok c3 ad) (by decide) rfl (Nat.le_of_ble_eq_true rfl) ?_
  intro p e s m below meth c A Q ls X hret hP hS hl
  exact bX8_over_E X hret x1 _ _ ls hP hS hl h
theorem iwX8_layTried_X8 : ∀ w ∈ wsX80, w ∈ wsX8_layTried := fun _ h => List.mem_cons_of_mem _ (List.mem_append_right _ h)
theorem lkX8_layTried_7 : Cond.fieldLink RX8 7 "StuckDoorModel" "row" "[I" ∈ wsX8_layTried := by decide +kernel
def rmX8_layTried : Room := { frames := 0, cells := 0, slots := 0, locals := 0 }
def fX8_layTried_2 : Nat → Int32 → Mm → Option (Mm)
  | 0, _, _ => none
  | n + 1, x1, w => (if 11 ≤ x1 then some w else gd (inb x1 1655 = true) (gd (inb (1644 + x1) 1655 = true) (nm (sA w 1 (1644 + x1).toNatClampNeg (w.1 1 x1.toNatClampNeg)) (fun w_4 => fX8_layTried_2 n (x1 + 1) w_4))))
set_option maxRecDepth 20000 in
theorem bX8_layTried_2 {p : Program} {l : Launch} {e : Env} {s : State} {m : MethodId} {args : Array Value} {below : List Frame} {meth : Method} {c : Code} {Q : State → Prop} {D : va_G} {c3 : C3} {ad : Nat → Nat} {A : Nat → Prop} {w' : Mm} (X : Cx p s m args c cX8_layTried 2 RX8 wsX8_layTried D c3 (encM c3 ad) gM A) (hret : Rv p l e (rmX8_layTried) s m args below meth c Q cX8_layTried D (encM c3 ad) A w') : ∀ (n : Nat) (x1 : Int32) (w : Mm) (H : Heap) (locs : List Loc) (ls : Array Slot), va_P D vwCl ((encM c3 ad) w) H → va_S A s.heap H locs → lv_has ls 2 [(0, .ref (ad 0)), (1, .int x1)] → fX8_layTried_2 n x1 w = some w' → W p l e (rmX8_layTried) s m args below meth c H locs 0 0 Q (F0 m 2 ls []) := by
  have hx := X.1
  have hb := X.2.1
  have hml := X.2.2.1
  have hown := X.2.2.2.1
  have hts := X.2.2.2.2.1
  intro n
  induction n with
  | zero =>
    intro x1 w H locs ls hP hS hl h
    exact absurd h (by simp [fX8_layTried_2])
  | succ n ih =>
    intro x1 w H locs ls hP hS hl h
    rw [fX8_layTried_2] at h
    refine lv_iload_n hx hb dX8_layTried_2 rfl (lv_at hl 1 rfl) ?_
    refine lv_bipush (v := 11) hx hb dX8_layTried_3 (by decide) ?_
    refine lv_icmp_ge (tgt := 30) hx hb dX8_layTried_5 (by decide) (fun c_1 => ?_) (fun c_1 => ?_)
    · replace h := it_p c_1 h
      obtain rfl := Option.some.inj h
      exact hret _ _ _ _ hP hS dX8_layTried_30
    · replace h := it_n c_1 h
      refine lv_aload_n hx hb dX8_layTried_8 rfl (lv_at hl 0 rfl) ?_
      refine x_get (rest := []) X hP (gM0 c3 ad w) rfl iwX8_layTried_X8 0 (by decide) lkX8_layTried_7 rfl dX8_layTried_9 ?_
      refine lv_sipush (v := 1644) hx hb dX8_layTried_12 (by decide) ?_
      refine lv_iload_n hx hb dX8_layTried_15 rfl (lv_at hl 1 rfl) ?_
      refine lv_iadd hx hb dX8_layTried_16 ?_
      refine lv_aload_n hx hb dX8_layTried_17 rfl (lv_at hl 0 rfl) ?_
      refine x_get (rest := [.int (1644 + x1), .ref (ad 1)]) X hP (gM0 c3 ad w) rfl iwX8_layTried_X8 0 (by decide) lkX8_layTried_7 rfl dX8_layTried_18 ?_
      refine lv_iload_n hx hb dX8_layTried_21 rfl (lv_at hl 1 rfl) ?_
      obtain ⟨g_2, h⟩ := gd_s h
      refine x_iald X hP (gM1 c3 ad w) g_2 dX8_layTried_22 ?_
      obtain ⟨g_3, h⟩ := gd_s h
      refine x_iast X hP hS (gM1 c3 ad w) (sM1 c3 ad w _ _) g_3 dX8_layTried_23 (fun H locs hP hS => ?_)
      refine x_nmw h hP (fun w_4 h hP => ?_)
      refine lv_iinc (v := (x1 + 1)) (lv' := [(1, .int (x1 + 1)), (0, .ref (ad 0))]) hx hb dX8_layTried_24 hl (k := 1) rfl rfl (by decide) rfl (fun ls hl => ?_)
      refine lv_goto (tgt := 2) hx hb dX8_layTried_27 (by decide) ?_
      exact ih (x1 + 1) w_4 _ _ _ hP hS (lv_sub hl [1, 0] rfl) h
def fX8_layTried_E (w : Mm) : Option (Mm) := fX8_layTried_2 FU 0 w
set_option maxRecDepth 20000 in
theorem bX8_layTried_E {p : Program} {l : Launch} {e : Env} {s : State} {m : MethodId} {args : Array Value} {below : List Frame} {meth : Method} {c : Code} {Q : State → Prop} {D : va_G} {c3 : C3} {ad : Nat → Nat} {A : Nat → Prop} {w' : Mm} (X : Cx p s m args c cX8_layTried 2 RX8 wsX8_layTried D c3 (encM c3 ad) gM A) (hret : Rv p l e (rmX8_layTried) s m args below meth c Q cX8_layTried D (encM c3 ad) A w') : ∀ (w : Mm) (H : Heap) (locs : List Loc) (ls : Array Slot), va_P D vwCl ((encM c3 ad) w) H → va_S A s.heap H locs → lv_has ls 2 [(0, .ref (ad 0))] → fX8_layTried_E w = some w' → W p l e (rmX8_layTried) s m args below meth c H locs 0 0 Q (F0 m 0 ls []) := by
  have hx := X.1
  have hb := X.2.1
  have hml := X.2.2.1
  have hown := X.2.2.2.1
  have hts := X.2.2.2.2.1
  intro w H locs ls hP hS hl h
  unfold fX8_layTried_E at h
  refine lv_iconst (v := 0) hx hb dX8_layTried_0 (by decide) ?_
  refine lv_istore_n (lv' := [(1, .int 0), (0, .ref (ad 0))]) hx hb dX8_layTried_1 rfl hl (by decide) rfl (fun ls hl => ?_)
  exact bX8_layTried_2 X hret FU 0 w _ _ _ hP hS (lv_sub hl [1, 0] rfl) h
def fX8_layTried (w : Mm) : Option (Mm) := fX8_layTried_E w
theorem ctX8_layTried (l : Launch) (D : va_G) (c3 : C3) (ad : Nat → Nat) (w : Mm) (sz : Nat) (w' : Mm) (h : fX8_layTried w = some w') : Cv l yX8_layTried wsX8_layTried rmX8_layTried D c3 (encM c3 ad) gM [.ref (ad 0)] w sz w' := by
  refine Cv.of (cc := cX8_layTried) (maxL := 2) (encM_ok c3 ad) (by decide) rfl (Nat.le_of_ble_eq_true rfl) ?_
  intro p e s m below meth c A Q ls X hret hP hS hl
  exact bX8_layTried_E X hret w _ _ ls hP hS hl h
theorem iwX8_talk_X8 : ∀ w ∈ wsX80, w ∈ wsX8_talk := fun _ h => List.mem_cons_of_mem _ (List.mem_append_right _ h)
theorem lkX8_talk_7 : Cond.fieldLink RX8 7 "StuckDoorModel" "row" "[I" ∈ wsX8_talk := by decide +kernel
theorem lkX8_talk_25 : Cond.fieldLink RX8 25 "StuckDoorModel" "sizes" "[I" ∈ wsX8_talk := by decide +kernel
theorem lkX8_talk_28 : Cond.fieldLink RX8 28 "StuckDoorModel" "items" "[I" ∈ wsX8_talk := by decide +kernel
theorem lkX8_talk_76 : Cond.fieldLink RX8 76 "StuckDoorModel" "asked" "I" ∈ wsX8_talk := by decide +kernel
theorem lkX8_talk_167 : Cond.fieldLink RX8 167 "StuckDoorModel" "sayings" "I" ∈ wsX8_talk := by decide +kernel
def rmX8_talk : Room := { frames := 4, cells := 0, slots := 0, locals := 87 }
def fX8_talk_201 (x2 : Int32) (w : Mm) : Option (Int32 × Mm) := nm (sA w 0 12 (w.1 1 1646)) (fun w_1 => some (x2, w_1))
set_option maxRecDepth 20000 in
theorem bX8_talk_201 {p : Program} {l : Launch} {e : Env} {s : State} {m : MethodId} {args : Array Value} {below : List Frame} {meth : Method} {c : Code} {Q : State → Prop} {D : va_G} {c3 : C3} {ad : Nat → Nat} {A : Nat → Prop} {r : Int32} {w' : Mm} (X : Cx p s m args c cX8_talk 3 RX8 wsX8_talk D c3 (encM c3 ad) gM A) (hret : Ri p l e (rmX8_talk) s m args below meth c Q cX8_talk D (encM c3 ad) A r w') : ∀ (x2 : Int32) (w : Mm) (H : Heap) (locs : List Loc) (ls : Array Slot), va_P D vwCl ((encM c3 ad) w) H → va_S A s.heap H locs → lv_has ls 3 [(0, .ref (ad 0)), (2, .int x2)] → fX8_talk_201 x2 w = some (r, w') → W p l e (rmX8_talk) s m args below meth c H locs 0 0 Q (F0 m 201 ls []) := by
  have hx := X.1
  have hb := X.2.1
  have hml := X.2.2.1
  have hown := X.2.2.2.1
  have hts := X.2.2.2.2.1
  intro x2 w H locs ls hP hS hl h
  unfold fX8_talk_201 at h
  refine lv_aload_n hx hb dX8_talk_201 rfl (lv_at hl 0 rfl) ?_
  refine lv_aload_n hx hb dX8_talk_202 rfl (lv_at hl 0 rfl) ?_
  refine x_get (rest := [.ref (ad 0)]) X hP (gM0 c3 ad w) rfl iwX8_talk_X8 0 (by decide) lkX8_talk_7 rfl dX8_talk_203 ?_
  refine lv_sipush (v := 1646) hx hb dX8_talk_206 (by decide) ?_
  refine x_ialdL (j := 1646) X hP (gM1 c3 ad w) (by decide) rfl dX8_talk_209 ?_
  refine x_put (v := .int (w.1 1 1646)) X hP hS (gM0 c3 ad w) rfl iwX8_talk_X8 tyX8 tyX8_ok nmX8 12 (by decide) lkX8_talk_76 rfl rfl rfl (Nat.le_of_ble_eq_true rfl) (pM0_12 c3 ad w (w.1 1 1646)) dX8_talk_210 (fun H locs hP hS => ?_)
  refine x_nmw h hP (fun w_1 h hP => ?_)
  refine lv_iload_n hx hb dX8_talk_213 rfl (lv_at hl 1 rfl) ?_
  obtain ⟨rfl, rfl⟩ := Prod.mk.inj (Option.some.inj h)
  exact hret _ _ _ _ hP hS dX8_talk_214
def fX8_talk_135 (x1 : Int32) : Nat → Int32 → Mm → Option (Int32 × Mm)
  | 0, _, _ => none
  | n + 1, x2, w => gd (inb x1 6 = true) ((if (w.1 6 x1.toNatClampNeg) ≤ (2 * x2) then fX8_talk_201 x2 w else (if (w.1 1 1648) = (-9) then gd (inb ((40 * x1) + (2 * x2)) 240 = true) (gd (inb (((40 * x1) + (2 * x2)) + 1) 240 = true) (bo (fX8_says 1644 (w.1 7 ((40 * x1) + (2 * x2)).toNatClampNeg) (w.1 7 (((40 * x1) + (2 * x2)) + 1).toNatClampNeg) w) (fun w_9 => fX8_talk_135 x1 n (x2 + 1) w_9))) else fX8_talk_201 x2 w)))
set_option maxRecDepth 20000 in
theorem bX8_talk_135 {p : Program} {l : Launch} {e : Env} {s : State} {m : MethodId} {args : Array Value} {below : List Frame} {meth : Method} {c : Code} {Q : State → Prop} {D : va_G} {c3 : C3} {ad : Nat → Nat} {A : Nat → Prop} {r : Int32} {w' : Mm} (X : Cx p s m args c cX8_talk 3 RX8 wsX8_talk D c3 (encM c3 ad) gM A) (hret : Ri p l e (rmX8_talk) s m args below meth c Q cX8_talk D (encM c3 ad) A r w') : ∀ (x1 : Int32) (n : Nat) (x2 : Int32) (w : Mm) (H : Heap) (locs : List Loc) (ls : Array Slot), va_P D vwCl ((encM c3 ad) w) H → va_S A s.heap H locs → lv_has ls 3 [(0, .ref (ad 0)), (1, .int x1), (2, .int x2)] → fX8_talk_135 x1 n x2 w = some (r, w') → W p l e (rmX8_talk) s m args below meth c H locs 0 0 Q (F0 m 135 ls []) := by
  have hx := X.1
  have hb := X.2.1
  have hml := X.2.2.1
  have hown := X.2.2.2.1
  have hts := X.2.2.2.2.1
  intro x1 n
  induction n with
  | zero =>
    intro x2 w H locs ls hP hS hl h
    exact absurd h (by simp [fX8_talk_135])
  | succ n ih =>
    intro x2 w H locs ls hP hS hl h
    rw [fX8_talk_135] at h
    refine lv_iconst (v := 2) hx hb dX8_talk_135 (by decide) ?_
    refine lv_iload_n hx hb dX8_talk_136 rfl (lv_at hl 2 rfl) ?_
    refine lv_imul hx hb dX8_talk_137 ?_
    refine lv_aload_n hx hb dX8_talk_138 rfl (lv_at hl 0 rfl) ?_
    refine x_get (rest := [.int (2 * x2)]) X hP (gM0 c3 ad w) rfl iwX8_talk_X8 8 (by decide) lkX8_talk_25 rfl dX8_talk_139 ?_
    refine lv_iload_n hx hb dX8_talk_142 rfl (lv_at hl 1 rfl) ?_
    obtain ⟨g_2, h⟩ := gd_s h
    refine x_iald X hP (gM6 c3 ad w) g_2 dX8_talk_143 ?_
    refine lv_icmp_ge (tgt := 201) hx hb dX8_talk_144 (by decide) (fun c_3 => ?_) (fun c_3 => ?_)
    · replace h := it_p c_3 h
      exact bX8_talk_201 X hret x2 w _ _ _ hP hS (lv_sub hl [0, 2] rfl) h
    · replace h := it_n c_3 h
      refine lv_aload_n hx hb dX8_talk_147 rfl (lv_at hl 0 rfl) ?_
      refine x_get (rest := []) X hP (gM0 c3 ad w) rfl iwX8_talk_X8 0 (by decide) lkX8_talk_7 rfl dX8_talk_148 ?_
      refine lv_sipush (v := 1648) hx hb dX8_talk_151 (by decide) ?_
      refine x_ialdL (j := 1648) X hP (gM1 c3 ad w) (by decide) rfl dX8_talk_154 ?_
      refine lv_bipush (v := (-9)) hx hb dX8_talk_155 (by decide) ?_
      refine lv_icmp_ne (tgt := 201) hx hb dX8_talk_157 (by decide) (fun c_4 => ?_) (fun c_4 => ?_)
      · replace h := it_n c_4 h
        exact bX8_talk_201 X hret x2 w _ _ _ hP hS (lv_sub hl [0, 2] rfl) h
      · replace h := it_p c_4 h
        refine lv_aload_n hx hb dX8_talk_160 rfl (lv_at hl 0 rfl) ?_
        refine lv_sipush (v := 1644) hx hb dX8_talk_161 (by decide) ?_
        refine lv_aload_n hx hb dX8_talk_164 rfl (lv_at hl 0 rfl) ?_
        refine x_get (rest := [.int 1644, .ref (ad 0)]) X hP (gM0 c3 ad w) rfl iwX8_talk_X8 9 (by decide) lkX8_talk_28 rfl dX8_talk_165 ?_
        refine lv_bipush (v := 40) hx hb dX8_talk_168 (by decide) ?_
        refine lv_iload_n hx hb dX8_talk_170 rfl (lv_at hl 1 rfl) ?_
        refine lv_imul hx hb dX8_talk_171 ?_
        refine lv_iconst (v := 2) hx hb dX8_talk_172 (by decide) ?_
        refine lv_iload_n hx hb dX8_talk_173 rfl (lv_at hl 2 rfl) ?_
        refine lv_imul hx hb dX8_talk_174 ?_
        refine lv_iadd hx hb dX8_talk_175 ?_
        obtain ⟨g_5, h⟩ := gd_s h
        refine x_iald X hP (gM7 c3 ad w) g_5 dX8_talk_176 ?_
        refine lv_aload_n hx hb dX8_talk_177 rfl (lv_at hl 0 rfl) ?_
        refine x_get (rest := [.int (w.1 7 ((40 * x1) + (2 * x2)).toNatClampNeg), .int 1644, .ref (ad 0)]) X hP (gM0 c3 ad w) rfl iwX8_talk_X8 9 (by decide) lkX8_talk_28 rfl dX8_talk_178 ?_
        refine lv_bipush (v := 40) hx hb dX8_talk_181 (by decide) ?_
        refine lv_iload_n hx hb dX8_talk_183 rfl (lv_at hl 1 rfl) ?_
        refine lv_imul hx hb dX8_talk_184 ?_
        refine lv_iconst (v := 2) hx hb dX8_talk_185 (by decide) ?_
        refine lv_iload_n hx hb dX8_talk_186 rfl (lv_at hl 2 rfl) ?_
        refine lv_imul hx hb dX8_talk_187 ?_
        refine lv_iadd hx hb dX8_talk_188 ?_
        refine lv_iconst (v := 1) hx hb dX8_talk_189 (by decide) ?_
        refine lv_iadd hx hb dX8_talk_190 ?_
        obtain ⟨g_6, h⟩ := gd_s h
        refine x_iald X hP (gM7 c3 ad w) g_6 dX8_talk_191 ?_
        obtain ⟨w_9, e_7, h⟩ := bo_s h
        refine x_gov X hS (x_runV (As := [.int 1644, .int (w.1 7 ((40 * x1) + (2 * x2)).toNatClampNeg), .int (w.1 7 (((40 * x1) + (2 * x2)) + 1).toNatClampNeg)]) (rest := []) X gM_ok hP hS (ctX8_says l D c3 ad w _ 1644 (w.1 7 ((40 * x1) + (2 * x2)).toNatClampNeg) (w.1 7 (((40 * x1) + (2 * x2)) + 1).toNatClampNeg) _ e_7) (cwV 3 hts gX8_talk_X8_says rfl rfl rfl (by decide +kernel) ⟨by decide, by decide⟩) (gM0 c3 ad w) rfl rfl rfl hl.1 rfl (Nat.le_of_ble_eq_true rfl) dX8_talk_192) (fun H locs hP hS => ?_)
        refine lv_iinc (v := (x2 + 1)) (lv' := [(2, .int (x2 + 1)), (0, .ref (ad 0)), (1, .int x1)]) hx hb dX8_talk_195 hl (k := 2) rfl rfl (by decide) rfl (fun ls hl => ?_)
        refine lv_goto (tgt := 135) hx hb dX8_talk_198 (by decide) ?_
        exact ih (x2 + 1) w_9 _ _ _ hP hS (lv_sub hl [1, 2, 0] rfl) h
def fX8_talk_117 (w : Mm) : Option (Int32 × Mm) := bd (fX8_find 3 w) (fun r_11 w_12 => some (r_11, w_12))
set_option maxRecDepth 20000 in
theorem bX8_talk_117 {p : Program} {l : Launch} {e : Env} {s : State} {m : MethodId} {args : Array Value} {below : List Frame} {meth : Method} {c : Code} {Q : State → Prop} {D : va_G} {c3 : C3} {ad : Nat → Nat} {A : Nat → Prop} {r : Int32} {w' : Mm} (X : Cx p s m args c cX8_talk 3 RX8 wsX8_talk D c3 (encM c3 ad) gM A) (hret : Ri p l e (rmX8_talk) s m args below meth c Q cX8_talk D (encM c3 ad) A r w') : ∀ (w : Mm) (H : Heap) (locs : List Loc) (ls : Array Slot), va_P D vwCl ((encM c3 ad) w) H → va_S A s.heap H locs → lv_has ls 3 [(0, .ref (ad 0))] → fX8_talk_117 w = some (r, w') → W p l e (rmX8_talk) s m args below meth c H locs 0 0 Q (F0 m 117 ls []) := by
  have hx := X.1
  have hb := X.2.1
  have hml := X.2.2.1
  have hown := X.2.2.2.1
  have hts := X.2.2.2.2.1
  intro w H locs ls hP hS hl h
  unfold fX8_talk_117 at h
  refine lv_aload_n hx hb dX8_talk_117 rfl (lv_at hl 0 rfl) ?_
  refine lv_iconst (v := 3) hx hb dX8_talk_118 (by decide) ?_
  obtain ⟨r_11, w_12, e_10, h⟩ := bd_s h
  refine x_goi X hS (x_runV (As := [.int 3]) (rest := []) X gM_ok hP hS (ctX8_find l D c3 ad w _ 3 _ _ e_10) (cwV 1 hts gX8_talk_X8_find rfl rfl rfl (by decide +kernel) ⟨by decide, by decide⟩) (gM0 c3 ad w) rfl rfl rfl hl.1 rfl (Nat.le_of_ble_eq_true rfl) dX8_talk_119) (fun H locs hP hS => ?_)
  obtain ⟨rfl, rfl⟩ := Prod.mk.inj (Option.some.inj h)
  exact hret _ _ _ _ hP hS dX8_talk_122
def fX8_talk_74 (x1 : Int32) : Nat → Int32 → Mm → Option (Int32 × Mm)
  | 0, _, _ => none
  | n + 1, x2, w => gd (inb x1 6 = true) ((if ((40 * x1) + (w.1 6 x1.toNatClampNeg)) ≤ x2 then bo (fX8_layTried w) (fun w_17 => fX8_talk_135 x1 FU 0 w_17) else gd (inb x2 240 = true) (bo (fX8_isOne (w.1 7 x2.toNatClampNeg) w) (fun r_20 => (if r_20 = 0 then fX8_talk_117 w else gd (inb (x2 + 1) 240 = true) (bo (fX8_isSaying (w.1 7 (x2 + 1).toNatClampNeg) w) (fun r_25 => (if r_25 = 0 then fX8_talk_117 w else fX8_talk_74 x1 n (x2 + 2) w))))))))
set_option maxRecDepth 20000 in
theorem bX8_talk_74 {p : Program} {l : Launch} {e : Env} {s : State} {m : MethodId} {args : Array Value} {below : List Frame} {meth : Method} {c : Code} {Q : State → Prop} {D : va_G} {c3 : C3} {ad : Nat → Nat} {A : Nat → Prop} {r : Int32} {w' : Mm} (X : Cx p s m args c cX8_talk 3 RX8 wsX8_talk D c3 (encM c3 ad) gM A) (hret : Ri p l e (rmX8_talk) s m args below meth c Q cX8_talk D (encM c3 ad) A r w') : ∀ (x1 : Int32) (n : Nat) (x2 : Int32) (w : Mm) (H : Heap) (locs : List Loc) (ls : Array Slot), va_P D vwCl ((encM c3 ad) w) H → va_S A s.heap H locs → lv_has ls 3 [(0, .ref (ad 0)), (1, .int x1), (2, .int x2)] → fX8_talk_74 x1 n x2 w = some (r, w') → W p l e (rmX8_talk) s m args below meth c H locs 0 0 Q (F0 m 74 ls []) := by
  have hx := X.1
  have hb := X.2.1
  have hml := X.2.2.1
  have hown := X.2.2.2.1
  have hts := X.2.2.2.2.1
  intro x1 n
  induction n with
  | zero =>
    intro x2 w H locs ls hP hS hl h
    exact absurd h (by simp [fX8_talk_74])
  | succ n ih =>
    intro x2 w H locs ls hP hS hl h
    rw [fX8_talk_74] at h
    refine lv_iload_n hx hb dX8_talk_74 rfl (lv_at hl 2 rfl) ?_
    refine lv_bipush (v := 40) hx hb dX8_talk_75 (by decide) ?_
    refine lv_iload_n hx hb dX8_talk_77 rfl (lv_at hl 1 rfl) ?_
    refine lv_imul hx hb dX8_talk_78 ?_
    refine lv_aload_n hx hb dX8_talk_79 rfl (lv_at hl 0 rfl) ?_
    refine x_get (rest := [.int (40 * x1), .int x2]) X hP (gM0 c3 ad w) rfl iwX8_talk_X8 8 (by decide) lkX8_talk_25 rfl dX8_talk_80 ?_
    refine lv_iload_n hx hb dX8_talk_83 rfl (lv_at hl 1 rfl) ?_
    obtain ⟨g_13, h⟩ := gd_s h
    refine x_iald X hP (gM6 c3 ad w) g_13 dX8_talk_84 ?_
    refine lv_iadd hx hb dX8_talk_85 ?_
    refine lv_icmp_ge (tgt := 129) hx hb dX8_talk_86 (by decide) (fun c_14 => ?_) (fun c_14 => ?_)
    · replace h := it_p c_14 h
      refine lv_aload_n hx hb dX8_talk_129 rfl (lv_at hl 0 rfl) ?_
      obtain ⟨w_17, e_15, h⟩ := bo_s h
      refine x_gov X hS (x_runV (As := []) (rest := []) X gM_ok hP hS (ctX8_layTried l D c3 ad w _ _ e_15) (cwV 0 hts gX8_talk_X8_layTried rfl rfl rfl (by decide +kernel) ⟨by decide, by decide⟩) (gM0 c3 ad w) rfl rfl rfl hl.1 rfl (Nat.le_of_ble_eq_true rfl) dX8_talk_130) (fun H locs hP hS => ?_)
      refine lv_iconst (v := 0) hx hb dX8_talk_133 (by decide) ?_
      refine lv_istore_n (lv' := [(2, .int 0), (0, .ref (ad 0)), (1, .int x1)]) hx hb dX8_talk_134 rfl hl (by decide) rfl (fun ls hl => ?_)
      exact bX8_talk_135 X hret x1 FU 0 w_17 _ _ _ hP hS (lv_sub hl [1, 2, 0] rfl) h
    · replace h := it_n c_14 h
      refine lv_aload_n hx hb dX8_talk_89 rfl (lv_at hl 0 rfl) ?_
      refine lv_aload_n hx hb dX8_talk_90 rfl (lv_at hl 0 rfl) ?_
      refine x_get (rest := [.ref (ad 0)]) X hP (gM0 c3 ad w) rfl iwX8_talk_X8 9 (by decide) lkX8_talk_28 rfl dX8_talk_91 ?_
      refine lv_iload_n hx hb dX8_talk_94 rfl (lv_at hl 2 rfl) ?_
      obtain ⟨g_18, h⟩ := gd_s h
      refine x_iald X hP (gM7 c3 ad w) g_18 dX8_talk_95 ?_
      obtain ⟨r_20, e_19, h⟩ := bo_s h
      refine x_goi X hS (x_runV (As := [.int (w.1 7 x2.toNatClampNeg)]) (rest := []) X gM_ok hP hS (ctX8_isOne l D c3 ad w _ (w.1 7 x2.toNatClampNeg) _ e_19) (cwV 1 hts gX8_talk_X8_isOne rfl rfl rfl (by decide +kernel) ⟨by decide, by decide⟩) (gM0 c3 ad w) rfl rfl rfl hl.1 rfl (Nat.le_of_ble_eq_true rfl) dX8_talk_96) (fun H locs hP hS => ?_)
      refine lv_if_eq (tgt := 117) hx hb dX8_talk_99 (by decide) (fun c_22 => ?_) (fun c_22 => ?_)
      · replace h := it_p c_22 h
        exact bX8_talk_117 X hret w _ _ _ hP hS (lv_sub hl [0] rfl) h
      · replace h := it_n c_22 h
        refine lv_aload_n hx hb dX8_talk_102 rfl (lv_at hl 0 rfl) ?_
        refine lv_aload_n hx hb dX8_talk_103 rfl (lv_at hl 0 rfl) ?_
        refine x_get (rest := [.ref (ad 0)]) X hP (gM0 c3 ad w) rfl iwX8_talk_X8 9 (by decide) lkX8_talk_28 rfl dX8_talk_104 ?_
        refine lv_iload_n hx hb dX8_talk_107 rfl (lv_at hl 2 rfl) ?_
        refine lv_iconst (v := 1) hx hb dX8_talk_108 (by decide) ?_
        refine lv_iadd hx hb dX8_talk_109 ?_
        obtain ⟨g_23, h⟩ := gd_s h
        refine x_iald X hP (gM7 c3 ad w) g_23 dX8_talk_110 ?_
        obtain ⟨r_25, e_24, h⟩ := bo_s h
        refine x_goi X hS (x_runV (As := [.int (w.1 7 (x2 + 1).toNatClampNeg)]) (rest := []) X gM_ok hP hS (ctX8_isSaying l D c3 ad w _ (w.1 7 (x2 + 1).toNatClampNeg) _ e_24) (cwV 1 hts gX8_talk_X8_isSaying rfl rfl rfl (by decide +kernel) ⟨by decide, by decide⟩) (gM0 c3 ad w) rfl rfl rfl hl.1 rfl (Nat.le_of_ble_eq_true rfl) dX8_talk_111) (fun H locs hP hS => ?_)
        refine lv_if_ne (tgt := 123) hx hb dX8_talk_114 (by decide) (fun c_27 => ?_) (fun c_27 => ?_)
        · replace h := it_n c_27 h
          refine lv_iinc (v := (x2 + 2)) (lv' := [(2, .int (x2 + 2)), (0, .ref (ad 0)), (1, .int x1)]) hx hb dX8_talk_123 hl (k := 2) rfl rfl (by decide) rfl (fun ls hl => ?_)
          refine lv_goto (tgt := 74) hx hb dX8_talk_126 (by decide) ?_
          exact ih (x2 + 2) w _ _ _ hP hS (lv_sub hl [1, 2, 0] rfl) h
        · replace h := it_p c_27 h
          exact bX8_talk_117 X hret w _ _ _ hP hS (lv_sub hl [0] rfl) h
def fX8_talk_63 (w : Mm) : Option (Int32 × Mm) := bd (fX8_find 5 w) (fun r_29 w_30 => some (r_29, w_30))
set_option maxRecDepth 20000 in
theorem bX8_talk_63 {p : Program} {l : Launch} {e : Env} {s : State} {m : MethodId} {args : Array Value} {below : List Frame} {meth : Method} {c : Code} {Q : State → Prop} {D : va_G} {c3 : C3} {ad : Nat → Nat} {A : Nat → Prop} {r : Int32} {w' : Mm} (X : Cx p s m args c cX8_talk 3 RX8 wsX8_talk D c3 (encM c3 ad) gM A) (hret : Ri p l e (rmX8_talk) s m args below meth c Q cX8_talk D (encM c3 ad) A r w') : ∀ (w : Mm) (H : Heap) (locs : List Loc) (ls : Array Slot), va_P D vwCl ((encM c3 ad) w) H → va_S A s.heap H locs → lv_has ls 3 [(0, .ref (ad 0))] → fX8_talk_63 w = some (r, w') → W p l e (rmX8_talk) s m args below meth c H locs 0 0 Q (F0 m 63 ls []) := by
  have hx := X.1
  have hb := X.2.1
  have hml := X.2.2.1
  have hown := X.2.2.2.1
  have hts := X.2.2.2.2.1
  intro w H locs ls hP hS hl h
  unfold fX8_talk_63 at h
  refine lv_aload_n hx hb dX8_talk_63 rfl (lv_at hl 0 rfl) ?_
  refine lv_iconst (v := 5) hx hb dX8_talk_64 (by decide) ?_
  obtain ⟨r_29, w_30, e_28, h⟩ := bd_s h
  refine x_goi X hS (x_runV (As := [.int 5]) (rest := []) X gM_ok hP hS (ctX8_find l D c3 ad w _ 5 _ _ e_28) (cwV 1 hts gX8_talk_X8_find rfl rfl rfl (by decide +kernel) ⟨by decide, by decide⟩) (gM0 c3 ad w) rfl rfl rfl hl.1 rfl (Nat.le_of_ble_eq_true rfl) dX8_talk_65) (fun H locs hP hS => ?_)
  obtain ⟨rfl, rfl⟩ := Prod.mk.inj (Option.some.inj h)
  exact hret _ _ _ _ hP hS dX8_talk_68
def fX8_talk_E (x1 : Int32) (w : Mm) : Option (Int32 × Mm) := bo (fX8_isRow x1) (fun r_32 => (if r_32 = 0 then some ((-1), w) else bo (fX8_isOver w) (fun r_36 => (if r_36 = 0 then (if (w.1 0 3) = 0 then some ((-4), w) else gd (inb x1 6 = true) ((if 0 ≤ (w.1 6 x1.toNatClampNeg) then (if ((w.1 6 x1.toNatClampNeg) - (w.1 6 x1.toNatClampNeg) / 2 * 2) = 0 then (if (w.1 6 x1.toNatClampNeg) ≤ 20 then nm (40 * x1) (fun x2_44 => fX8_talk_74 x1 FU x2_44 w) else fX8_talk_63 w) else fX8_talk_63 w) else bd (fX8_find 1 w) (fun r_46 w_47 => some (r_46, w_47))))) else some ((-4), w)))))
set_option maxRecDepth 20000 in
theorem bX8_talk_E {p : Program} {l : Launch} {e : Env} {s : State} {m : MethodId} {args : Array Value} {below : List Frame} {meth : Method} {c : Code} {Q : State → Prop} {D : va_G} {c3 : C3} {ad : Nat → Nat} {A : Nat → Prop} {r : Int32} {w' : Mm} (X : Cx p s m args c cX8_talk 3 RX8 wsX8_talk D c3 (encM c3 ad) gM A) (hret : Ri p l e (rmX8_talk) s m args below meth c Q cX8_talk D (encM c3 ad) A r w') : ∀ (x1 : Int32) (w : Mm) (H : Heap) (locs : List Loc) (ls : Array Slot), va_P D vwCl ((encM c3 ad) w) H → va_S A s.heap H locs → lv_has ls 3 [(0, .ref (ad 0)), (1, .int x1)] → fX8_talk_E x1 w = some (r, w') → W p l e (rmX8_talk) s m args below meth c H locs 0 0 Q (F0 m 0 ls []) := by
  have hx := X.1
  have hb := X.2.1
  have hml := X.2.2.1
  have hown := X.2.2.2.1
  have hts := X.2.2.2.2.1
  intro x1 w H locs ls hP hS hl h
  unfold fX8_talk_E at h
  refine lv_iload_n hx hb dX8_talk_0 rfl (lv_at hl 1 rfl) ?_
  obtain ⟨r_32, e_31, h⟩ := bo_s h
  refine x_goi X hS (x_runS (As := [.int x1]) (rest := []) X gM_ok hP hS (ctX8_isRow l D c3 ad w _ x1 _ e_31) (va_cwS 1 hts gX8_talk_X8_isRow rfl rfl rfl (by decide +kernel) ⟨by decide, by decide⟩) rfl hl.1 rfl (Nat.le_of_ble_eq_true rfl) dX8_talk_1) (fun H locs hP hS => ?_)
  refine lv_if_ne (tgt := 9) hx hb dX8_talk_4 (by decide) (fun c_34 => ?_) (fun c_34 => ?_)
  · replace h := it_n c_34 h
    refine lv_aload_n hx hb dX8_talk_9 rfl (lv_at hl 0 rfl) ?_
    obtain ⟨r_36, e_35, h⟩ := bo_s h
    refine x_goi X hS (x_runV (As := []) (rest := []) X gM_ok hP hS (ctX8_isOver l D c3 ad w _ _ e_35) (cwV 0 hts gX8_talk_X8_isOver rfl rfl rfl (by decide +kernel) ⟨by decide, by decide⟩) (gM0 c3 ad w) rfl rfl rfl hl.1 rfl (Nat.le_of_ble_eq_true rfl) dX8_talk_10) (fun H locs hP hS => ?_)
    refine lv_if_ne (tgt := 23) hx hb dX8_talk_13 (by decide) (fun c_38 => ?_) (fun c_38 => ?_)
    · replace h := it_n c_38 h
      refine lv_bipush (v := (-4)) hx hb dX8_talk_23 (by decide) ?_
      obtain ⟨rfl, rfl⟩ := Prod.mk.inj (Option.some.inj h)
      exact hret _ _ _ _ hP hS dX8_talk_25
    · replace h := it_p c_38 h
      refine lv_aload_n hx hb dX8_talk_16 rfl (lv_at hl 0 rfl) ?_
      refine x_get (rest := []) X hP (gM0 c3 ad w) rfl iwX8_talk_X8 3 (by decide) lkX8_talk_167 rfl dX8_talk_17 ?_
      refine lv_if_ne (tgt := 26) hx hb dX8_talk_20 (by decide) (fun c_39 => ?_) (fun c_39 => ?_)
      · replace h := it_n c_39 h
        refine lv_aload_n hx hb dX8_talk_26 rfl (lv_at hl 0 rfl) ?_
        refine x_get (rest := []) X hP (gM0 c3 ad w) rfl iwX8_talk_X8 8 (by decide) lkX8_talk_25 rfl dX8_talk_27 ?_
        refine lv_iload_n hx hb dX8_talk_30 rfl (lv_at hl 1 rfl) ?_
        obtain ⟨g_40, h⟩ := gd_s h
        refine x_iald X hP (gM6 c3 ad w) g_40 dX8_talk_31 ?_
        refine lv_if_ge (tgt := 41) hx hb dX8_talk_32 (by decide) (fun c_41 => ?_) (fun c_41 => ?_)
        · replace h := it_p c_41 h
          refine lv_aload_n hx hb dX8_talk_41 rfl (lv_at hl 0 rfl) ?_
          refine x_get (rest := []) X hP (gM0 c3 ad w) rfl iwX8_talk_X8 8 (by decide) lkX8_talk_25 rfl dX8_talk_42 ?_
          refine lv_iload_n hx hb dX8_talk_45 rfl (lv_at hl 1 rfl) ?_
          refine x_iald X hP (gM6 c3 ad w) g_40 dX8_talk_46 ?_
          refine lv_iconst (v := 2) hx hb dX8_talk_47 (by decide) ?_
          refine lv_irem hx hb dX8_talk_48 (by decide) ?_
          refine lv_if_ne (tgt := 63) hx hb dX8_talk_49 (by decide) (fun c_42 => ?_) (fun c_42 => ?_)
          · replace h := it_n c_42 h
            exact bX8_talk_63 X hret w _ _ _ hP hS (lv_sub hl [0] rfl) h
          · replace h := it_p c_42 h
            refine lv_aload_n hx hb dX8_talk_52 rfl (lv_at hl 0 rfl) ?_
            refine x_get (rest := []) X hP (gM0 c3 ad w) rfl iwX8_talk_X8 8 (by decide) lkX8_talk_25 rfl dX8_talk_53 ?_
            refine lv_iload_n hx hb dX8_talk_56 rfl (lv_at hl 1 rfl) ?_
            refine x_iald X hP (gM6 c3 ad w) g_40 dX8_talk_57 ?_
            refine lv_bipush (v := 20) hx hb dX8_talk_58 (by decide) ?_
            refine lv_icmp_le (tgt := 69) hx hb dX8_talk_60 (by decide) (fun c_43 => ?_) (fun c_43 => ?_)
            · replace h := it_p c_43 h
              refine lv_bipush (v := 40) hx hb dX8_talk_69 (by decide) ?_
              refine lv_iload_n hx hb dX8_talk_71 rfl (lv_at hl 1 rfl) ?_
              refine lv_imul hx hb dX8_talk_72 ?_
              refine x_nmi h (fun x2_44 h => ?_)
              refine lv_istore_n (lv' := [(2, .int x2_44), (0, .ref (ad 0)), (1, .int x1)]) hx hb dX8_talk_73 rfl hl (by decide) rfl (fun ls hl => ?_)
              exact bX8_talk_74 X hret x1 FU x2_44 w _ _ _ hP hS (lv_sub hl [1, 2, 0] rfl) h
            · replace h := it_n c_43 h
              exact bX8_talk_63 X hret w _ _ _ hP hS (lv_sub hl [0] rfl) h
        · replace h := it_n c_41 h
          refine lv_aload_n hx hb dX8_talk_35 rfl (lv_at hl 0 rfl) ?_
          refine lv_iconst (v := 1) hx hb dX8_talk_36 (by decide) ?_
          obtain ⟨r_46, w_47, e_45, h⟩ := bd_s h
          refine x_goi X hS (x_runV (As := [.int 1]) (rest := []) X gM_ok hP hS (ctX8_find l D c3 ad w _ 1 _ _ e_45) (cwV 1 hts gX8_talk_X8_find rfl rfl rfl (by decide +kernel) ⟨by decide, by decide⟩) (gM0 c3 ad w) rfl rfl rfl hl.1 rfl (Nat.le_of_ble_eq_true rfl) dX8_talk_37) (fun H locs hP hS => ?_)
          obtain ⟨rfl, rfl⟩ := Prod.mk.inj (Option.some.inj h)
          exact hret _ _ _ _ hP hS dX8_talk_40
      · replace h := it_p c_39 h
        refine lv_bipush (v := (-4)) hx hb dX8_talk_23 (by decide) ?_
        obtain ⟨rfl, rfl⟩ := Prod.mk.inj (Option.some.inj h)
        exact hret _ _ _ _ hP hS dX8_talk_25
  · replace h := it_p c_34 h
    refine lv_iconst (v := (-1)) hx hb dX8_talk_7 (by decide) ?_
    obtain ⟨rfl, rfl⟩ := Prod.mk.inj (Option.some.inj h)
    exact hret _ _ _ _ hP hS dX8_talk_8
def fX8_talk (x1 : Int32) (w : Mm) : Option (Int32 × Mm) := fX8_talk_E x1 w
theorem ctX8_talk (l : Launch) (D : va_G) (c3 : C3) (ad : Nat → Nat) (w : Mm) (sz : Nat) (x1 : Int32) (r : Int32) (w' : Mm) (h : fX8_talk x1 w = some (r, w')) : Ci l yX8_talk wsX8_talk rmX8_talk D c3 (encM c3 ad) gM [.ref (ad 0), .int x1] w sz r w' := by
  refine Ci.of (cc := cX8_talk) (maxL := 3) (encM_ok c3 ad) (by decide) rfl (Nat.le_of_ble_eq_true rfl) ?_
  intro p e s m below meth c A Q ls X hret hP hS hl
  exact bX8_talk_E X hret x1 w _ _ ls hP hS hl h
theorem iwX8_waits_X8 : ∀ w ∈ wsX80, w ∈ wsX8_waits := fun _ h => List.mem_cons_of_mem _ (List.mem_append_right _ h)
theorem lkX8_waits_7 : Cond.fieldLink RX8 7 "StuckDoorModel" "row" "[I" ∈ wsX8_waits := by decide +kernel
theorem lkX8_waits_13 : Cond.fieldLink RX8 13 "StuckDoorModel" "bears" "[I" ∈ wsX8_waits := by decide +kernel
def rmX8_waits : Room := { frames := 3, cells := 0, slots := 0, locals := 64 }
def fX8_waits_E (x1 : Int32) (x2 : Int32) (w : Mm) : Option (Int32) := bo (fX8_isOne x1 w) (fun r_2 => (if r_2 = 0 then some (-1) else bo (fX8_isSaying x2 w) (fun r_6 => (if r_6 = 0 then some (-1) else bo (fX8_isOver w) (fun r_10 => (if r_10 = 0 then bo (fX8_nearOf 0 x2 w) (fun r_14 => gd (inb x1 4 = true) (nm (((w.1 1 2) + r_14) - (w.1 2 x1.toNatClampNeg)) (fun x4_17 => (if r_14 ≤ (w.1 2 x1.toNatClampNeg) then (if 0 ≤ x4_17 then some x4_17 else some 0) else some (-9))))) else some (-4)))))))
set_option maxRecDepth 20000 in
theorem bX8_waits_E {p : Program} {l : Launch} {e : Env} {s : State} {m : MethodId} {args : Array Value} {below : List Frame} {meth : Method} {c : Code} {Q : State → Prop} {D : va_G} {c3 : C3} {ad : Nat → Nat} {A : Nat → Prop} {r : Int32} {w : Mm} (X : Cx p s m args c cX8_waits 5 RX8 wsX8_waits D c3 (encM c3 ad) gM A) (hret : Ri p l e (rmX8_waits) s m args below meth c Q cX8_waits D (encM c3 ad) A r w) : ∀ (x1 : Int32) (x2 : Int32) (H : Heap) (locs : List Loc) (ls : Array Slot), va_P D vwCl ((encM c3 ad) w) H → va_S A s.heap H locs → lv_has ls 5 [(0, .ref (ad 0)), (1, .int x1), (2, .int x2)] → fX8_waits_E x1 x2 w = some r → W p l e (rmX8_waits) s m args below meth c H locs 0 0 Q (F0 m 0 ls []) := by
  have hx := X.1
  have hb := X.2.1
  have hml := X.2.2.1
  have hown := X.2.2.2.1
  have hts := X.2.2.2.2.1
  intro x1 x2 H locs ls hP hS hl h
  unfold fX8_waits_E at h
  refine lv_aload_n hx hb dX8_waits_0 rfl (lv_at hl 0 rfl) ?_
  refine lv_iload_n hx hb dX8_waits_1 rfl (lv_at hl 1 rfl) ?_
  obtain ⟨r_2, e_1, h⟩ := bo_s h
  refine x_goi X hS (x_runV (As := [.int x1]) (rest := []) X gM_ok hP hS (ctX8_isOne l D c3 ad w _ x1 _ e_1) (cwV 1 hts gX8_waits_X8_isOne rfl rfl rfl (by decide +kernel) ⟨by decide, by decide⟩) (gM0 c3 ad w) rfl rfl rfl hl.1 rfl (Nat.le_of_ble_eq_true rfl) dX8_waits_2) (fun H locs hP hS => ?_)
  refine lv_if_eq (tgt := 16) hx hb dX8_waits_5 (by decide) (fun c_4 => ?_) (fun c_4 => ?_)
  · replace h := it_p c_4 h
    refine lv_iconst (v := (-1)) hx hb dX8_waits_16 (by decide) ?_
    obtain rfl := Option.some.inj h
    exact hret _ _ _ _ hP hS dX8_waits_17
  · replace h := it_n c_4 h
    refine lv_aload_n hx hb dX8_waits_8 rfl (lv_at hl 0 rfl) ?_
    refine lv_iload_n hx hb dX8_waits_9 rfl (lv_at hl 2 rfl) ?_
    obtain ⟨r_6, e_5, h⟩ := bo_s h
    refine x_goi X hS (x_runV (As := [.int x2]) (rest := []) X gM_ok hP hS (ctX8_isSaying l D c3 ad w _ x2 _ e_5) (cwV 1 hts gX8_waits_X8_isSaying rfl rfl rfl (by decide +kernel) ⟨by decide, by decide⟩) (gM0 c3 ad w) rfl rfl rfl hl.1 rfl (Nat.le_of_ble_eq_true rfl) dX8_waits_10) (fun H locs hP hS => ?_)
    refine lv_if_ne (tgt := 18) hx hb dX8_waits_13 (by decide) (fun c_8 => ?_) (fun c_8 => ?_)
    · replace h := it_n c_8 h
      refine lv_aload_n hx hb dX8_waits_18 rfl (lv_at hl 0 rfl) ?_
      obtain ⟨r_10, e_9, h⟩ := bo_s h
      refine x_goi X hS (x_runV (As := []) (rest := []) X gM_ok hP hS (ctX8_isOver l D c3 ad w _ _ e_9) (cwV 0 hts gX8_waits_X8_isOver rfl rfl rfl (by decide +kernel) ⟨by decide, by decide⟩) (gM0 c3 ad w) rfl rfl rfl hl.1 rfl (Nat.le_of_ble_eq_true rfl) dX8_waits_19) (fun H locs hP hS => ?_)
      refine lv_if_eq (tgt := 28) hx hb dX8_waits_22 (by decide) (fun c_12 => ?_) (fun c_12 => ?_)
      · replace h := it_p c_12 h
        refine lv_aload_n hx hb dX8_waits_28 rfl (lv_at hl 0 rfl) ?_
        refine lv_iconst (v := 0) hx hb dX8_waits_29 (by decide) ?_
        refine lv_iload_n hx hb dX8_waits_30 rfl (lv_at hl 2 rfl) ?_
        obtain ⟨r_14, e_13, h⟩ := bo_s h
        refine x_goi X hS (x_runV (As := [.int 0, .int x2]) (rest := []) X gM_ok hP hS (ctX8_nearOf l D c3 ad w _ 0 x2 _ e_13) (cwV 2 hts gX8_waits_X8_nearOf rfl rfl rfl (by decide +kernel) ⟨by decide, by decide⟩) (gM0 c3 ad w) rfl rfl rfl hl.1 rfl (Nat.le_of_ble_eq_true rfl) dX8_waits_31) (fun H locs hP hS => ?_)
        refine lv_istore_n (lv' := [(3, .int r_14), (0, .ref (ad 0)), (1, .int x1), (2, .int x2)]) hx hb dX8_waits_34 rfl hl (by decide) rfl (fun ls hl => ?_)
        refine lv_aload_n hx hb dX8_waits_35 rfl (lv_at hl 1 rfl) ?_
        refine x_get (rest := []) X hP (gM0 c3 ad w) rfl iwX8_waits_X8 0 (by decide) lkX8_waits_7 rfl dX8_waits_36 ?_
        refine lv_iconst (v := 2) hx hb dX8_waits_39 (by decide) ?_
        refine x_ialdL (j := 2) X hP (gM1 c3 ad w) (by decide) rfl dX8_waits_40 ?_
        refine lv_iload_n hx hb dX8_waits_41 rfl (lv_at hl 0 rfl) ?_
        refine lv_iadd hx hb dX8_waits_42 ?_
        refine lv_aload_n hx hb dX8_waits_43 rfl (lv_at hl 1 rfl) ?_
        refine x_get (rest := [.int ((w.1 1 2) + r_14)]) X hP (gM0 c3 ad w) rfl iwX8_waits_X8 2 (by decide) lkX8_waits_13 rfl dX8_waits_44 ?_
        refine lv_iload_n hx hb dX8_waits_47 rfl (lv_at hl 2 rfl) ?_
        obtain ⟨g_16, h⟩ := gd_s h
        refine x_iald X hP (gM2 c3 ad w) g_16 dX8_waits_48 ?_
        refine lv_isub hx hb dX8_waits_49 ?_
        refine x_nmi h (fun x4_17 h => ?_)
        refine lv_istore (lv' := [(4, .int x4_17), (3, .int r_14), (0, .ref (ad 0)), (1, .int x1), (2, .int x2)]) hx hb dX8_waits_50 hl (by decide) rfl (fun ls hl => ?_)
        refine lv_iload_n hx hb dX8_waits_52 rfl (lv_at hl 1 rfl) ?_
        refine lv_aload_n hx hb dX8_waits_53 rfl (lv_at hl 2 rfl) ?_
        refine x_get (rest := [.int r_14]) X hP (gM0 c3 ad w) rfl iwX8_waits_X8 2 (by decide) lkX8_waits_13 rfl dX8_waits_54 ?_
        refine lv_iload_n hx hb dX8_waits_57 rfl (lv_at hl 3 rfl) ?_
        refine x_iald X hP (gM2 c3 ad w) g_16 dX8_waits_58 ?_
        refine lv_icmp_le (tgt := 67) hx hb dX8_waits_59 (by decide) (fun c_18 => ?_) (fun c_18 => ?_)
        · replace h := it_p c_18 h
          refine lv_iload hx hb dX8_waits_67 (lv_at hl 0 rfl) ?_
          refine lv_if_ge (tgt := 76) hx hb dX8_waits_69 (by decide) (fun c_19 => ?_) (fun c_19 => ?_)
          · replace h := it_p c_19 h
            refine lv_iload hx hb dX8_waits_76 (lv_at hl 0 rfl) ?_
            obtain rfl := Option.some.inj h
            exact hret _ _ _ _ hP hS dX8_waits_78
          · replace h := it_n c_19 h
            refine lv_iconst (v := 0) hx hb dX8_waits_72 (by decide) ?_
            refine lv_goto (tgt := 78) hx hb dX8_waits_73 (by decide) ?_
            obtain rfl := Option.some.inj h
            exact hret _ _ _ _ hP hS dX8_waits_78
        · replace h := it_n c_18 h
          refine lv_bipush (v := (-9)) hx hb dX8_waits_62 (by decide) ?_
          refine lv_goto (tgt := 78) hx hb dX8_waits_64 (by decide) ?_
          obtain rfl := Option.some.inj h
          exact hret _ _ _ _ hP hS dX8_waits_78
      · replace h := it_n c_12 h
        refine lv_bipush (v := (-4)) hx hb dX8_waits_25 (by decide) ?_
        obtain rfl := Option.some.inj h
        exact hret _ _ _ _ hP hS dX8_waits_27
    · replace h := it_p c_8 h
      refine lv_iconst (v := (-1)) hx hb dX8_waits_16 (by decide) ?_
      obtain rfl := Option.some.inj h
      exact hret _ _ _ _ hP hS dX8_waits_17
def fX8_waits (x1 : Int32) (x2 : Int32) (w : Mm) : Option (Int32) := fX8_waits_E x1 x2 w
theorem ctX8_waits (l : Launch) (D : va_G) (c3 : C3) (ad : Nat → Nat) (w : Mm) (sz : Nat) (x1 : Int32) (x2 : Int32) (r : Int32) (h : fX8_waits x1 x2 w = some r) : Ci l yX8_waits wsX8_waits rmX8_waits D c3 (encM c3 ad) gM [.ref (ad 0), .int x1, .int x2] w sz r w := by
  refine Ci.of (cc := cX8_waits) (maxL := 5) (encM_ok c3 ad) (by decide) rfl (Nat.le_of_ble_eq_true rfl) ?_
  intro p e s m below meth c A Q ls X hret hP hS hl
  exact bX8_waits_E X hret x1 x2 _ _ ls hP hS hl h
theorem iwX8_power_X8 : ∀ w ∈ wsX80, w ∈ wsX8_power := fun _ h => List.mem_cons_of_mem _ (List.mem_append_right _ h)
theorem lkX8_power_167 : Cond.fieldLink RX8 167 "StuckDoorModel" "sayings" "I" ∈ wsX8_power := by decide +kernel
def rmX8_power : Room := { frames := 0, cells := 0, slots := 0, locals := 0 }
def fX8_power_4 (x1 : Int32) (w : Mm) : Nat → Int32 → Int32 → Option (Int32)
  | 0, _, _ => none
  | n + 1, x2, x3 => (if x1 ≤ x3 then some x2 else nm (x2 * ((w.1 0 3) + 1)) (fun x2_2 => fX8_power_4 x1 w n x2_2 (x3 + 1)))
set_option maxRecDepth 20000 in
theorem bX8_power_4 {p : Program} {l : Launch} {e : Env} {s : State} {m : MethodId} {args : Array Value} {below : List Frame} {meth : Method} {c : Code} {Q : State → Prop} {D : va_G} {c3 : C3} {ad : Nat → Nat} {A : Nat → Prop} {r : Int32} {w : Mm} (X : Cx p s m args c cX8_power 4 RX8 wsX8_power D c3 (encM c3 ad) gM A) (hret : Ri p l e (rmX8_power) s m args below meth c Q cX8_power D (encM c3 ad) A r w) : ∀ (x1 : Int32) (n : Nat) (x2 : Int32) (x3 : Int32) (H : Heap) (locs : List Loc) (ls : Array Slot), va_P D vwCl ((encM c3 ad) w) H → va_S A s.heap H locs → lv_has ls 4 [(0, .ref (ad 0)), (1, .int x1), (2, .int x2), (3, .int x3)] → fX8_power_4 x1 w n x2 x3 = some r → W p l e (rmX8_power) s m args below meth c H locs 0 0 Q (F0 m 4 ls []) := by
  have hx := X.1
  have hb := X.2.1
  have hml := X.2.2.1
  have hown := X.2.2.2.1
  have hts := X.2.2.2.2.1
  intro x1 n
  induction n with
  | zero =>
    intro x2 x3 H locs ls hP hS hl h
    exact absurd h (by simp [fX8_power_4])
  | succ n ih =>
    intro x2 x3 H locs ls hP hS hl h
    rw [fX8_power_4] at h
    refine lv_iload_n hx hb dX8_power_4 rfl (lv_at hl 3 rfl) ?_
    refine lv_iload_n hx hb dX8_power_5 rfl (lv_at hl 1 rfl) ?_
    refine lv_icmp_ge (tgt := 24) hx hb dX8_power_6 (by decide) (fun c_1 => ?_) (fun c_1 => ?_)
    · replace h := it_p c_1 h
      refine lv_iload_n hx hb dX8_power_24 rfl (lv_at hl 2 rfl) ?_
      obtain rfl := Option.some.inj h
      exact hret _ _ _ _ hP hS dX8_power_25
    · replace h := it_n c_1 h
      refine lv_iload_n hx hb dX8_power_9 rfl (lv_at hl 2 rfl) ?_
      refine lv_aload_n hx hb dX8_power_10 rfl (lv_at hl 0 rfl) ?_
      refine x_get (rest := [.int x2]) X hP (gM0 c3 ad w) rfl iwX8_power_X8 3 (by decide) lkX8_power_167 rfl dX8_power_11 ?_
      refine lv_iconst (v := 1) hx hb dX8_power_14 (by decide) ?_
      refine lv_iadd hx hb dX8_power_15 ?_
      refine lv_imul hx hb dX8_power_16 ?_
      refine x_nmi h (fun x2_2 h => ?_)
      refine lv_istore_n (lv' := [(2, .int x2_2), (0, .ref (ad 0)), (1, .int x1), (3, .int x3)]) hx hb dX8_power_17 rfl hl (by decide) rfl (fun ls hl => ?_)
      refine lv_iinc (v := (x3 + 1)) (lv' := [(3, .int (x3 + 1)), (2, .int x2_2), (0, .ref (ad 0)), (1, .int x1)]) hx hb dX8_power_18 hl (k := 3) rfl rfl (by decide) rfl (fun ls hl => ?_)
      refine lv_goto (tgt := 4) hx hb dX8_power_21 (by decide) ?_
      exact ih x2_2 (x3 + 1) _ _ _ hP hS (lv_sub hl [2, 3, 1, 0] rfl) h
def fX8_power_E (x1 : Int32) (w : Mm) : Option (Int32) := fX8_power_4 x1 w FU 1 0
set_option maxRecDepth 20000 in
theorem bX8_power_E {p : Program} {l : Launch} {e : Env} {s : State} {m : MethodId} {args : Array Value} {below : List Frame} {meth : Method} {c : Code} {Q : State → Prop} {D : va_G} {c3 : C3} {ad : Nat → Nat} {A : Nat → Prop} {r : Int32} {w : Mm} (X : Cx p s m args c cX8_power 4 RX8 wsX8_power D c3 (encM c3 ad) gM A) (hret : Ri p l e (rmX8_power) s m args below meth c Q cX8_power D (encM c3 ad) A r w) : ∀ (x1 : Int32) (H : Heap) (locs : List Loc) (ls : Array Slot), va_P D vwCl ((encM c3 ad) w) H → va_S A s.heap H locs → lv_has ls 4 [(0, .ref (ad 0)), (1, .int x1)] → fX8_power_E x1 w = some r → W p l e (rmX8_power) s m args below meth c H locs 0 0 Q (F0 m 0 ls []) := by
  have hx := X.1
  have hb := X.2.1
  have hml := X.2.2.1
  have hown := X.2.2.2.1
  have hts := X.2.2.2.2.1
  intro x1 H locs ls hP hS hl h
  unfold fX8_power_E at h
  refine lv_iconst (v := 1) hx hb dX8_power_0 (by decide) ?_
  refine lv_istore_n (lv' := [(2, .int 1), (0, .ref (ad 0)), (1, .int x1)]) hx hb dX8_power_1 rfl hl (by decide) rfl (fun ls hl => ?_)
  refine lv_iconst (v := 0) hx hb dX8_power_2 (by decide) ?_
  refine lv_istore_n (lv' := [(3, .int 0), (2, .int 1), (0, .ref (ad 0)), (1, .int x1)]) hx hb dX8_power_3 rfl hl (by decide) rfl (fun ls hl => ?_)
  exact bX8_power_4 X hret x1 FU 1 0 _ _ _ hP hS (lv_sub hl [2, 3, 1, 0] rfl) h
def fX8_power (x1 : Int32) (w : Mm) : Option (Int32) := fX8_power_E x1 w
theorem ctX8_power (l : Launch) (D : va_G) (c3 : C3) (ad : Nat → Nat) (w : Mm) (sz : Nat) (x1 : Int32) (r : Int32) (h : fX8_power x1 w = some r) : Ci l yX8_power wsX8_power rmX8_power D c3 (encM c3 ad) gM [.ref (ad 0), .int x1] w sz r w := by
  refine Ci.of (cc := cX8_power) (maxL := 4) (encM_ok c3 ad) (by decide) rfl (Nat.le_of_ble_eq_true rfl) ?_
  intro p e s m below meth c A Q ls X hret hP hS hl
  exact bX8_power_E X hret x1 _ _ ls hP hS hl h
theorem iwX8_isWell_X8 : ∀ w ∈ wsX80, w ∈ wsX8_isWell := fun _ h => List.mem_cons_of_mem _ (List.mem_append_right _ h)
theorem lkX8_isWell_7 : Cond.fieldLink RX8 7 "StuckDoorModel" "row" "[I" ∈ wsX8_isWell := by decide +kernel
theorem lkX8_isWell_164 : Cond.fieldLink RX8 164 "StuckDoorModel" "people" "I" ∈ wsX8_isWell := by decide +kernel
theorem lkX8_isWell_167 : Cond.fieldLink RX8 167 "StuckDoorModel" "sayings" "I" ∈ wsX8_isWell := by decide +kernel
def rmX8_isWell : Room := { frames := 4, cells := 0, slots := 0, locals := 87 }
def fX8_isWell_69 (k7 : Int32 → Mm → Option (Int32 × Mm)) (x1 : Int32) (x2 : Int32) (x3 : Int32) (x4 : Int32) (w : Mm) : Option (Int32 × Mm) := (if (w.1 1 1648) = (-9) then k7 (x4 + 1) w else some (0, w))
set_option maxRecDepth 20000 in
theorem bX8_isWell_69 {p : Program} {l : Launch} {e : Env} {s : State} {m : MethodId} {args : Array Value} {below : List Frame} {meth : Method} {c : Code} {Q : State → Prop} {D : va_G} {c3 : C3} {ad : Nat → Nat} {A : Nat → Prop} {r : Int32} {w' : Mm} (X : Cx p s m args c cX8_isWell 6 RX8 wsX8_isWell D c3 (encM c3 ad) gM A) (hret : Rz p l e (rmX8_isWell) s m args below meth c Q cX8_isWell D (encM c3 ad) A r w') {x1 : Int32} {x2 : Int32} {x3 : Int32} {k7 : Int32 → Mm → Option (Int32 × Mm)} (hk7 : ∀ (x4 : Int32) (w : Mm) (H : Heap) (locs : List Loc) (ls : Array Slot), va_P D vwCl ((encM c3 ad) w) H → va_S A s.heap H locs → lv_has ls 6 [(0, .ref (ad 0)), (1, .int x1), (2, .int x2), (3, .int x3), (4, .int x4)] → k7 x4 w = some (r, w') → W p l e (rmX8_isWell) s m args below meth c H locs 0 0 Q (F0 m 7 ls [])) : ∀ (x4 : Int32) (w : Mm) (H : Heap) (locs : List Loc) (ls : Array Slot), va_P D vwCl ((encM c3 ad) w) H → va_S A s.heap H locs → lv_has ls 6 [(0, .ref (ad 0)), (1, .int x1), (2, .int x2), (3, .int x3), (4, .int x4)] → fX8_isWell_69 k7 x1 x2 x3 x4 w = some (r, w') → W p l e (rmX8_isWell) s m args below meth c H locs 0 0 Q (F0 m 69 ls []) := by
  have hx := X.1
  have hb := X.2.1
  have hml := X.2.2.1
  have hown := X.2.2.2.1
  have hts := X.2.2.2.2.1
  intro x4 w H locs ls hP hS hl h
  unfold fX8_isWell_69 at h
  refine lv_aload_n hx hb dX8_isWell_69 rfl (lv_at hl 0 rfl) ?_
  refine x_get (rest := []) X hP (gM0 c3 ad w) rfl iwX8_isWell_X8 0 (by decide) lkX8_isWell_7 rfl dX8_isWell_70 ?_
  refine lv_sipush (v := 1648) hx hb dX8_isWell_73 (by decide) ?_
  refine x_ialdL (j := 1648) X hP (gM1 c3 ad w) (by decide) rfl dX8_isWell_76 ?_
  refine lv_bipush (v := (-9)) hx hb dX8_isWell_77 (by decide) ?_
  refine lv_icmp_eq (tgt := 84) hx hb dX8_isWell_79 (by decide) (fun c_1 => ?_) (fun c_1 => ?_)
  · replace h := it_p c_1 h
    refine lv_iinc (v := (x4 + 1)) (lv' := [(4, .int (x4 + 1)), (0, .ref (ad 0)), (1, .int x1), (2, .int x2), (3, .int x3)]) hx hb dX8_isWell_84 hl (k := 4) rfl rfl (by decide) rfl (fun ls hl => ?_)
    refine lv_goto (tgt := 7) hx hb dX8_isWell_87 (by decide) ?_
    exact hk7 (x4 + 1) w _ _ _ hP hS (lv_sub hl [1, 2, 3, 4, 0] rfl) h
  · replace h := it_n c_1 h
    refine lv_iconst (v := 0) hx hb dX8_isWell_82 (by decide) ?_
    obtain ⟨rfl, rfl⟩ := Prod.mk.inj (Option.some.inj h)
    exact hret (Or.inl rfl) _ _ _ _ hP hS dX8_isWell_83
def fX8_isWell_7 (x1 : Int32) (x2 : Int32) (x3 : Int32) : Nat → Int32 → Mm → Option (Int32 × Mm)
  | 0, _, _ => none
  | n + 1, x4, w => (if x2 ≤ x4 then some (1, w) else bo (fX8_power ((x2 - 1) - x4) w) (fun r_4 => gd (¬ r_4 = 0) (gd (¬ ((w.1 0 3) + 1) = 0) (nm ((x3 / r_4) - (x3 / r_4) / ((w.1 0 3) + 1) * ((w.1 0 3) + 1)) (fun x5_8 => (if x5_8 = 0 then bo (fX8_eases 1644 w) (fun w_16 => fX8_isWell_69 (fX8_isWell_7 x1 x2 x3 n) x1 x2 x3 x4 w_16) else gd (¬ (w.1 0 1) = 0) (bo (fX8_says 1644 ((x1 + x4) - (x1 + x4) / (w.1 0 1) * (w.1 0 1)) (x5_8 - 1) w) (fun w_13 => fX8_isWell_69 (fX8_isWell_7 x1 x2 x3 n) x1 x2 x3 x4 w_13))))))))
set_option maxRecDepth 20000 in
theorem bX8_isWell_7 {p : Program} {l : Launch} {e : Env} {s : State} {m : MethodId} {args : Array Value} {below : List Frame} {meth : Method} {c : Code} {Q : State → Prop} {D : va_G} {c3 : C3} {ad : Nat → Nat} {A : Nat → Prop} {r : Int32} {w' : Mm} (X : Cx p s m args c cX8_isWell 6 RX8 wsX8_isWell D c3 (encM c3 ad) gM A) (hret : Rz p l e (rmX8_isWell) s m args below meth c Q cX8_isWell D (encM c3 ad) A r w') : ∀ (x1 : Int32) (x2 : Int32) (x3 : Int32) (n : Nat) (x4 : Int32) (w : Mm) (H : Heap) (locs : List Loc) (ls : Array Slot), va_P D vwCl ((encM c3 ad) w) H → va_S A s.heap H locs → lv_has ls 6 [(0, .ref (ad 0)), (1, .int x1), (2, .int x2), (3, .int x3), (4, .int x4)] → fX8_isWell_7 x1 x2 x3 n x4 w = some (r, w') → W p l e (rmX8_isWell) s m args below meth c H locs 0 0 Q (F0 m 7 ls []) := by
  have hx := X.1
  have hb := X.2.1
  have hml := X.2.2.1
  have hown := X.2.2.2.1
  have hts := X.2.2.2.2.1
  intro x1 x2 x3 n
  induction n with
  | zero =>
    intro x4 w H locs ls hP hS hl h
    exact absurd h (by simp [fX8_isWell_7])
  | succ n ih =>
    intro x4 w H locs ls hP hS hl h
    rw [fX8_isWell_7] at h
    refine lv_iload hx hb dX8_isWell_7 (lv_at hl 4 rfl) ?_
    refine lv_iload_n hx hb dX8_isWell_9 rfl (lv_at hl 2 rfl) ?_
    refine lv_icmp_ge (tgt := 90) hx hb dX8_isWell_10 (by decide) (fun c_2 => ?_) (fun c_2 => ?_)
    · replace h := it_p c_2 h
      refine lv_iconst (v := 1) hx hb dX8_isWell_90 (by decide) ?_
      obtain ⟨rfl, rfl⟩ := Prod.mk.inj (Option.some.inj h)
      exact hret (Or.inr rfl) _ _ _ _ hP hS dX8_isWell_91
    · replace h := it_n c_2 h
      refine lv_iload_n hx hb dX8_isWell_13 rfl (lv_at hl 3 rfl) ?_
      refine lv_aload_n hx hb dX8_isWell_14 rfl (lv_at hl 0 rfl) ?_
      refine lv_iload_n hx hb dX8_isWell_15 rfl (lv_at hl 2 rfl) ?_
      refine lv_iconst (v := 1) hx hb dX8_isWell_16 (by decide) ?_
      refine lv_isub hx hb dX8_isWell_17 ?_
      refine lv_iload hx hb dX8_isWell_18 (lv_at hl 4 rfl) ?_
      refine lv_isub hx hb dX8_isWell_20 ?_
      obtain ⟨r_4, e_3, h⟩ := bo_s h
      refine x_goi X hS (x_runV (As := [.int ((x2 - 1) - x4)]) (rest := [.int x3]) X gM_ok hP hS (ctX8_power l D c3 ad w _ ((x2 - 1) - x4) _ e_3) (cwV 1 hts gX8_isWell_X8_power rfl rfl rfl (by decide +kernel) ⟨by decide, by decide⟩) (gM0 c3 ad w) rfl rfl rfl hl.1 rfl (Nat.le_of_ble_eq_true rfl) dX8_isWell_21) (fun H locs hP hS => ?_)
      obtain ⟨g_6, h⟩ := gd_s h
      refine lv_idiv hx hb dX8_isWell_24 g_6 ?_
      refine lv_aload_n hx hb dX8_isWell_25 rfl (lv_at hl 0 rfl) ?_
      refine x_get (rest := [.int (x3 / r_4)]) X hP (gM0 c3 ad w) rfl iwX8_isWell_X8 3 (by decide) lkX8_isWell_167 rfl dX8_isWell_26 ?_
      refine lv_iconst (v := 1) hx hb dX8_isWell_29 (by decide) ?_
      refine lv_iadd hx hb dX8_isWell_30 ?_
      obtain ⟨g_7, h⟩ := gd_s h
      refine lv_irem hx hb dX8_isWell_31 g_7 ?_
      refine x_nmi h (fun x5_8 h => ?_)
      refine lv_istore (lv' := [(5, .int x5_8), (0, .ref (ad 0)), (1, .int x1), (2, .int x2), (3, .int x3), (4, .int x4)]) hx hb dX8_isWell_32 hl (by decide) rfl (fun ls hl => ?_)
      refine lv_iload hx hb dX8_isWell_34 (lv_at hl 0 rfl) ?_
      refine lv_if_ne (tgt := 49) hx hb dX8_isWell_36 (by decide) (fun c_9 => ?_) (fun c_9 => ?_)
      · replace h := it_n c_9 h
        refine lv_aload_n hx hb dX8_isWell_49 rfl (lv_at hl 1 rfl) ?_
        refine lv_sipush (v := 1644) hx hb dX8_isWell_50 (by decide) ?_
        refine lv_iload_n hx hb dX8_isWell_53 rfl (lv_at hl 2 rfl) ?_
        refine lv_iload hx hb dX8_isWell_54 (lv_at hl 5 rfl) ?_
        refine lv_iadd hx hb dX8_isWell_56 ?_
        refine lv_aload_n hx hb dX8_isWell_57 rfl (lv_at hl 1 rfl) ?_
        refine x_get (rest := [.int (x1 + x4), .int 1644, .ref (ad 0)]) X hP (gM0 c3 ad w) rfl iwX8_isWell_X8 1 (by decide) lkX8_isWell_164 rfl dX8_isWell_58 ?_
        obtain ⟨g_10, h⟩ := gd_s h
        refine lv_irem hx hb dX8_isWell_61 g_10 ?_
        refine lv_iload hx hb dX8_isWell_62 (lv_at hl 0 rfl) ?_
        refine lv_iconst (v := 1) hx hb dX8_isWell_64 (by decide) ?_
        refine lv_isub hx hb dX8_isWell_65 ?_
        obtain ⟨w_13, e_11, h⟩ := bo_s h
        refine x_gov X hS (x_runV (As := [.int 1644, .int ((x1 + x4) - (x1 + x4) / (w.1 0 1) * (w.1 0 1)), .int (x5_8 - 1)]) (rest := []) X gM_ok hP hS (ctX8_says l D c3 ad w _ 1644 ((x1 + x4) - (x1 + x4) / (w.1 0 1) * (w.1 0 1)) (x5_8 - 1) _ e_11) (cwV 3 hts gX8_isWell_X8_says rfl rfl rfl (by decide +kernel) ⟨by decide, by decide⟩) (gM0 c3 ad w) rfl rfl rfl hl.1 rfl (Nat.le_of_ble_eq_true rfl) dX8_isWell_66) (fun H locs hP hS => ?_)
        exact bX8_isWell_69 (x1 := x1) (x2 := x2) (x3 := x3) (k7 := (fX8_isWell_7 x1 x2 x3 n)) X hret ih x4 w_13 _ _ _ hP hS (lv_sub hl [1, 2, 3, 4, 5] rfl) h
      · replace h := it_p c_9 h
        refine lv_aload_n hx hb dX8_isWell_39 rfl (lv_at hl 1 rfl) ?_
        refine lv_sipush (v := 1644) hx hb dX8_isWell_40 (by decide) ?_
        obtain ⟨w_16, e_14, h⟩ := bo_s h
        refine x_gov X hS (x_runV (As := [.int 1644]) (rest := []) X gM_ok hP hS (ctX8_eases l D c3 ad w _ 1644 _ e_14) (cwV 1 hts gX8_isWell_X8_eases rfl rfl rfl (by decide +kernel) ⟨by decide, by decide⟩) (gM0 c3 ad w) rfl rfl rfl hl.1 rfl (Nat.le_of_ble_eq_true rfl) dX8_isWell_43) (fun H locs hP hS => ?_)
        refine lv_goto (tgt := 69) hx hb dX8_isWell_46 (by decide) ?_
        exact bX8_isWell_69 (x1 := x1) (x2 := x2) (x3 := x3) (k7 := (fX8_isWell_7 x1 x2 x3 n)) X hret ih x4 w_16 _ _ _ hP hS (lv_sub hl [1, 2, 3, 4, 5] rfl) h
def fX8_isWell_E (x1 : Int32) (x2 : Int32) (x3 : Int32) (w : Mm) : Option (Int32 × Mm) := bo (fX8_layTried w) (fun w_19 => fX8_isWell_7 x1 x2 x3 FU 0 w_19)
set_option maxRecDepth 20000 in
theorem bX8_isWell_E {p : Program} {l : Launch} {e : Env} {s : State} {m : MethodId} {args : Array Value} {below : List Frame} {meth : Method} {c : Code} {Q : State → Prop} {D : va_G} {c3 : C3} {ad : Nat → Nat} {A : Nat → Prop} {r : Int32} {w' : Mm} (X : Cx p s m args c cX8_isWell 6 RX8 wsX8_isWell D c3 (encM c3 ad) gM A) (hret : Rz p l e (rmX8_isWell) s m args below meth c Q cX8_isWell D (encM c3 ad) A r w') : ∀ (x1 : Int32) (x2 : Int32) (x3 : Int32) (w : Mm) (H : Heap) (locs : List Loc) (ls : Array Slot), va_P D vwCl ((encM c3 ad) w) H → va_S A s.heap H locs → lv_has ls 6 [(0, .ref (ad 0)), (1, .int x1), (2, .int x2), (3, .int x3)] → fX8_isWell_E x1 x2 x3 w = some (r, w') → W p l e (rmX8_isWell) s m args below meth c H locs 0 0 Q (F0 m 0 ls []) := by
  have hx := X.1
  have hb := X.2.1
  have hml := X.2.2.1
  have hown := X.2.2.2.1
  have hts := X.2.2.2.2.1
  intro x1 x2 x3 w H locs ls hP hS hl h
  unfold fX8_isWell_E at h
  refine lv_aload_n hx hb dX8_isWell_0 rfl (lv_at hl 0 rfl) ?_
  obtain ⟨w_19, e_17, h⟩ := bo_s h
  refine x_gov X hS (x_runV (As := []) (rest := []) X gM_ok hP hS (ctX8_layTried l D c3 ad w _ _ e_17) (cwV 0 hts gX8_isWell_X8_layTried rfl rfl rfl (by decide +kernel) ⟨by decide, by decide⟩) (gM0 c3 ad w) rfl rfl rfl hl.1 rfl (Nat.le_of_ble_eq_true rfl) dX8_isWell_1) (fun H locs hP hS => ?_)
  refine lv_iconst (v := 0) hx hb dX8_isWell_4 (by decide) ?_
  refine lv_istore (lv' := [(4, .int 0), (0, .ref (ad 0)), (1, .int x1), (2, .int x2), (3, .int x3)]) hx hb dX8_isWell_5 hl (by decide) rfl (fun ls hl => ?_)
  exact bX8_isWell_7 X hret x1 x2 x3 FU 0 w_19 _ _ _ hP hS (lv_sub hl [1, 2, 3, 4, 0] rfl) h
def fX8_isWell (x1 : Int32) (x2 : Int32) (x3 : Int32) (w : Mm) : Option (Int32 × Mm) := fX8_isWell_E x1 x2 x3 w
theorem ctX8_isWell (l : Launch) (D : va_G) (c3 : C3) (ad : Nat → Nat) (w : Mm) (sz : Nat) (x1 : Int32) (x2 : Int32) (x3 : Int32) (r : Int32) (w' : Mm) (h : fX8_isWell x1 x2 x3 w = some (r, w')) : Ci l yX8_isWell wsX8_isWell rmX8_isWell D c3 (encM c3 ad) gM [.ref (ad 0), .int x1, .int x2, .int x3] w sz r w' := by
  refine Ci.ofz (cc := cX8_isWell) (maxL := 6) (encM_ok c3 ad) (by decide) rfl (Nat.le_of_ble_eq_true rfl) ?_
  intro p e s m below meth c A Q ls X hret hP hS hl
  exact bX8_isWell_E X hret x1 x2 x3 w _ _ ls hP hS hl h
theorem iwX8_settles_X8 : ∀ w ∈ wsX80, w ∈ wsX8_settles := fun _ h => List.mem_cons_of_mem _ (List.mem_append_right _ h)
theorem lkX8_settles_7 : Cond.fieldLink RX8 7 "StuckDoorModel" "row" "[I" ∈ wsX8_settles := by decide +kernel
def rmX8_settles : Room := { frames := 5, cells := 0, slots := 0, locals := 112 }
def fX8_settles_E (x1 : Int32) (x2 : Int32) (x3 : Int32) (w : Mm) : Option (Int32 × Mm) := bd (fX8_isWell x1 x2 x3 w) (fun r_2 w_3 => (if r_2 = 0 then some (0, w_3) else (if (w_3.1 1 1647) = 7 then some (1, w_3) else some (0, w_3))))
set_option maxRecDepth 20000 in
theorem bX8_settles_E {p : Program} {l : Launch} {e : Env} {s : State} {m : MethodId} {args : Array Value} {below : List Frame} {meth : Method} {c : Code} {Q : State → Prop} {D : va_G} {c3 : C3} {ad : Nat → Nat} {A : Nat → Prop} {r : Int32} {w' : Mm} (X : Cx p s m args c cX8_settles 4 RX8 wsX8_settles D c3 (encM c3 ad) gM A) (hret : Rz p l e (rmX8_settles) s m args below meth c Q cX8_settles D (encM c3 ad) A r w') : ∀ (x1 : Int32) (x2 : Int32) (x3 : Int32) (w : Mm) (H : Heap) (locs : List Loc) (ls : Array Slot), va_P D vwCl ((encM c3 ad) w) H → va_S A s.heap H locs → lv_has ls 4 [(0, .ref (ad 0)), (1, .int x1), (2, .int x2), (3, .int x3)] → fX8_settles_E x1 x2 x3 w = some (r, w') → W p l e (rmX8_settles) s m args below meth c H locs 0 0 Q (F0 m 0 ls []) := by
  have hx := X.1
  have hb := X.2.1
  have hml := X.2.2.1
  have hown := X.2.2.2.1
  have hts := X.2.2.2.2.1
  intro x1 x2 x3 w H locs ls hP hS hl h
  unfold fX8_settles_E at h
  refine lv_aload_n hx hb dX8_settles_0 rfl (lv_at hl 0 rfl) ?_
  refine lv_iload_n hx hb dX8_settles_1 rfl (lv_at hl 1 rfl) ?_
  refine lv_iload_n hx hb dX8_settles_2 rfl (lv_at hl 2 rfl) ?_
  refine lv_iload_n hx hb dX8_settles_3 rfl (lv_at hl 3 rfl) ?_
  obtain ⟨r_2, w_3, e_1, h⟩ := bd_s h
  refine x_goi X hS (x_runV (As := [.int x1, .int x2, .int x3]) (rest := []) X gM_ok hP hS (ctX8_isWell l D c3 ad w _ x1 x2 x3 _ _ e_1) (cwV 3 hts gX8_settles_X8_isWell rfl rfl rfl (by decide +kernel) ⟨by decide, by decide⟩) (gM0 c3 ad w) rfl rfl rfl hl.1 rfl (Nat.le_of_ble_eq_true rfl) dX8_settles_4) (fun H locs hP hS => ?_)
  refine lv_if_eq (tgt := 27) hx hb dX8_settles_7 (by decide) (fun c_4 => ?_) (fun c_4 => ?_)
  · replace h := it_p c_4 h
    refine lv_iconst (v := 0) hx hb dX8_settles_27 (by decide) ?_
    obtain ⟨rfl, rfl⟩ := Prod.mk.inj (Option.some.inj h)
    exact hret (Or.inl rfl) _ _ _ _ hP hS dX8_settles_28
  · replace h := it_n c_4 h
    refine lv_aload_n hx hb dX8_settles_10 rfl (lv_at hl 0 rfl) ?_
    refine x_get (rest := []) X hP (gM0 c3 ad w_3) rfl iwX8_settles_X8 0 (by decide) lkX8_settles_7 rfl dX8_settles_11 ?_
    refine lv_sipush (v := 1647) hx hb dX8_settles_14 (by decide) ?_
    refine x_ialdL (j := 1647) X hP (gM1 c3 ad w_3) (by decide) rfl dX8_settles_17 ?_
    refine lv_bipush (v := 7) hx hb dX8_settles_18 (by decide) ?_
    refine lv_icmp_ne (tgt := 27) hx hb dX8_settles_20 (by decide) (fun c_5 => ?_) (fun c_5 => ?_)
    · replace h := it_n c_5 h
      refine lv_iconst (v := 0) hx hb dX8_settles_27 (by decide) ?_
      obtain ⟨rfl, rfl⟩ := Prod.mk.inj (Option.some.inj h)
      exact hret (Or.inl rfl) _ _ _ _ hP hS dX8_settles_28
    · replace h := it_p c_5 h
      refine lv_iconst (v := 1) hx hb dX8_settles_23 (by decide) ?_
      refine lv_goto (tgt := 28) hx hb dX8_settles_24 (by decide) ?_
      obtain ⟨rfl, rfl⟩ := Prod.mk.inj (Option.some.inj h)
      exact hret (Or.inr rfl) _ _ _ _ hP hS dX8_settles_28
def fX8_settles (x1 : Int32) (x2 : Int32) (x3 : Int32) (w : Mm) : Option (Int32 × Mm) := fX8_settles_E x1 x2 x3 w
theorem ctX8_settles (l : Launch) (D : va_G) (c3 : C3) (ad : Nat → Nat) (w : Mm) (sz : Nat) (x1 : Int32) (x2 : Int32) (x3 : Int32) (r : Int32) (w' : Mm) (h : fX8_settles x1 x2 x3 w = some (r, w')) : Ci l yX8_settles wsX8_settles rmX8_settles D c3 (encM c3 ad) gM [.ref (ad 0), .int x1, .int x2, .int x3] w sz r w' := by
  refine Ci.ofz (cc := cX8_settles) (maxL := 4) (encM_ok c3 ad) (by decide) rfl (Nat.le_of_ble_eq_true rfl) ?_
  intro p e s m below meth c A Q ls X hret hP hS hl
  exact bX8_settles_E X hret x1 x2 x3 w _ _ ls hP hS hl h

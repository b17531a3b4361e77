theorem iwX8_faultOf_X8 : ∀ w ∈ wsX80, w ∈ wsX8_faultOf := fun _ h => List.mem_cons_of_mem _ (List.mem_append_right _ h)
theorem lkX8_faultOf_31 : Cond.fieldLink RX8 31 "StuckDoorModel" "lengths" "[I" ∈ wsX8_faultOf := by decide +kernel
theorem lkX8_faultOf_113 : Cond.fieldLink RX8 113 "StuckDoorModel" "from" "I" ∈ wsX8_faultOf := by decide +kernel
theorem lkX8_faultOf_116 : Cond.fieldLink RX8 116 "StuckDoorModel" "place" "I" ∈ wsX8_faultOf := by decide +kernel
theorem lkX8_faultOf_119 : Cond.fieldLink RX8 119 "StuckDoorModel" "end" "I" ∈ wsX8_faultOf := by decide +kernel
theorem lkX8_faultOf_133 : Cond.fieldLink RX8 133 "StuckDoorModel" "readPeople" "I" ∈ wsX8_faultOf := by decide +kernel
theorem lkX8_faultOf_142 : Cond.fieldLink RX8 142 "StuckDoorModel" "readMany" "I" ∈ wsX8_faultOf := by decide +kernel
theorem lkX8_faultOf_145 : Cond.fieldLink RX8 145 "StuckDoorModel" "readStuck" "I" ∈ wsX8_faultOf := by decide +kernel
def rmX8_faultOf : Room := { frames := 4, cells := 0, slots := 0, locals := 92 }
def fX8_faultOf_114 (w : Mm) : Option (Int32 × Mm) := some ((w.1 0 18), w)
set_option maxRecDepth 20000 in
theorem bX8_faultOf_114 {p : Program} {l : Launch} {e : Env} {s : State} {m : MethodId} {args : Array Value} {below : List Frame} {meth : Method} {c : Code} {Q : State → Prop} {D : va_G} {c3 : C3} {ad : Nat → Nat} {A : Nat → Prop} {r : Int32} {w' : Mm} (X : Cx p s m args c cX8_faultOf 3 RX8 wsX8_faultOf D c3 (encM c3 ad) gM A) (hret : Ri p l e (rmX8_faultOf) s m args below meth c Q cX8_faultOf D (encM c3 ad) A r w') : ∀ (w : Mm) (H : Heap) (locs : List Loc) (ls : Array Slot), va_P D vwCl ((encM c3 ad) w) H → va_S A s.heap H locs → lv_has ls 3 [(0, .ref (ad 0))] → fX8_faultOf_114 w = some (r, w') → W p l e (rmX8_faultOf) s m args below meth c H locs 0 0 Q (F0 m 114 ls []) := by
  have hx := X.1
  have hb := X.2.1
  have hml := X.2.2.1
  have hown := X.2.2.2.1
  have hts := X.2.2.2.2.1
  intro w H locs ls hP hS hl h
  unfold fX8_faultOf_114 at h
  refine lv_aload_n hx hb dX8_faultOf_114 rfl (lv_at hl 0 rfl) ?_
  refine x_get (rest := []) X hP (gM0 c3 ad w) rfl iwX8_faultOf_X8 18 (by decide) lkX8_faultOf_116 rfl dX8_faultOf_115 ?_
  obtain ⟨rfl, rfl⟩ := Prod.mk.inj (Option.some.inj h)
  exact hret _ _ _ _ hP hS dX8_faultOf_118
def fX8_faultOf_98 (x2 : Int32) (w : Mm) : Option (Int32 × Mm) := (if x2 = 0 then fX8_faultOf_114 w else (if (w.1 0 23) ≤ 0 then fX8_faultOf_114 w else some ((-9), w)))
set_option maxRecDepth 20000 in
theorem bX8_faultOf_98 {p : Program} {l : Launch} {e : Env} {s : State} {m : MethodId} {args : Array Value} {below : List Frame} {meth : Method} {c : Code} {Q : State → Prop} {D : va_G} {c3 : C3} {ad : Nat → Nat} {A : Nat → Prop} {r : Int32} {w' : Mm} (X : Cx p s m args c cX8_faultOf 3 RX8 wsX8_faultOf D c3 (encM c3 ad) gM A) (hret : Ri p l e (rmX8_faultOf) s m args below meth c Q cX8_faultOf D (encM c3 ad) A r w') : ∀ (x2 : Int32) (w : Mm) (H : Heap) (locs : List Loc) (ls : Array Slot), va_P D vwCl ((encM c3 ad) w) H → va_S A s.heap H locs → lv_has ls 3 [(0, .ref (ad 0)), (2, .int x2)] → fX8_faultOf_98 x2 w = some (r, w') → W p l e (rmX8_faultOf) s m args below meth c H locs 0 0 Q (F0 m 98 ls []) := by
  have hx := X.1
  have hb := X.2.1
  have hml := X.2.2.1
  have hown := X.2.2.2.1
  have hts := X.2.2.2.2.1
  intro x2 w H locs ls hP hS hl h
  unfold fX8_faultOf_98 at h
  refine lv_iload_n hx hb dX8_faultOf_98 rfl (lv_at hl 1 rfl) ?_
  refine lv_if_eq (tgt := 114) hx hb dX8_faultOf_99 (by decide) (fun c_1 => ?_) (fun c_1 => ?_)
  · replace h := it_p c_1 h
    exact bX8_faultOf_114 X hret w _ _ _ hP hS (lv_sub hl [0] rfl) h
  · replace h := it_n c_1 h
    refine lv_aload_n hx hb dX8_faultOf_102 rfl (lv_at hl 0 rfl) ?_
    refine x_get (rest := []) X hP (gM0 c3 ad w) rfl iwX8_faultOf_X8 23 (by decide) lkX8_faultOf_142 rfl dX8_faultOf_103 ?_
    refine lv_if_le (tgt := 114) hx hb dX8_faultOf_106 (by decide) (fun c_2 => ?_) (fun c_2 => ?_)
    · replace h := it_p c_2 h
      exact bX8_faultOf_114 X hret w _ _ _ hP hS (lv_sub hl [0] rfl) h
    · replace h := it_n c_2 h
      refine lv_bipush (v := (-9)) hx hb dX8_faultOf_109 (by decide) ?_
      refine lv_goto (tgt := 118) hx hb dX8_faultOf_111 (by decide) ?_
      obtain ⟨rfl, rfl⟩ := Prod.mk.inj (Option.some.inj h)
      exact hret _ _ _ _ hP hS dX8_faultOf_118
def fX8_faultOf_86 (k51 : Int32 → Mm → Option (Int32 × Mm)) (z0 : Int32) (w : Mm) : Option (Int32 × Mm) := (if z0 = 0 then k51 z0 w else bo (fX8_skip w) (fun w_6 => k51 z0 w_6))
set_option maxRecDepth 20000 in
theorem bX8_faultOf_86 {p : Program} {l : Launch} {e : Env} {s : State} {m : MethodId} {args : Array Value} {below : List Frame} {meth : Method} {c : Code} {Q : State → Prop} {D : va_G} {c3 : C3} {ad : Nat → Nat} {A : Nat → Prop} {r : Int32} {w' : Mm} (X : Cx p s m args c cX8_faultOf 3 RX8 wsX8_faultOf D c3 (encM c3 ad) gM A) (hret : Ri p l e (rmX8_faultOf) s m args below meth c Q cX8_faultOf D (encM c3 ad) A r w') {k51 : Int32 → Mm → Option (Int32 × Mm)} (hk51 : ∀ (x2 : Int32) (w : Mm) (H : Heap) (locs : List Loc) (ls : Array Slot), va_P D vwCl ((encM c3 ad) w) H → va_S A s.heap H locs → lv_has ls 3 [(0, .ref (ad 0)), (2, .int x2)] → k51 x2 w = some (r, w') → W p l e (rmX8_faultOf) s m args below meth c H locs 0 0 Q (F0 m 51 ls [])) : ∀ (z0 : Int32) (w : Mm) (H : Heap) (locs : List Loc) (ls : Array Slot), va_P D vwCl ((encM c3 ad) w) H → va_S A s.heap H locs → lv_has ls 3 [(0, .ref (ad 0))] → fX8_faultOf_86 k51 z0 w = some (r, w') → W p l e (rmX8_faultOf) s m args below meth c H locs 0 0 Q (F0 m 86 ls [.int z0]) := by
  have hx := X.1
  have hb := X.2.1
  have hml := X.2.2.1
  have hown := X.2.2.2.1
  have hts := X.2.2.2.2.1
  intro z0 w H locs ls hP hS hl h
  unfold fX8_faultOf_86 at h
  refine lv_istore_n (lv' := [(2, .int z0), (0, .ref (ad 0))]) hx hb dX8_faultOf_86 rfl hl (by decide) rfl (fun ls hl => ?_)
  refine lv_iload_n hx hb dX8_faultOf_87 rfl (lv_at hl 0 rfl) ?_
  refine lv_if_eq (tgt := 51) hx hb dX8_faultOf_88 (by decide) (fun c_3 => ?_) (fun c_3 => ?_)
  · replace h := it_p c_3 h
    exact hk51 z0 w _ _ _ hP hS (lv_sub hl [1, 0] rfl) h
  · replace h := it_n c_3 h
    refine lv_aload_n hx hb dX8_faultOf_91 rfl (lv_at hl 1 rfl) ?_
    obtain ⟨w_6, e_4, h⟩ := bo_s h
    refine x_gov X hS (x_runV (As := []) (rest := []) X gM_ok hP hS (ctX8_skip l D c3 ad w _ _ e_4) (cwV 0 hts gX8_faultOf_X8_skip rfl rfl rfl (by decide +kernel) ⟨by decide, by decide⟩) (gM0 c3 ad w) rfl rfl rfl hl.1 rfl (Nat.le_of_ble_eq_true rfl) dX8_faultOf_92) (fun H locs hP hS => ?_)
    refine lv_goto (tgt := 51) hx hb dX8_faultOf_95 (by decide) ?_
    exact hk51 z0 w_6 _ _ _ hP hS (lv_sub hl [1, 0] rfl) h
def fX8_faultOf_51 : Nat → Int32 → Mm → Option (Int32 × Mm)
  | 0, _, _ => none
  | n + 1, x2, w => (if x2 = 0 then fX8_faultOf_98 x2 w else (if (w.1 0 19) ≤ (w.1 0 18) then fX8_faultOf_98 x2 w else bo (fX8_here w) (fun r_10 => (if r_10 = 100 then bd (fX8_readsRoom w) (fun r_17 w_18 => fX8_faultOf_86 (fX8_faultOf_51 n) r_17 w_18) else bd (fX8_readsSaying w) (fun r_14 w_15 => fX8_faultOf_86 (fX8_faultOf_51 n) r_14 w_15)))))
set_option maxRecDepth 20000 in
theorem bX8_faultOf_51 {p : Program} {l : Launch} {e : Env} {s : State} {m : MethodId} {args : Array Value} {below : List Frame} {meth : Method} {c : Code} {Q : State → Prop} {D : va_G} {c3 : C3} {ad : Nat → Nat} {A : Nat → Prop} {r : Int32} {w' : Mm} (X : Cx p s m args c cX8_faultOf 3 RX8 wsX8_faultOf D c3 (encM c3 ad) gM A) (hret : Ri p l e (rmX8_faultOf) s m args below meth c Q cX8_faultOf D (encM c3 ad) A r w') : ∀ (n : Nat) (x2 : Int32) (w : Mm) (H : Heap) (locs : List Loc) (ls : Array Slot), va_P D vwCl ((encM c3 ad) w) H → va_S A s.heap H locs → lv_has ls 3 [(0, .ref (ad 0)), (2, .int x2)] → fX8_faultOf_51 n x2 w = some (r, w') → W p l e (rmX8_faultOf) s m args below meth c H locs 0 0 Q (F0 m 51 ls []) := by
  have hx := X.1
  have hb := X.2.1
  have hml := X.2.2.1
  have hown := X.2.2.2.1
  have hts := X.2.2.2.2.1
  intro n
  induction n with
  | zero =>
    intro x2 w H locs ls hP hS hl h
    exact absurd h (by simp [fX8_faultOf_51])
  | succ n ih =>
    intro x2 w H locs ls hP hS hl h
    rw [fX8_faultOf_51] at h
    refine lv_iload_n hx hb dX8_faultOf_51 rfl (lv_at hl 1 rfl) ?_
    refine lv_if_eq (tgt := 98) hx hb dX8_faultOf_52 (by decide) (fun c_7 => ?_) (fun c_7 => ?_)
    · replace h := it_p c_7 h
      exact bX8_faultOf_98 X hret x2 w _ _ _ hP hS (lv_sub hl [0, 1] rfl) h
    · replace h := it_n c_7 h
      refine lv_aload_n hx hb dX8_faultOf_55 rfl (lv_at hl 0 rfl) ?_
      refine x_get (rest := []) X hP (gM0 c3 ad w) rfl iwX8_faultOf_X8 18 (by decide) lkX8_faultOf_116 rfl dX8_faultOf_56 ?_
      refine lv_aload_n hx hb dX8_faultOf_59 rfl (lv_at hl 0 rfl) ?_
      refine x_get (rest := [.int (w.1 0 18)]) X hP (gM0 c3 ad w) rfl iwX8_faultOf_X8 19 (by decide) lkX8_faultOf_119 rfl dX8_faultOf_60 ?_
      refine lv_icmp_ge (tgt := 98) hx hb dX8_faultOf_63 (by decide) (fun c_8 => ?_) (fun c_8 => ?_)
      · replace h := it_p c_8 h
        exact bX8_faultOf_98 X hret x2 w _ _ _ hP hS (lv_sub hl [0, 1] rfl) h
      · replace h := it_n c_8 h
        refine lv_aload_n hx hb dX8_faultOf_66 rfl (lv_at hl 0 rfl) ?_
        obtain ⟨r_10, e_9, h⟩ := bo_s h
        refine x_goi X hS (x_runV (As := []) (rest := []) X gM_ok hP hS (ctX8_here l D c3 ad w _ _ e_9) (cwV 0 hts gX8_faultOf_X8_here rfl rfl rfl (by decide +kernel) ⟨by decide, by decide⟩) (gM0 c3 ad w) rfl rfl rfl hl.1 rfl (Nat.le_of_ble_eq_true rfl) dX8_faultOf_67) (fun H locs hP hS => ?_)
        refine lv_bipush (v := 100) hx hb dX8_faultOf_70 (by decide) ?_
        refine lv_icmp_ne (tgt := 82) hx hb dX8_faultOf_72 (by decide) (fun c_12 => ?_) (fun c_12 => ?_)
        · replace h := it_n c_12 h
          refine lv_aload_n hx hb dX8_faultOf_82 rfl (lv_at hl 0 rfl) ?_
          obtain ⟨r_14, w_15, e_13, h⟩ := bd_s h
          refine x_goi X hS (x_runV (As := []) (rest := []) X gM_ok hP hS (ctX8_readsSaying l D c3 ad w _ _ _ e_13) (cwV 0 hts gX8_faultOf_X8_readsSaying rfl rfl rfl (by decide +kernel) ⟨by decide, by decide⟩) (gM0 c3 ad w) rfl rfl rfl hl.1 rfl (Nat.le_of_ble_eq_true rfl) dX8_faultOf_83) (fun H locs hP hS => ?_)
          exact bX8_faultOf_86 (k51 := (fX8_faultOf_51 n)) X hret ih r_14 w_15 _ _ _ hP hS (lv_sub hl [0] rfl) h
        · replace h := it_p c_12 h
          refine lv_aload_n hx hb dX8_faultOf_75 rfl (lv_at hl 0 rfl) ?_
          obtain ⟨r_17, w_18, e_16, h⟩ := bd_s h
          refine x_goi X hS (x_runV (As := []) (rest := []) X gM_ok hP hS (ctX8_readsRoom l D c3 ad w _ _ _ e_16) (cwV 0 hts gX8_faultOf_X8_readsRoom rfl rfl rfl (by decide +kernel) ⟨by decide, by decide⟩) (gM0 c3 ad w) rfl rfl rfl hl.1 rfl (Nat.le_of_ble_eq_true rfl) dX8_faultOf_76) (fun H locs hP hS => ?_)
          refine lv_goto (tgt := 86) hx hb dX8_faultOf_79 (by decide) ?_
          exact bX8_faultOf_86 (k51 := (fX8_faultOf_51 n)) X hret ih r_17 w_18 _ _ _ hP hS (lv_sub hl [0] rfl) h
def fX8_faultOf_E (x1 : Int32) (w : Mm) : Option (Int32 × Mm) := nm (sA w 0 17 (60 * x1)) (fun w_19 => nm (sA w_19 0 18 0) (fun w_20 => gd (inb x1 4 = true) (nm (sA w_20 0 19 (w_20.1 8 x1.toNatClampNeg)) (fun w_22 => nm (sA w_22 0 21 0) (fun w_23 => nm (sA w_23 0 23 0) (fun w_24 => nm (sA w_24 0 24 0) (fun w_25 => bd (fX8_readsPeople w_25) (fun r_27 w_28 => (if r_27 = 0 then fX8_faultOf_51 FU r_27 w_28 else bo (fX8_skip w_28) (fun w_32 => fX8_faultOf_51 FU r_27 w_32))))))))))
set_option maxRecDepth 20000 in
theorem bX8_faultOf_E {p : Program} {l : Launch} {e : Env} {s : State} {m : MethodId} {args : Array Value} {below : List Frame} {meth : Method} {c : Code} {Q : State → Prop} {D : va_G} {c3 : C3} {ad : Nat → Nat} {A : Nat → Prop} {r : Int32} {w' : Mm} (X : Cx p s m args c cX8_faultOf 3 RX8 wsX8_faultOf D c3 (encM c3 ad) gM A) (hret : Ri p l e (rmX8_faultOf) s m args below meth c Q cX8_faultOf D (encM c3 ad) A r w') : ∀ (x1 : Int32) (w : Mm) (H : Heap) (locs : List Loc) (ls : Array Slot), va_P D vwCl ((encM c3 ad) w) H → va_S A s.heap H locs → lv_has ls 3 [(0, .ref (ad 0)), (1, .int x1)] → fX8_faultOf_E x1 w = some (r, w') → W p l e (rmX8_faultOf) s m args below meth c H locs 0 0 Q (F0 m 0 ls []) := by
  have hx := X.1
  have hb := X.2.1
  have hml := X.2.2.1
  have hown := X.2.2.2.1
  have hts := X.2.2.2.2.1
  intro x1 w H locs ls hP hS hl h
  unfold fX8_faultOf_E at h
  refine lv_aload_n hx hb dX8_faultOf_0 rfl (lv_at hl 0 rfl) ?_
  refine lv_bipush (v := 60) hx hb dX8_faultOf_1 (by decide) ?_
  refine lv_iload_n hx hb dX8_faultOf_3 rfl (lv_at hl 1 rfl) ?_
  refine lv_imul hx hb dX8_faultOf_4 ?_
  refine x_put (v := .int (60 * x1)) X hP hS (gM0 c3 ad w) rfl iwX8_faultOf_X8 tyX8 tyX8_ok nmX8 17 (by decide) lkX8_faultOf_113 rfl rfl rfl (Nat.le_of_ble_eq_true rfl) (pM0_17 c3 ad w (60 * x1)) dX8_faultOf_5 (fun H locs hP hS => ?_)
  refine x_nmw h hP (fun w_19 h hP => ?_)
  refine lv_aload_n hx hb dX8_faultOf_8 rfl (lv_at hl 0 rfl) ?_
  refine lv_iconst (v := 0) hx hb dX8_faultOf_9 (by decide) ?_
  refine x_put (v := .int 0) X hP hS (gM0 c3 ad w_19) rfl iwX8_faultOf_X8 tyX8 tyX8_ok nmX8 18 (by decide) lkX8_faultOf_116 rfl rfl rfl (Nat.le_of_ble_eq_true rfl) (pM0_18 c3 ad w_19 0) dX8_faultOf_10 (fun H locs hP hS => ?_)
  refine x_nmw h hP (fun w_20 h hP => ?_)
  refine lv_aload_n hx hb dX8_faultOf_13 rfl (lv_at hl 0 rfl) ?_
  refine lv_aload_n hx hb dX8_faultOf_14 rfl (lv_at hl 0 rfl) ?_
  refine x_get (rest := [.ref (ad 0)]) X hP (gM0 c3 ad w_20) rfl iwX8_faultOf_X8 10 (by decide) lkX8_faultOf_31 rfl dX8_faultOf_15 ?_
  refine lv_iload_n hx hb dX8_faultOf_18 rfl (lv_at hl 1 rfl) ?_
  obtain ⟨g_21, h⟩ := gd_s h
  refine x_iald X hP (gM8 c3 ad w_20) g_21 dX8_faultOf_19 ?_
  refine x_put (v := .int (w_20.1 8 x1.toNatClampNeg)) X hP hS (gM0 c3 ad w_20) rfl iwX8_faultOf_X8 tyX8 tyX8_ok nmX8 19 (by decide) lkX8_faultOf_119 rfl rfl rfl (Nat.le_of_ble_eq_true rfl) (pM0_19 c3 ad w_20 (w_20.1 8 x1.toNatClampNeg)) dX8_faultOf_20 (fun H locs hP hS => ?_)
  refine x_nmw h hP (fun w_22 h hP => ?_)
  refine lv_aload_n hx hb dX8_faultOf_23 rfl (lv_at hl 0 rfl) ?_
  refine lv_iconst (v := 0) hx hb dX8_faultOf_24 (by decide) ?_
  refine x_put (v := .int 0) X hP hS (gM0 c3 ad w_22) rfl iwX8_faultOf_X8 tyX8 tyX8_ok nmX8 21 (by decide) lkX8_faultOf_133 rfl rfl rfl (Nat.le_of_ble_eq_true rfl) (pM0_21 c3 ad w_22 0) dX8_faultOf_25 (fun H locs hP hS => ?_)
  refine x_nmw h hP (fun w_23 h hP => ?_)
  refine lv_aload_n hx hb dX8_faultOf_28 rfl (lv_at hl 0 rfl) ?_
  refine lv_iconst (v := 0) hx hb dX8_faultOf_29 (by decide) ?_
  refine x_put (v := .int 0) X hP hS (gM0 c3 ad w_23) rfl iwX8_faultOf_X8 tyX8 tyX8_ok nmX8 23 (by decide) lkX8_faultOf_142 rfl rfl rfl (Nat.le_of_ble_eq_true rfl) (pM0_23 c3 ad w_23 0) dX8_faultOf_30 (fun H locs hP hS => ?_)
  refine x_nmw h hP (fun w_24 h hP => ?_)
  refine lv_aload_n hx hb dX8_faultOf_33 rfl (lv_at hl 0 rfl) ?_
  refine lv_iconst (v := 0) hx hb dX8_faultOf_34 (by decide) ?_
  refine x_put (v := .int 0) X hP hS (gM0 c3 ad w_24) rfl iwX8_faultOf_X8 tyX8 tyX8_ok nmX8 24 (by decide) lkX8_faultOf_145 rfl rfl rfl (Nat.le_of_ble_eq_true rfl) (pM0_24 c3 ad w_24 0) dX8_faultOf_35 (fun H locs hP hS => ?_)
  refine x_nmw h hP (fun w_25 h hP => ?_)
  refine lv_aload_n hx hb dX8_faultOf_38 rfl (lv_at hl 0 rfl) ?_
  obtain ⟨r_27, w_28, e_26, h⟩ := bd_s h
  refine x_goi X hS (x_runV (As := []) (rest := []) X gM_ok hP hS (ctX8_readsPeople l D c3 ad w_25 _ _ _ e_26) (cwV 0 hts gX8_faultOf_X8_readsPeople rfl rfl rfl (by decide +kernel) ⟨by decide, by decide⟩) (gM0 c3 ad w_25) rfl rfl rfl hl.1 rfl (Nat.le_of_ble_eq_true rfl) dX8_faultOf_39) (fun H locs hP hS => ?_)
  refine lv_istore_n (lv' := [(2, .int r_27), (0, .ref (ad 0)), (1, .int x1)]) hx hb dX8_faultOf_42 rfl hl (by decide) rfl (fun ls hl => ?_)
  refine lv_iload_n hx hb dX8_faultOf_43 rfl (lv_at hl 0 rfl) ?_
  refine lv_if_eq (tgt := 51) hx hb dX8_faultOf_44 (by decide) (fun c_29 => ?_) (fun c_29 => ?_)
  · replace h := it_p c_29 h
    exact bX8_faultOf_51 X hret FU r_27 w_28 _ _ _ hP hS (lv_sub hl [1, 0] rfl) h
  · replace h := it_n c_29 h
    refine lv_aload_n hx hb dX8_faultOf_47 rfl (lv_at hl 1 rfl) ?_
    obtain ⟨w_32, e_30, h⟩ := bo_s h
    refine x_gov X hS (x_runV (As := []) (rest := []) X gM_ok hP hS (ctX8_skip l D c3 ad w_28 _ _ e_30) (cwV 0 hts gX8_faultOf_X8_skip rfl rfl rfl (by decide +kernel) ⟨by decide, by decide⟩) (gM0 c3 ad w_28) rfl rfl rfl hl.1 rfl (Nat.le_of_ble_eq_true rfl) dX8_faultOf_48) (fun H locs hP hS => ?_)
    exact bX8_faultOf_51 X hret FU r_27 w_32 _ _ _ hP hS (lv_sub hl [1, 0] rfl) h
def fX8_faultOf (x1 : Int32) (w : Mm) : Option (Int32 × Mm) := fX8_faultOf_E x1 w
theorem ctX8_faultOf (l : Launch) (D : va_G) (c3 : C3) (ad : Nat → Nat) (w : Mm) (sz : Nat) (x1 : Int32) (r : Int32) (w' : Mm) (h : fX8_faultOf x1 w = some (r, w')) : Ci l yX8_faultOf wsX8_faultOf rmX8_faultOf D c3 (encM c3 ad) gM [.ref (ad 0), .int x1] w sz r w' := by
  refine Ci.of (cc := cX8_faultOf) (maxL := 3) (encM_ok c3 ad) (by decide) rfl (Nat.le_of_ble_eq_true rfl) ?_
  intro p e s m below meth c A Q ls X hret hP hS hl
  exact bX8_faultOf_E X hret x1 w _ _ ls hP hS hl h
theorem iwX8_fault_X8 : ∀ w ∈ wsX80, w ∈ wsX8_fault := fun _ h => List.mem_cons_of_mem _ (List.mem_append_right _ h)
theorem lkX8_fault_31 : Cond.fieldLink RX8 31 "StuckDoorModel" "lengths" "[I" ∈ wsX8_fault := by decide +kernel
def rmX8_fault : Room := { frames := 5, cells := 0, slots := 0, locals := 114 }
def fX8_fault_E (x1 : Int32) (w : Mm) : Option (Int32 × Mm) := bo (fX8_isText x1) (fun r_2 => (if r_2 = 0 then some ((-1), w) else gd (inb x1 4 = true) ((if 0 ≤ (w.1 8 x1.toNatClampNeg) then bd (fX8_faultOf x1 w) (fun r_8 w_9 => some (r_8, w_9)) else bd (fX8_find 1 w) (fun r_11 w_12 => some (r_11, w_12))))))
set_option maxRecDepth 20000 in
theorem bX8_fault_E {p : Program} {l : Launch} {e : Env} {s : State} {m : MethodId} {args : Array Value} {below : List Frame} {meth : Method} {c : Code} {Q : State → Prop} {D : va_G} {c3 : C3} {ad : Nat → Nat} {A : Nat → Prop} {r : Int32} {w' : Mm} (X : Cx p s m args c cX8_fault 2 RX8 wsX8_fault D c3 (encM c3 ad) gM A) (hret : Ri p l e (rmX8_fault) s m args below meth c Q cX8_fault D (encM c3 ad) A r w') : ∀ (x1 : Int32) (w : Mm) (H : Heap) (locs : List Loc) (ls : Array Slot), va_P D vwCl ((encM c3 ad) w) H → va_S A s.heap H locs → lv_has ls 2 [(0, .ref (ad 0)), (1, .int x1)] → fX8_fault_E x1 w = some (r, w') → W p l e (rmX8_fault) s m args below meth c H locs 0 0 Q (F0 m 0 ls []) := by
  have hx := X.1
  have hb := X.2.1
  have hml := X.2.2.1
  have hown := X.2.2.2.1
  have hts := X.2.2.2.2.1
  intro x1 w H locs ls hP hS hl h
  unfold fX8_fault_E at h
  refine lv_iload_n hx hb dX8_fault_0 rfl (lv_at hl 1 rfl) ?_
  obtain ⟨r_2, e_1, h⟩ := bo_s h
  refine x_goi X hS (x_runS (As := [.int x1]) (rest := []) X gM_ok hP hS (ctX8_isText l D c3 ad w _ x1 _ e_1) (va_cwS 1 hts gX8_fault_X8_isText rfl rfl rfl (by decide +kernel) ⟨by decide, by decide⟩) rfl hl.1 rfl (Nat.le_of_ble_eq_true rfl) dX8_fault_1) (fun H locs hP hS => ?_)
  refine lv_if_ne (tgt := 9) hx hb dX8_fault_4 (by decide) (fun c_4 => ?_) (fun c_4 => ?_)
  · replace h := it_n c_4 h
    refine lv_aload_n hx hb dX8_fault_9 rfl (lv_at hl 0 rfl) ?_
    refine x_get (rest := []) X hP (gM0 c3 ad w) rfl iwX8_fault_X8 10 (by decide) lkX8_fault_31 rfl dX8_fault_10 ?_
    refine lv_iload_n hx hb dX8_fault_13 rfl (lv_at hl 1 rfl) ?_
    obtain ⟨g_5, h⟩ := gd_s h
    refine x_iald X hP (gM8 c3 ad w) g_5 dX8_fault_14 ?_
    refine lv_if_ge (tgt := 26) hx hb dX8_fault_15 (by decide) (fun c_6 => ?_) (fun c_6 => ?_)
    · replace h := it_p c_6 h
      refine lv_aload_n hx hb dX8_fault_26 rfl (lv_at hl 0 rfl) ?_
      refine lv_iload_n hx hb dX8_fault_27 rfl (lv_at hl 1 rfl) ?_
      obtain ⟨r_8, w_9, e_7, h⟩ := bd_s h
      refine x_goi X hS (x_runV (As := [.int x1]) (rest := []) X gM_ok hP hS (ctX8_faultOf l D c3 ad w _ x1 _ _ e_7) (cwV 1 hts gX8_fault_X8_faultOf rfl rfl rfl (by decide +kernel) ⟨by decide, by decide⟩) (gM0 c3 ad w) rfl rfl rfl hl.1 rfl (Nat.le_of_ble_eq_true rfl) dX8_fault_28) (fun H locs hP hS => ?_)
      obtain ⟨rfl, rfl⟩ := Prod.mk.inj (Option.some.inj h)
      exact hret _ _ _ _ hP hS dX8_fault_31
    · replace h := it_n c_6 h
      refine lv_aload_n hx hb dX8_fault_18 rfl (lv_at hl 0 rfl) ?_
      refine lv_iconst (v := 1) hx hb dX8_fault_19 (by decide) ?_
      obtain ⟨r_11, w_12, e_10, h⟩ := bd_s h
      refine x_goi X hS (x_runV (As := [.int 1]) (rest := []) X gM_ok hP hS (ctX8_find l D c3 ad w _ 1 _ _ e_10) (cwV 1 hts gX8_fault_X8_find rfl rfl rfl (by decide +kernel) ⟨by decide, by decide⟩) (gM0 c3 ad w) rfl rfl rfl hl.1 rfl (Nat.le_of_ble_eq_true rfl) dX8_fault_20) (fun H locs hP hS => ?_)
      refine lv_goto (tgt := 31) hx hb dX8_fault_23 (by decide) ?_
      obtain ⟨rfl, rfl⟩ := Prod.mk.inj (Option.some.inj h)
      exact hret _ _ _ _ hP hS dX8_fault_31
  · replace h := it_p c_4 h
    refine lv_iconst (v := (-1)) hx hb dX8_fault_7 (by decide) ?_
    obtain ⟨rfl, rfl⟩ := Prod.mk.inj (Option.some.inj h)
    exact hret _ _ _ _ hP hS dX8_fault_8
def fX8_fault (x1 : Int32) (w : Mm) : Option (Int32 × Mm) := fX8_fault_E x1 w
theorem ctX8_fault (l : Launch) (D : va_G) (c3 : C3) (ad : Nat → Nat) (w : Mm) (sz : Nat) (x1 : Int32) (r : Int32) (w' : Mm) (h : fX8_fault x1 w = some (r, w')) : Ci l yX8_fault wsX8_fault rmX8_fault D c3 (encM c3 ad) gM [.ref (ad 0), .int x1] w sz r w' := by
  refine Ci.of (cc := cX8_fault) (maxL := 2) (encM_ok c3 ad) (by decide) rfl (Nat.le_of_ble_eq_true rfl) ?_
  intro p e s m below meth c A Q ls X hret hP hS hl
  exact bX8_fault_E X hret x1 w _ _ ls hP hS hl h
theorem iwX8_family_X8 : ∀ w ∈ wsX80, w ∈ wsX8_family := fun _ h => List.mem_cons_of_mem _ (List.mem_append_right _ h)
theorem lkX8_family_7 : Cond.fieldLink RX8 7 "StuckDoorModel" "row" "[I" ∈ wsX8_family := by decide +kernel
theorem lkX8_family_13 : Cond.fieldLink RX8 13 "StuckDoorModel" "bears" "[I" ∈ wsX8_family := by decide +kernel
theorem lkX8_family_16 : Cond.fieldLink RX8 16 "StuckDoorModel" "kinds" "[I" ∈ wsX8_family := by decide +kernel
theorem lkX8_family_19 : Cond.fieldLink RX8 19 "StuckDoorModel" "nears" "[I" ∈ wsX8_family := by decide +kernel
theorem lkX8_family_22 : Cond.fieldLink RX8 22 "StuckDoorModel" "topics" "[I" ∈ wsX8_family := by decide +kernel
theorem lkX8_family_31 : Cond.fieldLink RX8 31 "StuckDoorModel" "lengths" "[I" ∈ wsX8_family := by decide +kernel
theorem lkX8_family_44 : Cond.fieldLink RX8 44 "StuckDoorModel" "readBears" "[I" ∈ wsX8_family := by decide +kernel
theorem lkX8_family_47 : Cond.fieldLink RX8 47 "StuckDoorModel" "readSayings" "[I" ∈ wsX8_family := by decide +kernel
theorem lkX8_family_133 : Cond.fieldLink RX8 133 "StuckDoorModel" "readPeople" "I" ∈ wsX8_family := by decide +kernel
theorem lkX8_family_142 : Cond.fieldLink RX8 142 "StuckDoorModel" "readMany" "I" ∈ wsX8_family := by decide +kernel
theorem lkX8_family_145 : Cond.fieldLink RX8 145 "StuckDoorModel" "readStuck" "I" ∈ wsX8_family := by decide +kernel
theorem lkX8_family_164 : Cond.fieldLink RX8 164 "StuckDoorModel" "people" "I" ∈ wsX8_family := by decide +kernel
theorem lkX8_family_167 : Cond.fieldLink RX8 167 "StuckDoorModel" "sayings" "I" ∈ wsX8_family := by decide +kernel
theorem lkX8_family_170 : Cond.fieldLink RX8 170 "StuckDoorModel" "stuck" "I" ∈ wsX8_family := by decide +kernel
def rmX8_family : Room := { frames := 5, cells := 0, slots := 0, locals := 114 }
def fX8_family_183 : Nat → Int32 → Mm → Option (Int32 × Mm)
  | 0, _, _ => none
  | n + 1, x2, w => (if 4 ≤ x2 then some ((w.1 0 3), w) else gd (inb ((411 * x2) + 0) 1655 = true) (nm (sA w 1 ((411 * x2) + 0).toNatClampNeg (-1)) (fun w_3 => fX8_family_183 n (x2 + 1) w_3)))
set_option maxRecDepth 20000 in
theorem bX8_family_183 {p : Program} {l : Launch} {e : Env} {s : State} {m : MethodId} {args : Array Value} {below : List Frame} {meth : Method} {c : Code} {Q : State → Prop} {D : va_G} {c3 : C3} {ad : Nat → Nat} {A : Nat → Prop} {r : Int32} {w' : Mm} (X : Cx p s m args c cX8_family 3 RX8 wsX8_family D c3 (encM c3 ad) gM A) (hret : Ri p l e (rmX8_family) s m args below meth c Q cX8_family D (encM c3 ad) A r w') : ∀ (n : Nat) (x2 : Int32) (w : Mm) (H : Heap) (locs : List Loc) (ls : Array Slot), va_P D vwCl ((encM c3 ad) w) H → va_S A s.heap H locs → lv_has ls 3 [(0, .ref (ad 0)), (2, .int x2)] → fX8_family_183 n x2 w = some (r, w') → W p l e (rmX8_family) s m args below meth c H locs 0 0 Q (F0 m 183 ls []) := by
  have hx := X.1
  have hb := X.2.1
  have hml := X.2.2.1
  have hown := X.2.2.2.1
  have hts := X.2.2.2.2.1
  intro n
  induction n with
  | zero =>
    intro x2 w H locs ls hP hS hl h
    exact absurd h (by simp [fX8_family_183])
  | succ n ih =>
    intro x2 w H locs ls hP hS hl h
    rw [fX8_family_183] at h
    refine lv_iload_n hx hb dX8_family_183 rfl (lv_at hl 1 rfl) ?_
    refine lv_iconst (v := 4) hx hb dX8_family_184 (by decide) ?_
    refine lv_icmp_ge (tgt := 207) hx hb dX8_family_185 (by decide) (fun c_1 => ?_) (fun c_1 => ?_)
    · replace h := it_p c_1 h
      refine lv_aload_n hx hb dX8_family_207 rfl (lv_at hl 0 rfl) ?_
      refine x_get (rest := []) X hP (gM0 c3 ad w) rfl iwX8_family_X8 3 (by decide) lkX8_family_167 rfl dX8_family_208 ?_
      obtain ⟨rfl, rfl⟩ := Prod.mk.inj (Option.some.inj h)
      exact hret _ _ _ _ hP hS dX8_family_211
    · replace h := it_n c_1 h
      refine lv_aload_n hx hb dX8_family_188 rfl (lv_at hl 0 rfl) ?_
      refine x_get (rest := []) X hP (gM0 c3 ad w) rfl iwX8_family_X8 0 (by decide) lkX8_family_7 rfl dX8_family_189 ?_
      refine lv_sipush (v := 411) hx hb dX8_family_192 (by decide) ?_
      refine lv_iload_n hx hb dX8_family_195 rfl (lv_at hl 1 rfl) ?_
      refine lv_imul hx hb dX8_family_196 ?_
      refine lv_iconst (v := 0) hx hb dX8_family_197 (by decide) ?_
      refine lv_iadd hx hb dX8_family_198 ?_
      refine lv_iconst (v := (-1)) hx hb dX8_family_199 (by decide) ?_
      obtain ⟨g_2, h⟩ := gd_s h
      refine x_iast X hP hS (gM1 c3 ad w) (sM1 c3 ad w _ _) g_2 dX8_family_200 (fun H locs hP hS => ?_)
      refine x_nmw h hP (fun w_3 h hP => ?_)
      refine lv_iinc (v := (x2 + 1)) (lv' := [(2, .int (x2 + 1)), (0, .ref (ad 0))]) hx hb dX8_family_201 hl (k := 1) rfl rfl (by decide) rfl (fun ls hl => ?_)
      refine lv_goto (tgt := 183) hx hb dX8_family_204 (by decide) ?_
      exact ih (x2 + 1) w_3 _ _ _ hP hS (lv_sub hl [1, 0] rfl) h
def fX8_family_153 : Nat → Int32 → Mm → Option (Int32 × Mm)
  | 0, _, _ => none
  | n + 1, x2, w => (if 411 ≤ x2 then nm (sA w 1 4 (-9)) (fun w_5 => fX8_family_183 FU 1 w_5) else gd (inb x2 1655 = true) (nm (sA w 1 x2.toNatClampNeg 0) (fun w_7 => fX8_family_153 n (x2 + 1) w_7)))
set_option maxRecDepth 20000 in
theorem bX8_family_153 {p : Program} {l : Launch} {e : Env} {s : State} {m : MethodId} {args : Array Value} {below : List Frame} {meth : Method} {c : Code} {Q : State → Prop} {D : va_G} {c3 : C3} {ad : Nat → Nat} {A : Nat → Prop} {r : Int32} {w' : Mm} (X : Cx p s m args c cX8_family 3 RX8 wsX8_family D c3 (encM c3 ad) gM A) (hret : Ri p l e (rmX8_family) s m args below meth c Q cX8_family D (encM c3 ad) A r w') : ∀ (n : Nat) (x2 : Int32) (w : Mm) (H : Heap) (locs : List Loc) (ls : Array Slot), va_P D vwCl ((encM c3 ad) w) H → va_S A s.heap H locs → lv_has ls 3 [(0, .ref (ad 0)), (2, .int x2)] → fX8_family_153 n x2 w = some (r, w') → W p l e (rmX8_family) s m args below meth c H locs 0 0 Q (F0 m 153 ls []) := by
  have hx := X.1
  have hb := X.2.1
  have hml := X.2.2.1
  have hown := X.2.2.2.1
  have hts := X.2.2.2.2.1
  intro n
  induction n with
  | zero =>
    intro x2 w H locs ls hP hS hl h
    exact absurd h (by simp [fX8_family_153])
  | succ n ih =>
    intro x2 w H locs ls hP hS hl h
    rw [fX8_family_153] at h
    refine lv_iload_n hx hb dX8_family_153 rfl (lv_at hl 1 rfl) ?_
    refine lv_sipush (v := 411) hx hb dX8_family_154 (by decide) ?_
    refine lv_icmp_ge (tgt := 173) hx hb dX8_family_157 (by decide) (fun c_4 => ?_) (fun c_4 => ?_)
    · replace h := it_p c_4 h
      refine lv_aload_n hx hb dX8_family_173 rfl (lv_at hl 0 rfl) ?_
      refine x_get (rest := []) X hP (gM0 c3 ad w) rfl iwX8_family_X8 0 (by decide) lkX8_family_7 rfl dX8_family_174 ?_
      refine lv_iconst (v := 4) hx hb dX8_family_177 (by decide) ?_
      refine lv_bipush (v := (-9)) hx hb dX8_family_178 (by decide) ?_
      refine x_iastL (j := 4) X hP hS (gM1 c3 ad w) (sM1 c3 ad w _ _) (by decide) rfl dX8_family_180 (fun H locs hP hS => ?_)
      refine x_nmw h hP (fun w_5 h hP => ?_)
      refine lv_iconst (v := 1) hx hb dX8_family_181 (by decide) ?_
      refine lv_istore_n (lv' := [(2, .int 1), (0, .ref (ad 0))]) hx hb dX8_family_182 rfl hl (by decide) rfl (fun ls hl => ?_)
      exact bX8_family_183 X hret FU 1 w_5 _ _ _ hP hS (lv_sub hl [1, 0] rfl) h
    · replace h := it_n c_4 h
      refine lv_aload_n hx hb dX8_family_160 rfl (lv_at hl 0 rfl) ?_
      refine x_get (rest := []) X hP (gM0 c3 ad w) rfl iwX8_family_X8 0 (by decide) lkX8_family_7 rfl dX8_family_161 ?_
      refine lv_iload_n hx hb dX8_family_164 rfl (lv_at hl 1 rfl) ?_
      refine lv_iconst (v := 0) hx hb dX8_family_165 (by decide) ?_
      obtain ⟨g_6, h⟩ := gd_s h
      refine x_iast X hP hS (gM1 c3 ad w) (sM1 c3 ad w _ _) g_6 dX8_family_166 (fun H locs hP hS => ?_)
      refine x_nmw h hP (fun w_7 h hP => ?_)
      refine lv_iinc (v := (x2 + 1)) (lv' := [(2, .int (x2 + 1)), (0, .ref (ad 0))]) hx hb dX8_family_167 hl (k := 1) rfl rfl (by decide) rfl (fun ls hl => ?_)
      refine lv_goto (tgt := 153) hx hb dX8_family_170 (by decide) ?_
      exact ih (x2 + 1) w_7 _ _ _ hP hS (lv_sub hl [1, 0] rfl) h
def fX8_family_91 : Nat → Int32 → Mm → Option (Int32 × Mm)
  | 0, _, _ => none
  | n + 1, x2, w => (if (w.1 0 3) ≤ x2 then fX8_family_153 FU 0 w else gd (inb (3 * x2) 18 = true) (gd (inb x2 6 = true) (nm (sA w 3 x2.toNatClampNeg (w.1 12 (3 * x2).toNatClampNeg)) (fun w_11 => gd (inb ((3 * x2) + 1) 18 = true) (nm (sA w_11 4 x2.toNatClampNeg (w_11.1 12 ((3 * x2) + 1).toNatClampNeg)) (fun w_13 => gd (inb ((3 * x2) + 2) 18 = true) (nm (sA w_13 5 x2.toNatClampNeg (w_13.1 12 ((3 * x2) + 2).toNatClampNeg)) (fun w_15 => fX8_family_91 n (x2 + 1) w_15))))))))
set_option maxRecDepth 20000 in
theorem bX8_family_91 {p : Program} {l : Launch} {e : Env} {s : State} {m : MethodId} {args : Array Value} {below : List Frame} {meth : Method} {c : Code} {Q : State → Prop} {D : va_G} {c3 : C3} {ad : Nat → Nat} {A : Nat → Prop} {r : Int32} {w' : Mm} (X : Cx p s m args c cX8_family 3 RX8 wsX8_family D c3 (encM c3 ad) gM A) (hret : Ri p l e (rmX8_family) s m args below meth c Q cX8_family D (encM c3 ad) A r w') : ∀ (n : Nat) (x2 : Int32) (w : Mm) (H : Heap) (locs : List Loc) (ls : Array Slot), va_P D vwCl ((encM c3 ad) w) H → va_S A s.heap H locs → lv_has ls 3 [(0, .ref (ad 0)), (2, .int x2)] → fX8_family_91 n x2 w = some (r, w') → W p l e (rmX8_family) s m args below meth c H locs 0 0 Q (F0 m 91 ls []) := by
  have hx := X.1
  have hb := X.2.1
  have hml := X.2.2.1
  have hown := X.2.2.2.1
  have hts := X.2.2.2.2.1
  intro n
  induction n with
  | zero =>
    intro x2 w H locs ls hP hS hl h
    exact absurd h (by simp [fX8_family_91])
  | succ n ih =>
    intro x2 w H locs ls hP hS hl h
    rw [fX8_family_91] at h
    refine lv_iload_n hx hb dX8_family_91 rfl (lv_at hl 1 rfl) ?_
    refine lv_aload_n hx hb dX8_family_92 rfl (lv_at hl 0 rfl) ?_
    refine x_get (rest := [.int x2]) X hP (gM0 c3 ad w) rfl iwX8_family_X8 3 (by decide) lkX8_family_167 rfl dX8_family_93 ?_
    refine lv_icmp_ge (tgt := 151) hx hb dX8_family_96 (by decide) (fun c_8 => ?_) (fun c_8 => ?_)
    · replace h := it_p c_8 h
      refine lv_iconst (v := 0) hx hb dX8_family_151 (by decide) ?_
      refine lv_istore_n (lv' := [(2, .int 0), (0, .ref (ad 0))]) hx hb dX8_family_152 rfl hl (by decide) rfl (fun ls hl => ?_)
      exact bX8_family_153 X hret FU 0 w _ _ _ hP hS (lv_sub hl [1, 0] rfl) h
    · replace h := it_n c_8 h
      refine lv_aload_n hx hb dX8_family_99 rfl (lv_at hl 0 rfl) ?_
      refine x_get (rest := []) X hP (gM0 c3 ad w) rfl iwX8_family_X8 4 (by decide) lkX8_family_16 rfl dX8_family_100 ?_
      refine lv_iload_n hx hb dX8_family_103 rfl (lv_at hl 1 rfl) ?_
      refine lv_aload_n hx hb dX8_family_104 rfl (lv_at hl 0 rfl) ?_
      refine x_get (rest := [.int x2, .ref (ad 3)]) X hP (gM0 c3 ad w) rfl iwX8_family_X8 22 (by decide) lkX8_family_47 rfl dX8_family_105 ?_
      refine lv_iconst (v := 3) hx hb dX8_family_108 (by decide) ?_
      refine lv_iload_n hx hb dX8_family_109 rfl (lv_at hl 1 rfl) ?_
      refine lv_imul hx hb dX8_family_110 ?_
      obtain ⟨g_9, h⟩ := gd_s h
      refine x_iald X hP (gM12 c3 ad w) g_9 dX8_family_111 ?_
      obtain ⟨g_10, h⟩ := gd_s h
      refine x_iast X hP hS (gM3 c3 ad w) (sM3 c3 ad w _ _) g_10 dX8_family_112 (fun H locs hP hS => ?_)
      refine x_nmw h hP (fun w_11 h hP => ?_)
      refine lv_aload_n hx hb dX8_family_113 rfl (lv_at hl 0 rfl) ?_
      refine x_get (rest := []) X hP (gM0 c3 ad w_11) rfl iwX8_family_X8 5 (by decide) lkX8_family_19 rfl dX8_family_114 ?_
      refine lv_iload_n hx hb dX8_family_117 rfl (lv_at hl 1 rfl) ?_
      refine lv_aload_n hx hb dX8_family_118 rfl (lv_at hl 0 rfl) ?_
      refine x_get (rest := [.int x2, .ref (ad 4)]) X hP (gM0 c3 ad w_11) rfl iwX8_family_X8 22 (by decide) lkX8_family_47 rfl dX8_family_119 ?_
      refine lv_iconst (v := 3) hx hb dX8_family_122 (by decide) ?_
      refine lv_iload_n hx hb dX8_family_123 rfl (lv_at hl 1 rfl) ?_
      refine lv_imul hx hb dX8_family_124 ?_
      refine lv_iconst (v := 1) hx hb dX8_family_125 (by decide) ?_
      refine lv_iadd hx hb dX8_family_126 ?_
      obtain ⟨g_12, h⟩ := gd_s h
      refine x_iald X hP (gM12 c3 ad w_11) g_12 dX8_family_127 ?_
      refine x_iast X hP hS (gM4 c3 ad w_11) (sM4 c3 ad w_11 _ _) g_10 dX8_family_128 (fun H locs hP hS => ?_)
      refine x_nmw h hP (fun w_13 h hP => ?_)
      refine lv_aload_n hx hb dX8_family_129 rfl (lv_at hl 0 rfl) ?_
      refine x_get (rest := []) X hP (gM0 c3 ad w_13) rfl iwX8_family_X8 6 (by decide) lkX8_family_22 rfl dX8_family_130 ?_
      refine lv_iload_n hx hb dX8_family_133 rfl (lv_at hl 1 rfl) ?_
      refine lv_aload_n hx hb dX8_family_134 rfl (lv_at hl 0 rfl) ?_
      refine x_get (rest := [.int x2, .ref (ad 5)]) X hP (gM0 c3 ad w_13) rfl iwX8_family_X8 22 (by decide) lkX8_family_47 rfl dX8_family_135 ?_
      refine lv_iconst (v := 3) hx hb dX8_family_138 (by decide) ?_
      refine lv_iload_n hx hb dX8_family_139 rfl (lv_at hl 1 rfl) ?_
      refine lv_imul hx hb dX8_family_140 ?_
      refine lv_iconst (v := 2) hx hb dX8_family_141 (by decide) ?_
      refine lv_iadd hx hb dX8_family_142 ?_
      obtain ⟨g_14, h⟩ := gd_s h
      refine x_iald X hP (gM12 c3 ad w_13) g_14 dX8_family_143 ?_
      refine x_iast X hP hS (gM5 c3 ad w_13) (sM5 c3 ad w_13 _ _) g_10 dX8_family_144 (fun H locs hP hS => ?_)
      refine x_nmw h hP (fun w_15 h hP => ?_)
      refine lv_iinc (v := (x2 + 1)) (lv' := [(2, .int (x2 + 1)), (0, .ref (ad 0))]) hx hb dX8_family_145 hl (k := 1) rfl rfl (by decide) rfl (fun ls hl => ?_)
      refine lv_goto (tgt := 91) hx hb dX8_family_148 (by decide) ?_
      exact ih (x2 + 1) w_15 _ _ _ hP hS (lv_sub hl [1, 0] rfl) h
def fX8_family_63 : Nat → Int32 → Mm → Option (Int32 × Mm)
  | 0, _, _ => none
  | n + 1, x2, w => (if (w.1 0 1) ≤ x2 then fX8_family_91 FU 0 w else gd (inb x2 4 = true) (nm (sA w 2 x2.toNatClampNeg (w.1 11 x2.toNatClampNeg)) (fun w_18 => fX8_family_63 n (x2 + 1) w_18)))
set_option maxRecDepth 20000 in
theorem bX8_family_63 {p : Program} {l : Launch} {e : Env} {s : State} {m : MethodId} {args : Array Value} {below : List Frame} {meth : Method} {c : Code} {Q : State → Prop} {D : va_G} {c3 : C3} {ad : Nat → Nat} {A : Nat → Prop} {r : Int32} {w' : Mm} (X : Cx p s m args c cX8_family 3 RX8 wsX8_family D c3 (encM c3 ad) gM A) (hret : Ri p l e (rmX8_family) s m args below meth c Q cX8_family D (encM c3 ad) A r w') : ∀ (n : Nat) (x2 : Int32) (w : Mm) (H : Heap) (locs : List Loc) (ls : Array Slot), va_P D vwCl ((encM c3 ad) w) H → va_S A s.heap H locs → lv_has ls 3 [(0, .ref (ad 0)), (2, .int x2)] → fX8_family_63 n x2 w = some (r, w') → W p l e (rmX8_family) s m args below meth c H locs 0 0 Q (F0 m 63 ls []) := by
  have hx := X.1
  have hb := X.2.1
  have hml := X.2.2.1
  have hown := X.2.2.2.1
  have hts := X.2.2.2.2.1
  intro n
  induction n with
  | zero =>
    intro x2 w H locs ls hP hS hl h
    exact absurd h (by simp [fX8_family_63])
  | succ n ih =>
    intro x2 w H locs ls hP hS hl h
    rw [fX8_family_63] at h
    refine lv_iload_n hx hb dX8_family_63 rfl (lv_at hl 1 rfl) ?_
    refine lv_aload_n hx hb dX8_family_64 rfl (lv_at hl 0 rfl) ?_
    refine x_get (rest := [.int x2]) X hP (gM0 c3 ad w) rfl iwX8_family_X8 1 (by decide) lkX8_family_164 rfl dX8_family_65 ?_
    refine lv_icmp_ge (tgt := 89) hx hb dX8_family_68 (by decide) (fun c_16 => ?_) (fun c_16 => ?_)
    · replace h := it_p c_16 h
      refine lv_iconst (v := 0) hx hb dX8_family_89 (by decide) ?_
      refine lv_istore_n (lv' := [(2, .int 0), (0, .ref (ad 0))]) hx hb dX8_family_90 rfl hl (by decide) rfl (fun ls hl => ?_)
      exact bX8_family_91 X hret FU 0 w _ _ _ hP hS (lv_sub hl [1, 0] rfl) h
    · replace h := it_n c_16 h
      refine lv_aload_n hx hb dX8_family_71 rfl (lv_at hl 0 rfl) ?_
      refine x_get (rest := []) X hP (gM0 c3 ad w) rfl iwX8_family_X8 2 (by decide) lkX8_family_13 rfl dX8_family_72 ?_
      refine lv_iload_n hx hb dX8_family_75 rfl (lv_at hl 1 rfl) ?_
      refine lv_aload_n hx hb dX8_family_76 rfl (lv_at hl 0 rfl) ?_
      refine x_get (rest := [.int x2, .ref (ad 2)]) X hP (gM0 c3 ad w) rfl iwX8_family_X8 20 (by decide) lkX8_family_44 rfl dX8_family_77 ?_
      refine lv_iload_n hx hb dX8_family_80 rfl (lv_at hl 1 rfl) ?_
      obtain ⟨g_17, h⟩ := gd_s h
      refine x_iald X hP (gM11 c3 ad w) g_17 dX8_family_81 ?_
      refine x_iast X hP hS (gM2 c3 ad w) (sM2 c3 ad w _ _) g_17 dX8_family_82 (fun H locs hP hS => ?_)
      refine x_nmw h hP (fun w_18 h hP => ?_)
      refine lv_iinc (v := (x2 + 1)) (lv' := [(2, .int (x2 + 1)), (0, .ref (ad 0))]) hx hb dX8_family_83 hl (k := 1) rfl rfl (by decide) rfl (fun ls hl => ?_)
      refine lv_goto (tgt := 63) hx hb dX8_family_86 (by decide) ?_
      exact ih (x2 + 1) w_18 _ _ _ hP hS (lv_sub hl [1, 0] rfl) h
def fX8_family_E (x1 : Int32) (w : Mm) : Option (Int32 × Mm) := bo (fX8_isText x1) (fun r_20 => (if r_20 = 0 then some ((-1), w) else gd (inb x1 4 = true) ((if 0 ≤ (w.1 8 x1.toNatClampNeg) then bd (fX8_faultOf x1 w) (fun r_26 w_27 => (if r_26 = (-9) then nm (sA w_27 0 1 (w_27.1 0 21)) (fun w_29 => nm (sA w_29 0 3 (w_29.1 0 23)) (fun w_30 => nm (sA w_30 0 7 (w_30.1 0 24)) (fun w_31 => fX8_family_63 FU 0 w_31))) else some ((-4), w_27))) else bd (fX8_find 1 w) (fun r_33 w_34 => some (r_33, w_34))))))
set_option maxRecDepth 20000 in
theorem bX8_family_E {p : Program} {l : Launch} {e : Env} {s : State} {m : MethodId} {args : Array Value} {below : List Frame} {meth : Method} {c : Code} {Q : State → Prop} {D : va_G} {c3 : C3} {ad : Nat → Nat} {A : Nat → Prop} {r : Int32} {w' : Mm} (X : Cx p s m args c cX8_family 3 RX8 wsX8_family D c3 (encM c3 ad) gM A) (hret : Ri p l e (rmX8_family) s m args below meth c Q cX8_family D (encM c3 ad) A r w') : ∀ (x1 : Int32) (w : Mm) (H : Heap) (locs : List Loc) (ls : Array Slot), va_P D vwCl ((encM c3 ad) w) H → va_S A s.heap H locs → lv_has ls 3 [(0, .ref (ad 0)), (1, .int x1)] → fX8_family_E x1 w = some (r, w') → W p l e (rmX8_family) s m args below meth c H locs 0 0 Q (F0 m 0 ls []) := by
  have hx := X.1
  have hb := X.2.1
  have hml := X.2.2.1
  have hown := X.2.2.2.1
  have hts := X.2.2.2.2.1
  intro x1 w H locs ls hP hS hl h
  unfold fX8_family_E at h
  refine lv_iload_n hx hb dX8_family_0 rfl (lv_at hl 1 rfl) ?_
  obtain ⟨r_20, e_19, h⟩ := bo_s h
  refine x_goi X hS (x_runS (As := [.int x1]) (rest := []) X gM_ok hP hS (ctX8_isText l D c3 ad w _ x1 _ e_19) (va_cwS 1 hts gX8_family_X8_isText rfl rfl rfl (by decide +kernel) ⟨by decide, by decide⟩) rfl hl.1 rfl (Nat.le_of_ble_eq_true rfl) dX8_family_1) (fun H locs hP hS => ?_)
  refine lv_if_ne (tgt := 9) hx hb dX8_family_4 (by decide) (fun c_22 => ?_) (fun c_22 => ?_)
  · replace h := it_n c_22 h
    refine lv_aload_n hx hb dX8_family_9 rfl (lv_at hl 0 rfl) ?_
    refine x_get (rest := []) X hP (gM0 c3 ad w) rfl iwX8_family_X8 10 (by decide) lkX8_family_31 rfl dX8_family_10 ?_
    refine lv_iload_n hx hb dX8_family_13 rfl (lv_at hl 1 rfl) ?_
    obtain ⟨g_23, h⟩ := gd_s h
    refine x_iald X hP (gM8 c3 ad w) g_23 dX8_family_14 ?_
    refine lv_if_ge (tgt := 24) hx hb dX8_family_15 (by decide) (fun c_24 => ?_) (fun c_24 => ?_)
    · replace h := it_p c_24 h
      refine lv_aload_n hx hb dX8_family_24 rfl (lv_at hl 0 rfl) ?_
      refine lv_iload_n hx hb dX8_family_25 rfl (lv_at hl 1 rfl) ?_
      obtain ⟨r_26, w_27, e_25, h⟩ := bd_s h
      refine x_goi X hS (x_runV (As := [.int x1]) (rest := []) X gM_ok hP hS (ctX8_faultOf l D c3 ad w _ x1 _ _ e_25) (cwV 1 hts gX8_family_X8_faultOf rfl rfl rfl (by decide +kernel) ⟨by decide, by decide⟩) (gM0 c3 ad w) rfl rfl rfl hl.1 rfl (Nat.le_of_ble_eq_true rfl) dX8_family_26) (fun H locs hP hS => ?_)
      refine lv_bipush (v := (-9)) hx hb dX8_family_29 (by decide) ?_
      refine lv_icmp_eq (tgt := 37) hx hb dX8_family_31 (by decide) (fun c_28 => ?_) (fun c_28 => ?_)
      · replace h := it_p c_28 h
        refine lv_aload_n hx hb dX8_family_37 rfl (lv_at hl 0 rfl) ?_
        refine lv_aload_n hx hb dX8_family_38 rfl (lv_at hl 0 rfl) ?_
        refine x_get (rest := [.ref (ad 0)]) X hP (gM0 c3 ad w_27) rfl iwX8_family_X8 21 (by decide) lkX8_family_133 rfl dX8_family_39 ?_
        refine x_put (v := .int (w_27.1 0 21)) X hP hS (gM0 c3 ad w_27) rfl iwX8_family_X8 tyX8 tyX8_ok nmX8 1 (by decide) lkX8_family_164 rfl rfl rfl (Nat.le_of_ble_eq_true rfl) (pM0_1 c3 ad w_27 (w_27.1 0 21)) dX8_family_42 (fun H locs hP hS => ?_)
        refine x_nmw h hP (fun w_29 h hP => ?_)
        refine lv_aload_n hx hb dX8_family_45 rfl (lv_at hl 0 rfl) ?_
        refine lv_aload_n hx hb dX8_family_46 rfl (lv_at hl 0 rfl) ?_
        refine x_get (rest := [.ref (ad 0)]) X hP (gM0 c3 ad w_29) rfl iwX8_family_X8 23 (by decide) lkX8_family_142 rfl dX8_family_47 ?_
        refine x_put (v := .int (w_29.1 0 23)) X hP hS (gM0 c3 ad w_29) rfl iwX8_family_X8 tyX8 tyX8_ok nmX8 3 (by decide) lkX8_family_167 rfl rfl rfl (Nat.le_of_ble_eq_true rfl) (pM0_3 c3 ad w_29 (w_29.1 0 23)) dX8_family_50 (fun H locs hP hS => ?_)
        refine x_nmw h hP (fun w_30 h hP => ?_)
        refine lv_aload_n hx hb dX8_family_53 rfl (lv_at hl 0 rfl) ?_
        refine lv_aload_n hx hb dX8_family_54 rfl (lv_at hl 0 rfl) ?_
        refine x_get (rest := [.ref (ad 0)]) X hP (gM0 c3 ad w_30) rfl iwX8_family_X8 24 (by decide) lkX8_family_145 rfl dX8_family_55 ?_
        refine x_put (v := .int (w_30.1 0 24)) X hP hS (gM0 c3 ad w_30) rfl iwX8_family_X8 tyX8 tyX8_ok nmX8 7 (by decide) lkX8_family_170 rfl rfl rfl (Nat.le_of_ble_eq_true rfl) (pM0_7 c3 ad w_30 (w_30.1 0 24)) dX8_family_58 (fun H locs hP hS => ?_)
        refine x_nmw h hP (fun w_31 h hP => ?_)
        refine lv_iconst (v := 0) hx hb dX8_family_61 (by decide) ?_
        refine lv_istore_n (lv' := [(2, .int 0), (0, .ref (ad 0)), (1, .int x1)]) hx hb dX8_family_62 rfl hl (by decide) rfl (fun ls hl => ?_)
        exact bX8_family_63 X hret FU 0 w_31 _ _ _ hP hS (lv_sub hl [1, 0] rfl) h
      · replace h := it_n c_28 h
        refine lv_bipush (v := (-4)) hx hb dX8_family_34 (by decide) ?_
        obtain ⟨rfl, rfl⟩ := Prod.mk.inj (Option.some.inj h)
        exact hret _ _ _ _ hP hS dX8_family_36
    · replace h := it_n c_24 h
      refine lv_aload_n hx hb dX8_family_18 rfl (lv_at hl 0 rfl) ?_
      refine lv_iconst (v := 1) hx hb dX8_family_19 (by decide) ?_
      obtain ⟨r_33, w_34, e_32, h⟩ := bd_s h
      refine x_goi X hS (x_runV (As := [.int 1]) (rest := []) X gM_ok hP hS (ctX8_find l D c3 ad w _ 1 _ _ e_32) (cwV 1 hts gX8_family_X8_find rfl rfl rfl (by decide +kernel) ⟨by decide, by decide⟩) (gM0 c3 ad w) rfl rfl rfl hl.1 rfl (Nat.le_of_ble_eq_true rfl) dX8_family_20) (fun H locs hP hS => ?_)
      obtain ⟨rfl, rfl⟩ := Prod.mk.inj (Option.some.inj h)
      exact hret _ _ _ _ hP hS dX8_family_23
  · replace h := it_p c_22 h
    refine lv_iconst (v := (-1)) hx hb dX8_family_7 (by decide) ?_
    obtain ⟨rfl, rfl⟩ := Prod.mk.inj (Option.some.inj h)
    exact hret _ _ _ _ hP hS dX8_family_8
def fX8_family (x1 : Int32) (w : Mm) : Option (Int32 × Mm) := fX8_family_E x1 w
theorem ctX8_family (l : Launch) (D : va_G) (c3 : C3) (ad : Nat → Nat) (w : Mm) (sz : Nat) (x1 : Int32) (r : Int32) (w' : Mm) (h : fX8_family x1 w = some (r, w')) : Ci l yX8_family wsX8_family rmX8_family D c3 (encM c3 ad) gM [.ref (ad 0), .int x1] w sz r w' := by
  refine Ci.of (cc := cX8_family) (maxL := 3) (encM_ok c3 ad) (by decide) rfl (Nat.le_of_ble_eq_true rfl) ?_
  intro p e s m below meth c A Q ls X hret hP hS hl
  exact bX8_family_E X hret x1 w _ _ ls hP hS hl h
theorem iwX8_isSaying_X8 : ∀ w ∈ wsX80, w ∈ wsX8_isSaying := fun _ h => List.mem_cons_of_mem _ (List.mem_append_right _ h)
theorem lkX8_isSaying_167 : Cond.fieldLink RX8 167 "StuckDoorModel" "sayings" "I" ∈ wsX8_isSaying := by decide +kernel
def rmX8_isSaying : Room := { frames := 1, cells := 0, slots := 0, locals := 25 }
def fX8_isSaying_E (x1 : Int32) (w : Mm) : Option (Int32) := bo (fX8_in x1.toInt64 0 (((w.1 0 3) - 1).toInt64)) (fun r_2 => gd (r_2 = 0 ∨ r_2 = 1) (some r_2))
set_option maxRecDepth 20000 in
theorem bX8_isSaying_E {p : Program} {l : Launch} {e : Env} {s : State} {m : MethodId} {args : Array Value} {below : List Frame} {meth : Method} {c : Code} {Q : State → Prop} {D : va_G} {c3 : C3} {ad : Nat → Nat} {A : Nat → Prop} {r : Int32} {w : Mm} (X : Cx p s m args c cX8_isSaying 2 RX8 wsX8_isSaying D c3 (encM c3 ad) gM A) (hret : Rz p l e (rmX8_isSaying) s m args below meth c Q cX8_isSaying D (encM c3 ad) A r w) : ∀ (x1 : Int32) (H : Heap) (locs : List Loc) (ls : Array Slot), va_P D vwCl ((encM c3 ad) w) H → va_S A s.heap H locs → lv_has ls 2 [(0, .ref (ad 0)), (1, .int x1)] → fX8_isSaying_E x1 w = some r → W p l e (rmX8_isSaying) s m args below meth c H locs 0 0 Q (F0 m 0 ls []) := by
  have hx := X.1
  have hb := X.2.1
  have hml := X.2.2.1
  have hown := X.2.2.2.1
  have hts := X.2.2.2.2.1
  intro x1 H locs ls hP hS hl h
  unfold fX8_isSaying_E at h
  refine lv_iload_n hx hb dX8_isSaying_0 rfl (lv_at hl 1 rfl) ?_
  refine lv_i2l (v := x1.toInt64) hx hb dX8_isSaying_1 rfl ?_
  refine lv_lconst (v := 0) hx hb dX8_isSaying_2 (by decide) ?_
  refine lv_aload_n hx hb dX8_isSaying_3 rfl (lv_at hl 0 rfl) ?_
  refine x_get (rest := [.long 0, .long x1.toInt64]) X hP (gM0 c3 ad w) rfl iwX8_isSaying_X8 3 (by decide) lkX8_isSaying_167 rfl dX8_isSaying_4 ?_
  refine lv_iconst (v := 1) hx hb dX8_isSaying_7 (by decide) ?_
  refine lv_isub hx hb dX8_isSaying_8 ?_
  refine lv_i2l (v := ((w.1 0 3) - 1).toInt64) hx hb dX8_isSaying_9 rfl ?_
  obtain ⟨r_2, e_1, h⟩ := bo_s h
  refine x_goi X hS (x_runS (As := [.long x1.toInt64, .long 0, .long (((w.1 0 3) - 1).toInt64)]) (rest := []) X gM_ok hP hS (ctX8_in l D c3 ad w _ x1.toInt64 0 (((w.1 0 3) - 1).toInt64) _ e_1) (va_cwS 3 hts gX8_isSaying_X8_in rfl rfl rfl (by decide +kernel) ⟨by decide, by decide⟩) rfl hl.1 rfl (Nat.le_of_ble_eq_true rfl) dX8_isSaying_10) (fun H locs hP hS => ?_)
  obtain ⟨g_4, h⟩ := gd_s h
  obtain rfl := Option.some.inj h
  exact hret g_4 _ _ _ _ hP hS dX8_isSaying_13
def fX8_isSaying (x1 : Int32) (w : Mm) : Option (Int32) := fX8_isSaying_E x1 w
theorem ctX8_isSaying (l : Launch) (D : va_G) (c3 : C3) (ad : Nat → Nat) (w : Mm) (sz : Nat) (x1 : Int32) (r : Int32) (h : fX8_isSaying x1 w = some r) : Ci l yX8_isSaying wsX8_isSaying rmX8_isSaying D c3 (encM c3 ad) gM [.ref (ad 0), .int x1] w sz r w := by
  refine Ci.ofz (cc := cX8_isSaying) (maxL := 2) (encM_ok c3 ad) (by decide) rfl (Nat.le_of_ble_eq_true rfl) ?_
  intro p e s m below meth c A Q ls X hret hP hS hl
  exact bX8_isSaying_E X hret x1 _ _ ls hP hS hl h
def rmX8_bits : Room := { frames := 0, cells := 0, slots := 0, locals := 0 }
def fX8_bits_4 (x0 : Int32) : Nat → Int32 → Int32 → Option (Int32)
  | 0, _, _ => none
  | n + 1, x1, x2 => (if 12 ≤ x2 then some x1 else nm (x1 + ((x0 >>> (x2 &&& 31)) &&& 1)) (fun x1_2 => fX8_bits_4 x0 n x1_2 (x2 + 1)))
set_option maxRecDepth 20000 in
theorem bX8_bits_4 {p : Program} {l : Launch} {e : Env} {s : State} {m : MethodId} {args : Array Value} {below : List Frame} {meth : Method} {c : Code} {Q : State → Prop} {D : va_G} {c3 : C3} {ad : Nat → Nat} {A : Nat → Prop} {r : Int32} {w : Mm} (X : Cx p s m args c cX8_bits 3 RX8 wsX8_bits D c3 (encM c3 ad) gM A) (hret : Ri p l e (rmX8_bits) s m args below meth c Q cX8_bits D (encM c3 ad) A r w) : ∀ (x0 : Int32) (n : Nat) (x1 : Int32) (x2 : Int32) (H : Heap) (locs : List Loc) (ls : Array Slot), va_P D vwCl ((encM c3 ad) w) H → va_S A s.heap H locs → lv_has ls 3 [(0, .int x0), (1, .int x1), (2, .int x2)] → fX8_bits_4 x0 n x1 x2 = some r → W p l e (rmX8_bits) s m args below meth c H locs 0 0 Q (F0 m 4 ls []) := by
  have hx := X.1
  have hb := X.2.1
  have hml := X.2.2.1
  have hown := X.2.2.2.1
  have hts := X.2.2.2.2.1
  intro x0 n
  induction n with
  | zero =>
    intro x1 x2 H locs ls hP hS hl h
    exact absurd h (by simp [fX8_bits_4])
  | succ n ih =>
    intro x1 x2 H locs ls hP hS hl h
    rw [fX8_bits_4] at h
    refine lv_iload_n hx hb dX8_bits_4 rfl (lv_at hl 2 rfl) ?_
    refine lv_bipush (v := 12) hx hb dX8_bits_5 (by decide) ?_
    refine lv_icmp_ge (tgt := 24) hx hb dX8_bits_7 (by decide) (fun c_1 => ?_) (fun c_1 => ?_)
    · replace h := it_p c_1 h
      refine lv_iload_n hx hb dX8_bits_24 rfl (lv_at hl 1 rfl) ?_
      obtain rfl := Option.some.inj h
      exact hret _ _ _ _ hP hS dX8_bits_25
    · replace h := it_n c_1 h
      refine lv_iload_n hx hb dX8_bits_10 rfl (lv_at hl 1 rfl) ?_
      refine lv_iload_n hx hb dX8_bits_11 rfl (lv_at hl 0 rfl) ?_
      refine lv_iload_n hx hb dX8_bits_12 rfl (lv_at hl 2 rfl) ?_
      refine lv_ishr hx hb dX8_bits_13 ?_
      refine lv_iconst (v := 1) hx hb dX8_bits_14 (by decide) ?_
      refine lv_iand hx hb dX8_bits_15 ?_
      refine lv_iadd hx hb dX8_bits_16 ?_
      refine x_nmi h (fun x1_2 h => ?_)
      refine lv_istore_n (lv' := [(1, .int x1_2), (0, .int x0), (2, .int x2)]) hx hb dX8_bits_17 rfl hl (by decide) rfl (fun ls hl => ?_)
      refine lv_iinc (v := (x2 + 1)) (lv' := [(2, .int (x2 + 1)), (1, .int x1_2), (0, .int x0)]) hx hb dX8_bits_18 hl (k := 2) rfl rfl (by decide) rfl (fun ls hl => ?_)
      refine lv_goto (tgt := 4) hx hb dX8_bits_21 (by decide) ?_
      exact ih x1_2 (x2 + 1) _ _ _ hP hS (lv_sub hl [2, 1, 0] rfl) h
def fX8_bits_E (x0 : Int32) : Option (Int32) := fX8_bits_4 x0 FU 0 0
set_option maxRecDepth 20000 in
theorem bX8_bits_E {p : Program} {l : Launch} {e : Env} {s : State} {m : MethodId} {args : Array Value} {below : List Frame} {meth : Method} {c : Code} {Q : State → Prop} {D : va_G} {c3 : C3} {ad : Nat → Nat} {A : Nat → Prop} {r : Int32} {w : Mm} (X : Cx p s m args c cX8_bits 3 RX8 wsX8_bits D c3 (encM c3 ad) gM A) (hret : Ri p l e (rmX8_bits) s m args below meth c Q cX8_bits D (encM c3 ad) A r w) : ∀ (x0 : Int32) (H : Heap) (locs : List Loc) (ls : Array Slot), va_P D vwCl ((encM c3 ad) w) H → va_S A s.heap H locs → lv_has ls 3 [(0, .int x0)] → fX8_bits_E x0 = some r → W p l e (rmX8_bits) s m args below meth c H locs 0 0 Q (F0 m 0 ls []) := by
  have hx := X.1
  have hb := X.2.1
  have hml := X.2.2.1
  have hown := X.2.2.2.1
  have hts := X.2.2.2.2.1
  intro x0 H locs ls hP hS hl h
  unfold fX8_bits_E at h
  refine lv_iconst (v := 0) hx hb dX8_bits_0 (by decide) ?_
  refine lv_istore_n (lv' := [(1, .int 0), (0, .int x0)]) hx hb dX8_bits_1 rfl hl (by decide) rfl (fun ls hl => ?_)
  refine lv_iconst (v := 0) hx hb dX8_bits_2 (by decide) ?_
  refine lv_istore_n (lv' := [(2, .int 0), (1, .int 0), (0, .int x0)]) hx hb dX8_bits_3 rfl hl (by decide) rfl (fun ls hl => ?_)
  exact bX8_bits_4 X hret x0 FU 0 0 _ _ _ hP hS (lv_sub hl [2, 1, 0] rfl) h
def fX8_bits (x0 : Int32) : Option (Int32) := fX8_bits_E x0
theorem ctX8_bits (l : Launch) (D : va_G) (c3 : C3) (ad : Nat → Nat) (w : Mm) (sz : Nat) (x0 : Int32) (r : Int32) (h : fX8_bits x0 = some r) : Ci l yX8_bits wsX8_bits rmX8_bits D c3 (encM c3 ad) gM [.int x0] w sz r w := by
  refine Ci.of (cc := cX8_bits) (maxL := 3) (encM_ok c3 ad) (by decide) rfl (Nat.le_of_ble_eq_true rfl) ?_
  intro p e s m below meth c A Q ls X hret hP hS hl
  exact bX8_bits_E X hret x0 _ _ ls hP hS hl h
def rmX8_openOf : Room := { frames := 1, cells := 0, slots := 0, locals := 22 }
def fX8_openOf_E (x0 : Int32) : Option (Int32) := bo (fX8_bits (7 &&& (x0 ^^^ (-1)))) (fun r_2 => some r_2)
set_option maxRecDepth 20000 in
theorem bX8_openOf_E {p : Program} {l : Launch} {e : Env} {s : State} {m : MethodId} {args : Array Value} {below : List Frame} {meth : Method} {c : Code} {Q : State → Prop} {D : va_G} {c3 : C3} {ad : Nat → Nat} {A : Nat → Prop} {r : Int32} {w : Mm} (X : Cx p s m args c cX8_openOf 1 RX8 wsX8_openOf D c3 (encM c3 ad) gM A) (hret : Ri p l e (rmX8_openOf) s m args below meth c Q cX8_openOf D (encM c3 ad) A r w) : ∀ (x0 : Int32) (H : Heap) (locs : List Loc) (ls : Array Slot), va_P D vwCl ((encM c3 ad) w) H → va_S A s.heap H locs → lv_has ls 1 [(0, .int x0)] → fX8_openOf_E x0 = some r → W p l e (rmX8_openOf) s m args below meth c H locs 0 0 Q (F0 m 0 ls []) := by
  have hx := X.1
  have hb := X.2.1
  have hml := X.2.2.1
  have hown := X.2.2.2.1
  have hts := X.2.2.2.2.1
  intro x0 H locs ls hP hS hl h
  unfold fX8_openOf_E at h
  refine lv_bipush (v := 7) hx hb dX8_openOf_0 (by decide) ?_
  refine lv_iload_n hx hb dX8_openOf_2 rfl (lv_at hl 0 rfl) ?_
  refine lv_iconst (v := (-1)) hx hb dX8_openOf_3 (by decide) ?_
  refine lv_ixor hx hb dX8_openOf_4 ?_
  refine lv_iand hx hb dX8_openOf_5 ?_
  obtain ⟨r_2, e_1, h⟩ := bo_s h
  refine x_goi X hS (x_runS (As := [.int (7 &&& (x0 ^^^ (-1)))]) (rest := []) X gM_ok hP hS (ctX8_bits l D c3 ad w _ (7 &&& (x0 ^^^ (-1))) _ e_1) (va_cwS 1 hts gX8_openOf_X8_bits rfl rfl rfl (by decide +kernel) ⟨by decide, by decide⟩) rfl hl.1 rfl (Nat.le_of_ble_eq_true rfl) dX8_openOf_6) (fun H locs hP hS => ?_)
  obtain rfl := Option.some.inj h
  exact hret _ _ _ _ hP hS dX8_openOf_9
def fX8_openOf (x0 : Int32) : Option (Int32) := fX8_openOf_E x0
theorem ctX8_openOf (l : Launch) (D : va_G) (c3 : C3) (ad : Nat → Nat) (w : Mm) (sz : Nat) (x0 : Int32) (r : Int32) (h : fX8_openOf x0 = some r) : Ci l yX8_openOf wsX8_openOf rmX8_openOf D c3 (encM c3 ad) gM [.int x0] w sz r w := by
  refine Ci.of (cc := cX8_openOf) (maxL := 1) (encM_ok c3 ad) (by decide) rfl (Nat.le_of_ble_eq_true rfl) ?_
  intro p e s m below meth c A Q ls X hret hP hS hl
  exact bX8_openOf_E X hret x0 _ _ ls hP hS hl h
def rmX8_nearBy : Room := { frames := 0, cells := 0, slots := 0, locals := 0 }
def fX8_nearBy_E (x0 : Int32) (x1 : Int32) (x2 : Int32) (x3 : Int32) : Option (Int32) := (if x0 = 1 then some (x1 + x2) else (if x0 = 2 then some (x1 / 2) else (if x0 = 3 then (if 2 ≤ (x1 + x2) then some ((x1 + x2) - 2) else some 0) else (if x0 = 4 then some ((x1 / 2) + x3) else (if x0 = 5 then some (2 * (x1 + x2)) else some x1)))))
set_option maxRecDepth 20000 in
theorem bX8_nearBy_E {p : Program} {l : Launch} {e : Env} {s : State} {m : MethodId} {args : Array Value} {below : List Frame} {meth : Method} {c : Code} {Q : State → Prop} {D : va_G} {c3 : C3} {ad : Nat → Nat} {A : Nat → Prop} {r : Int32} {w : Mm} (X : Cx p s m args c cX8_nearBy 4 RX8 wsX8_nearBy D c3 (encM c3 ad) gM A) (hret : Ri p l e (rmX8_nearBy) s m args below meth c Q cX8_nearBy D (encM c3 ad) A r w) : ∀ (x0 : Int32) (x1 : Int32) (x2 : Int32) (x3 : Int32) (H : Heap) (locs : List Loc) (ls : Array Slot), va_P D vwCl ((encM c3 ad) w) H → va_S A s.heap H locs → lv_has ls 4 [(0, .int x0), (1, .int x1), (2, .int x2), (3, .int x3)] → fX8_nearBy_E x0 x1 x2 x3 = some r → W p l e (rmX8_nearBy) s m args below meth c H locs 0 0 Q (F0 m 0 ls []) := by
  have hx := X.1
  have hb := X.2.1
  have hml := X.2.2.1
  have hown := X.2.2.2.1
  have hts := X.2.2.2.2.1
  intro x0 x1 x2 x3 H locs ls hP hS hl h
  unfold fX8_nearBy_E at h
  refine lv_iload_n hx hb dX8_nearBy_0 rfl (lv_at hl 0 rfl) ?_
  by_cases c_1 : x0 = 1
  · replace h := it_p c_1 h
    refine lv_tableIn (off := 35) (tgt := 36) hx hb dX8_nearBy_1 (by rw [c_1]; decide) (by rw [c_1]; decide) (by rw [c_1]; decide) (by decide) ?_
    refine lv_iload_n hx hb dX8_nearBy_36 rfl (lv_at hl 1 rfl) ?_
    refine lv_iload_n hx hb dX8_nearBy_37 rfl (lv_at hl 2 rfl) ?_
    refine lv_iadd hx hb dX8_nearBy_38 ?_
    obtain rfl := Option.some.inj h
    exact hret _ _ _ _ hP hS dX8_nearBy_39
  replace h := it_n c_1 h
  by_cases c_2 : x0 = 2
  · replace h := it_p c_2 h
    refine lv_tableIn (off := 39) (tgt := 40) hx hb dX8_nearBy_1 (by rw [c_2]; decide) (by rw [c_2]; decide) (by rw [c_2]; decide) (by decide) ?_
    refine lv_iload_n hx hb dX8_nearBy_40 rfl (lv_at hl 1 rfl) ?_
    refine lv_iconst (v := 2) hx hb dX8_nearBy_41 (by decide) ?_
    refine lv_idiv hx hb dX8_nearBy_42 (by decide) ?_
    obtain rfl := Option.some.inj h
    exact hret _ _ _ _ hP hS dX8_nearBy_43
  replace h := it_n c_2 h
  by_cases c_3 : x0 = 3
  · replace h := it_p c_3 h
    refine lv_tableIn (off := 43) (tgt := 44) hx hb dX8_nearBy_1 (by rw [c_3]; decide) (by rw [c_3]; decide) (by rw [c_3]; decide) (by decide) ?_
    refine lv_iload_n hx hb dX8_nearBy_44 rfl (lv_at hl 1 rfl) ?_
    refine lv_iload_n hx hb dX8_nearBy_45 rfl (lv_at hl 2 rfl) ?_
    refine lv_iadd hx hb dX8_nearBy_46 ?_
    refine lv_iconst (v := 2) hx hb dX8_nearBy_47 (by decide) ?_
    refine lv_icmp_ge (tgt := 55) hx hb dX8_nearBy_48 (by decide) (fun c_4 => ?_) (fun c_4 => ?_)
    · replace h := it_p c_4 h
      refine lv_iload_n hx hb dX8_nearBy_55 rfl (lv_at hl 1 rfl) ?_
      refine lv_iload_n hx hb dX8_nearBy_56 rfl (lv_at hl 2 rfl) ?_
      refine lv_iadd hx hb dX8_nearBy_57 ?_
      refine lv_iconst (v := 2) hx hb dX8_nearBy_58 (by decide) ?_
      refine lv_isub hx hb dX8_nearBy_59 ?_
      obtain rfl := Option.some.inj h
      exact hret _ _ _ _ hP hS dX8_nearBy_60
    · replace h := it_n c_4 h
      refine lv_iconst (v := 0) hx hb dX8_nearBy_51 (by decide) ?_
      refine lv_goto (tgt := 60) hx hb dX8_nearBy_52 (by decide) ?_
      obtain rfl := Option.some.inj h
      exact hret _ _ _ _ hP hS dX8_nearBy_60
  replace h := it_n c_3 h
  by_cases c_5 : x0 = 4
  · replace h := it_p c_5 h
    refine lv_tableIn (off := 60) (tgt := 61) hx hb dX8_nearBy_1 (by rw [c_5]; decide) (by rw [c_5]; decide) (by rw [c_5]; decide) (by decide) ?_
    refine lv_iload_n hx hb dX8_nearBy_61 rfl (lv_at hl 1 rfl) ?_
    refine lv_iconst (v := 2) hx hb dX8_nearBy_62 (by decide) ?_
    refine lv_idiv hx hb dX8_nearBy_63 (by decide) ?_
    refine lv_iload_n hx hb dX8_nearBy_64 rfl (lv_at hl 3 rfl) ?_
    refine lv_iadd hx hb dX8_nearBy_65 ?_
    obtain rfl := Option.some.inj h
    exact hret _ _ _ _ hP hS dX8_nearBy_66
  replace h := it_n c_5 h
  by_cases c_6 : x0 = 5
  · replace h := it_p c_6 h
    refine lv_tableIn (off := 66) (tgt := 67) hx hb dX8_nearBy_1 (by rw [c_6]; decide) (by rw [c_6]; decide) (by rw [c_6]; decide) (by decide) ?_
    refine lv_iconst (v := 2) hx hb dX8_nearBy_67 (by decide) ?_
    refine lv_iload_n hx hb dX8_nearBy_68 rfl (lv_at hl 1 rfl) ?_
    refine lv_iload_n hx hb dX8_nearBy_69 rfl (lv_at hl 2 rfl) ?_
    refine lv_iadd hx hb dX8_nearBy_70 ?_
    refine lv_imul hx hb dX8_nearBy_71 ?_
    obtain rfl := Option.some.inj h
    exact hret _ _ _ _ hP hS dX8_nearBy_72
  replace h := it_n c_6 h
  refine lv_tableOut (tgt := 73) hx hb dX8_nearBy_1 (by have := lv_neT c_1 (a := 1) rfl; have := lv_neT c_2 (a := 2) rfl; have := lv_neT c_3 (a := 3) rfl; have := lv_neT c_5 (a := 4) rfl; have := lv_neT c_6 (a := 5) rfl; omega) (by decide) ?_
  refine lv_iload_n hx hb dX8_nearBy_73 rfl (lv_at hl 1 rfl) ?_
  obtain rfl := Option.some.inj h
  exact hret _ _ _ _ hP hS dX8_nearBy_74
def fX8_nearBy (x0 : Int32) (x1 : Int32) (x2 : Int32) (x3 : Int32) : Option (Int32) := fX8_nearBy_E x0 x1 x2 x3
theorem ctX8_nearBy (l : Launch) (D : va_G) (c3 : C3) (ad : Nat → Nat) (w : Mm) (sz : Nat) (x0 : Int32) (x1 : Int32) (x2 : Int32) (x3 : Int32) (r : Int32) (h : fX8_nearBy x0 x1 x2 x3 = some r) : Ci l yX8_nearBy wsX8_nearBy rmX8_nearBy D c3 (encM c3 ad) gM [.int x0, .int x1, .int x2, .int x3] w sz r w := by
  refine Ci.of (cc := cX8_nearBy) (maxL := 4) (encM_ok c3 ad) (by decide) rfl (Nat.le_of_ble_eq_true rfl) ?_
  intro p e s m below meth c A Q ls X hret hP hS hl
  exact bX8_nearBy_E X hret x0 x1 x2 x3 _ _ ls hP hS hl h
theorem iwX8_nearOf_X8 : ∀ w ∈ wsX80, w ∈ wsX8_nearOf := fun _ h => List.mem_cons_of_mem _ (List.mem_append_right _ h)
theorem lkX8_nearOf_7 : Cond.fieldLink RX8 7 "StuckDoorModel" "row" "[I" ∈ wsX8_nearOf := by decide +kernel
theorem lkX8_nearOf_16 : Cond.fieldLink RX8 16 "StuckDoorModel" "kinds" "[I" ∈ wsX8_nearOf := by decide +kernel
theorem lkX8_nearOf_19 : Cond.fieldLink RX8 19 "StuckDoorModel" "nears" "[I" ∈ wsX8_nearOf := by decide +kernel
def rmX8_nearOf : Room := { frames := 2, cells := 0, slots := 0, locals := 42 }
def fX8_nearOf_E (x1 : Int32) (x2 : Int32) (w : Mm) : Option (Int32) := gd (inb x2 6 = true) (gd (inb ((x1 + 5) + x2) 1655 = true) (gd (inb (x1 + 3) 1655 = true) (bo (fX8_openOf (w.1 1 (x1 + 3).toNatClampNeg)) (fun r_5 => bo (fX8_nearBy (w.1 3 x2.toNatClampNeg) (w.1 4 x2.toNatClampNeg) (w.1 1 ((x1 + 5) + x2).toNatClampNeg) r_5) (fun r_8 => some r_8)))))
set_option maxRecDepth 20000 in
theorem bX8_nearOf_E {p : Program} {l : Launch} {e : Env} {s : State} {m : MethodId} {args : Array Value} {below : List Frame} {meth : Method} {c : Code} {Q : State → Prop} {D : va_G} {c3 : C3} {ad : Nat → Nat} {A : Nat → Prop} {r : Int32} {w : Mm} (X : Cx p s m args c cX8_nearOf 3 RX8 wsX8_nearOf D c3 (encM c3 ad) gM A) (hret : Ri p l e (rmX8_nearOf) s m args below meth c Q cX8_nearOf D (encM c3 ad) A r w) : ∀ (x1 : Int32) (x2 : Int32) (H : Heap) (locs : List Loc) (ls : Array Slot), va_P D vwCl ((encM c3 ad) w) H → va_S A s.heap H locs → lv_has ls 3 [(0, .ref (ad 0)), (1, .int x1), (2, .int x2)] → fX8_nearOf_E x1 x2 w = some r → W p l e (rmX8_nearOf) s m args below meth c H locs 0 0 Q (F0 m 0 ls []) := by
  have hx := X.1
  have hb := X.2.1
  have hml := X.2.2.1
  have hown := X.2.2.2.1
  have hts := X.2.2.2.2.1
  intro x1 x2 H locs ls hP hS hl h
  unfold fX8_nearOf_E at h
  refine lv_aload_n hx hb dX8_nearOf_0 rfl (lv_at hl 0 rfl) ?_
  refine x_get (rest := []) X hP (gM0 c3 ad w) rfl iwX8_nearOf_X8 4 (by decide) lkX8_nearOf_16 rfl dX8_nearOf_1 ?_
  refine lv_iload_n hx hb dX8_nearOf_4 rfl (lv_at hl 2 rfl) ?_
  obtain ⟨g_1, h⟩ := gd_s h
  refine x_iald X hP (gM3 c3 ad w) g_1 dX8_nearOf_5 ?_
  refine lv_aload_n hx hb dX8_nearOf_6 rfl (lv_at hl 0 rfl) ?_
  refine x_get (rest := [.int (w.1 3 x2.toNatClampNeg)]) X hP (gM0 c3 ad w) rfl iwX8_nearOf_X8 5 (by decide) lkX8_nearOf_19 rfl dX8_nearOf_7 ?_
  refine lv_iload_n hx hb dX8_nearOf_10 rfl (lv_at hl 2 rfl) ?_
  refine x_iald X hP (gM4 c3 ad w) g_1 dX8_nearOf_11 ?_
  refine lv_aload_n hx hb dX8_nearOf_12 rfl (lv_at hl 0 rfl) ?_
  refine x_get (rest := [.int (w.1 4 x2.toNatClampNeg), .int (w.1 3 x2.toNatClampNeg)]) X hP (gM0 c3 ad w) rfl iwX8_nearOf_X8 0 (by decide) lkX8_nearOf_7 rfl dX8_nearOf_13 ?_
  refine lv_iload_n hx hb dX8_nearOf_16 rfl (lv_at hl 1 rfl) ?_
  refine lv_iconst (v := 5) hx hb dX8_nearOf_17 (by decide) ?_
  refine lv_iadd hx hb dX8_nearOf_18 ?_
  refine lv_iload_n hx hb dX8_nearOf_19 rfl (lv_at hl 2 rfl) ?_
  refine lv_iadd hx hb dX8_nearOf_20 ?_
  obtain ⟨g_2, h⟩ := gd_s h
  refine x_iald X hP (gM1 c3 ad w) g_2 dX8_nearOf_21 ?_
  refine lv_aload_n hx hb dX8_nearOf_22 rfl (lv_at hl 0 rfl) ?_
  refine x_get (rest := [.int (w.1 1 ((x1 + 5) + x2).toNatClampNeg), .int (w.1 4 x2.toNatClampNeg), .int (w.1 3 x2.toNatClampNeg)]) X hP (gM0 c3 ad w) rfl iwX8_nearOf_X8 0 (by decide) lkX8_nearOf_7 rfl dX8_nearOf_23 ?_
  refine lv_iload_n hx hb dX8_nearOf_26 rfl (lv_at hl 1 rfl) ?_
  refine lv_iconst (v := 3) hx hb dX8_nearOf_27 (by decide) ?_
  refine lv_iadd hx hb dX8_nearOf_28 ?_
  obtain ⟨g_3, h⟩ := gd_s h
  refine x_iald X hP (gM1 c3 ad w) g_3 dX8_nearOf_29 ?_
  obtain ⟨r_5, e_4, h⟩ := bo_s h
  refine x_goi X hS (x_runS (As := [.int (w.1 1 (x1 + 3).toNatClampNeg)]) (rest := [.int (w.1 1 ((x1 + 5) + x2).toNatClampNeg), .int (w.1 4 x2.toNatClampNeg), .int (w.1 3 x2.toNatClampNeg)]) X gM_ok hP hS (ctX8_openOf l D c3 ad w _ (w.1 1 (x1 + 3).toNatClampNeg) _ e_4) (va_cwS 1 hts gX8_nearOf_X8_openOf rfl rfl rfl (by decide +kernel) ⟨by decide, by decide⟩) rfl hl.1 rfl (Nat.le_of_ble_eq_true rfl) dX8_nearOf_30) (fun H locs hP hS => ?_)
  obtain ⟨r_8, e_7, h⟩ := bo_s h
  refine x_goi X hS (x_runS (As := [.int (w.1 3 x2.toNatClampNeg), .int (w.1 4 x2.toNatClampNeg), .int (w.1 1 ((x1 + 5) + x2).toNatClampNeg), .int r_5]) (rest := []) X gM_ok hP hS (ctX8_nearBy l D c3 ad w _ (w.1 3 x2.toNatClampNeg) (w.1 4 x2.toNatClampNeg) (w.1 1 ((x1 + 5) + x2).toNatClampNeg) r_5 _ e_7) (va_cwS 4 hts gX8_nearOf_X8_nearBy rfl rfl rfl (by decide +kernel) ⟨by decide, by decide⟩) rfl hl.1 rfl (Nat.le_of_ble_eq_true rfl) dX8_nearOf_33) (fun H locs hP hS => ?_)
  obtain rfl := Option.some.inj h
  exact hret _ _ _ _ hP hS dX8_nearOf_36
def fX8_nearOf (x1 : Int32) (x2 : Int32) (w : Mm) : Option (Int32) := fX8_nearOf_E x1 x2 w
theorem ctX8_nearOf (l : Launch) (D : va_G) (c3 : C3) (ad : Nat → Nat) (w : Mm) (sz : Nat) (x1 : Int32) (x2 : Int32) (r : Int32) (h : fX8_nearOf x1 x2 w = some r) : Ci l yX8_nearOf wsX8_nearOf rmX8_nearOf D c3 (encM c3 ad) gM [.ref (ad 0), .int x1, .int x2] w sz r w := by
  refine Ci.of (cc := cX8_nearOf) (maxL := 3) (encM_ok c3 ad) (by decide) rfl (Nat.le_of_ble_eq_true rfl) ?_
  intro p e s m below meth c A Q ls X hret hP hS hl
  exact bX8_nearOf_E X hret x1 x2 _ _ ls hP hS hl h
theorem iwX8_toldOf_X8 : ∀ w ∈ wsX80, w ∈ wsX8_toldOf := fun _ h => List.mem_cons_of_mem _ (List.mem_append_right _ h)
theorem lkX8_toldOf_7 : Cond.fieldLink RX8 7 "StuckDoorModel" "row" "[I" ∈ wsX8_toldOf := by decide +kernel
theorem lkX8_toldOf_16 : Cond.fieldLink RX8 16 "StuckDoorModel" "kinds" "[I" ∈ wsX8_toldOf := by decide +kernel
theorem lkX8_toldOf_19 : Cond.fieldLink RX8 19 "StuckDoorModel" "nears" "[I" ∈ wsX8_toldOf := by decide +kernel
theorem lkX8_toldOf_22 : Cond.fieldLink RX8 22 "StuckDoorModel" "topics" "[I" ∈ wsX8_toldOf := by decide +kernel
def rmX8_toldOf : Room := { frames := 3, cells := 0, slots := 0, locals := 64 }
def fX8_toldOf_E (x1 : Int32) (x2 : Int32) (w : Mm) : Option (Int32) := (if x2 = 0 then gd (inb x1 6 = true) (some (w.1 3 x1.toNatClampNeg)) else (if x2 = 1 then gd (inb x1 6 = true) (some (w.1 4 x1.toNatClampNeg)) else (if x2 = 2 then bo (fX8_nearOf 0 x1 w) (fun r_7 => some r_7) else (if x2 = 3 then gd (inb x1 6 = true) (some (w.1 5 x1.toNatClampNeg)) else gd (inb (5 + x1) 1655 = true) (some (w.1 1 (5 + x1).toNatClampNeg))))))
set_option maxRecDepth 20000 in
theorem bX8_toldOf_E {p : Program} {l : Launch} {e : Env} {s : State} {m : MethodId} {args : Array Value} {below : List Frame} {meth : Method} {c : Code} {Q : State → Prop} {D : va_G} {c3 : C3} {ad : Nat → Nat} {A : Nat → Prop} {r : Int32} {w : Mm} (X : Cx p s m args c cX8_toldOf 3 RX8 wsX8_toldOf D c3 (encM c3 ad) gM A) (hret : Ri p l e (rmX8_toldOf) s m args below meth c Q cX8_toldOf D (encM c3 ad) A r w) : ∀ (x1 : Int32) (x2 : Int32) (H : Heap) (locs : List Loc) (ls : Array Slot), va_P D vwCl ((encM c3 ad) w) H → va_S A s.heap H locs → lv_has ls 3 [(0, .ref (ad 0)), (1, .int x1), (2, .int x2)] → fX8_toldOf_E x1 x2 w = some r → W p l e (rmX8_toldOf) s m args below meth c H locs 0 0 Q (F0 m 0 ls []) := by
  have hx := X.1
  have hb := X.2.1
  have hml := X.2.2.1
  have hown := X.2.2.2.1
  have hts := X.2.2.2.2.1
  intro x1 x2 H locs ls hP hS hl h
  unfold fX8_toldOf_E at h
  refine lv_iload_n hx hb dX8_toldOf_0 rfl (lv_at hl 2 rfl) ?_
  by_cases c_1 : x2 = 0
  · replace h := it_p c_1 h
    refine lv_tableIn (off := 31) (tgt := 32) hx hb dX8_toldOf_1 (by rw [c_1]; decide) (by rw [c_1]; decide) (by rw [c_1]; decide) (by decide) ?_
    refine lv_aload_n hx hb dX8_toldOf_32 rfl (lv_at hl 0 rfl) ?_
    refine x_get (rest := []) X hP (gM0 c3 ad w) rfl iwX8_toldOf_X8 4 (by decide) lkX8_toldOf_16 rfl dX8_toldOf_33 ?_
    refine lv_iload_n hx hb dX8_toldOf_36 rfl (lv_at hl 1 rfl) ?_
    obtain ⟨g_2, h⟩ := gd_s h
    refine x_iald X hP (gM3 c3 ad w) g_2 dX8_toldOf_37 ?_
    obtain rfl := Option.some.inj h
    exact hret _ _ _ _ hP hS dX8_toldOf_38
  replace h := it_n c_1 h
  by_cases c_3 : x2 = 1
  · replace h := it_p c_3 h
    refine lv_tableIn (off := 38) (tgt := 39) hx hb dX8_toldOf_1 (by rw [c_3]; decide) (by rw [c_3]; decide) (by rw [c_3]; decide) (by decide) ?_
    refine lv_aload_n hx hb dX8_toldOf_39 rfl (lv_at hl 0 rfl) ?_
    refine x_get (rest := []) X hP (gM0 c3 ad w) rfl iwX8_toldOf_X8 5 (by decide) lkX8_toldOf_19 rfl dX8_toldOf_40 ?_
    refine lv_iload_n hx hb dX8_toldOf_43 rfl (lv_at hl 1 rfl) ?_
    obtain ⟨g_4, h⟩ := gd_s h
    refine x_iald X hP (gM4 c3 ad w) g_4 dX8_toldOf_44 ?_
    obtain rfl := Option.some.inj h
    exact hret _ _ _ _ hP hS dX8_toldOf_45
  replace h := it_n c_3 h
  by_cases c_5 : x2 = 2
  · replace h := it_p c_5 h
    refine lv_tableIn (off := 45) (tgt := 46) hx hb dX8_toldOf_1 (by rw [c_5]; decide) (by rw [c_5]; decide) (by rw [c_5]; decide) (by decide) ?_
    refine lv_aload_n hx hb dX8_toldOf_46 rfl (lv_at hl 0 rfl) ?_
    refine lv_iconst (v := 0) hx hb dX8_toldOf_47 (by decide) ?_
    refine lv_iload_n hx hb dX8_toldOf_48 rfl (lv_at hl 1 rfl) ?_
    obtain ⟨r_7, e_6, h⟩ := bo_s h
    refine x_goi X hS (x_runV (As := [.int 0, .int x1]) (rest := []) X gM_ok hP hS (ctX8_nearOf l D c3 ad w _ 0 x1 _ e_6) (cwV 2 hts gX8_toldOf_X8_nearOf rfl rfl rfl (by decide +kernel) ⟨by decide, by decide⟩) (gM0 c3 ad w) rfl rfl rfl hl.1 rfl (Nat.le_of_ble_eq_true rfl) dX8_toldOf_49) (fun H locs hP hS => ?_)
    obtain rfl := Option.some.inj h
    exact hret _ _ _ _ hP hS dX8_toldOf_52
  replace h := it_n c_5 h
  by_cases c_9 : x2 = 3
  · replace h := it_p c_9 h
    refine lv_tableIn (off := 52) (tgt := 53) hx hb dX8_toldOf_1 (by rw [c_9]; decide) (by rw [c_9]; decide) (by rw [c_9]; decide) (by decide) ?_
    refine lv_aload_n hx hb dX8_toldOf_53 rfl (lv_at hl 0 rfl) ?_
    refine x_get (rest := []) X hP (gM0 c3 ad w) rfl iwX8_toldOf_X8 6 (by decide) lkX8_toldOf_22 rfl dX8_toldOf_54 ?_
    refine lv_iload_n hx hb dX8_toldOf_57 rfl (lv_at hl 1 rfl) ?_
    obtain ⟨g_10, h⟩ := gd_s h
    refine x_iald X hP (gM5 c3 ad w) g_10 dX8_toldOf_58 ?_
    obtain rfl := Option.some.inj h
    exact hret _ _ _ _ hP hS dX8_toldOf_59
  replace h := it_n c_9 h
  refine lv_tableOut (tgt := 60) hx hb dX8_toldOf_1 (by have := lv_neT c_1 (a := 0) rfl; have := lv_neT c_3 (a := 1) rfl; have := lv_neT c_5 (a := 2) rfl; have := lv_neT c_9 (a := 3) rfl; omega) (by decide) ?_
  refine lv_aload_n hx hb dX8_toldOf_60 rfl (lv_at hl 0 rfl) ?_
  refine x_get (rest := []) X hP (gM0 c3 ad w) rfl iwX8_toldOf_X8 0 (by decide) lkX8_toldOf_7 rfl dX8_toldOf_61 ?_
  refine lv_iconst (v := 5) hx hb dX8_toldOf_64 (by decide) ?_
  refine lv_iload_n hx hb dX8_toldOf_65 rfl (lv_at hl 1 rfl) ?_
  refine lv_iadd hx hb dX8_toldOf_66 ?_
  obtain ⟨g_11, h⟩ := gd_s h
  refine x_iald X hP (gM1 c3 ad w) g_11 dX8_toldOf_67 ?_
  obtain rfl := Option.some.inj h
  exact hret _ _ _ _ hP hS dX8_toldOf_68
def fX8_toldOf (x1 : Int32) (x2 : Int32) (w : Mm) : Option (Int32) := fX8_toldOf_E x1 x2 w
theorem ctX8_toldOf (l : Launch) (D : va_G) (c3 : C3) (ad : Nat → Nat) (w : Mm) (sz : Nat) (x1 : Int32) (x2 : Int32) (r : Int32) (h : fX8_toldOf x1 x2 w = some r) : Ci l yX8_toldOf wsX8_toldOf rmX8_toldOf D c3 (encM c3 ad) gM [.ref (ad 0), .int x1, .int x2] w sz r w := by
  refine Ci.of (cc := cX8_toldOf) (maxL := 3) (encM_ok c3 ad) (by decide) rfl (Nat.le_of_ble_eq_true rfl) ?_
  intro p e s m below meth c A Q ls X hret hP hS hl
  exact bX8_toldOf_E X hret x1 x2 _ _ ls hP hS hl h
def rmX8_saying : Room := { frames := 4, cells := 0, slots := 0, locals := 86 }
def fX8_saying_E (x1 : Int32) (x2 : Int32) (w : Mm) : Option (Int32 × Mm) := bo (fX8_isSaying x1 w) (fun r_2 => (if r_2 = 0 then some ((-1), w) else bo (fX8_in x2.toInt64 0 4) (fun r_6 => (if r_6 = 0 then some ((-1), w) else bo (fX8_toldOf x1 x2 w) (fun r_10 => bd (fX8_tell r_10 w) (fun r_13 w_14 => some (r_13, w_14)))))))
set_option maxRecDepth 20000 in
theorem bX8_saying_E {p : Program} {l : Launch} {e : Env} {s : State} {m : MethodId} {args : Array Value} {below : List Frame} {meth : Method} {c : Code} {Q : State → Prop} {D : va_G} {c3 : C3} {ad : Nat → Nat} {A : Nat → Prop} {r : Int32} {w' : Mm} (X : Cx p s m args c cX8_saying 3 RX8 wsX8_saying D c3 (encM c3 ad) gM A) (hret : Ri p l e (rmX8_saying) s m args below meth c Q cX8_saying D (encM c3 ad) A r w') : ∀ (x1 : Int32) (x2 : Int32) (w : Mm) (H : Heap) (locs : List Loc) (ls : Array Slot), va_P D vwCl ((encM c3 ad) w) H → va_S A s.heap H locs → lv_has ls 3 [(0, .ref (ad 0)), (1, .int x1), (2, .int x2)] → fX8_saying_E x1 x2 w = some (r, w') → W p l e (rmX8_saying) s m args below meth c H locs 0 0 Q (F0 m 0 ls []) := by
  have hx := X.1
  have hb := X.2.1
  have hml := X.2.2.1
  have hown := X.2.2.2.1
  have hts := X.2.2.2.2.1
  intro x1 x2 w H locs ls hP hS hl h
  unfold fX8_saying_E at h
  refine lv_aload_n hx hb dX8_saying_0 rfl (lv_at hl 0 rfl) ?_
  refine lv_iload_n hx hb dX8_saying_1 rfl (lv_at hl 1 rfl) ?_
  obtain ⟨r_2, e_1, h⟩ := bo_s h
  refine x_goi X hS (x_runV (As := [.int x1]) (rest := []) X gM_ok hP hS (ctX8_isSaying l D c3 ad w _ x1 _ e_1) (cwV 1 hts gX8_saying_X8_isSaying rfl rfl rfl (by decide +kernel) ⟨by decide, by decide⟩) (gM0 c3 ad w) rfl rfl rfl hl.1 rfl (Nat.le_of_ble_eq_true rfl) dX8_saying_2) (fun H locs hP hS => ?_)
  refine lv_if_eq (tgt := 33) hx hb dX8_saying_5 (by decide) (fun c_4 => ?_) (fun c_4 => ?_)
  · replace h := it_p c_4 h
    refine lv_iconst (v := (-1)) hx hb dX8_saying_33 (by decide) ?_
    obtain ⟨rfl, rfl⟩ := Prod.mk.inj (Option.some.inj h)
    exact hret _ _ _ _ hP hS dX8_saying_34
  · replace h := it_n c_4 h
    refine lv_iload_n hx hb dX8_saying_8 rfl (lv_at hl 2 rfl) ?_
    refine lv_i2l (v := x2.toInt64) hx hb dX8_saying_9 rfl ?_
    refine lv_lconst (v := 0) hx hb dX8_saying_10 (by decide) ?_
    refine lv_ldc2 (v := 4) hx hb hown (hts (.constantLong RX8 189 (4)) (by decide +kernel)) dX8_saying_11 ?_
    obtain ⟨r_6, e_5, h⟩ := bo_s h
    refine x_goi X hS (x_runS (As := [.long x2.toInt64, .long 0, .long 4]) (rest := []) X gM_ok hP hS (ctX8_in l D c3 ad w _ x2.toInt64 0 4 _ e_5) (va_cwS 3 hts gX8_saying_X8_in rfl rfl rfl (by decide +kernel) ⟨by decide, by decide⟩) rfl hl.1 rfl (Nat.le_of_ble_eq_true rfl) dX8_saying_14) (fun H locs hP hS => ?_)
    refine lv_if_eq (tgt := 33) hx hb dX8_saying_17 (by decide) (fun c_8 => ?_) (fun c_8 => ?_)
    · replace h := it_p c_8 h
      refine lv_iconst (v := (-1)) hx hb dX8_saying_33 (by decide) ?_
      obtain ⟨rfl, rfl⟩ := Prod.mk.inj (Option.some.inj h)
      exact hret _ _ _ _ hP hS dX8_saying_34
    · replace h := it_n c_8 h
      refine lv_aload_n hx hb dX8_saying_20 rfl (lv_at hl 0 rfl) ?_
      refine lv_aload_n hx hb dX8_saying_21 rfl (lv_at hl 0 rfl) ?_
      refine lv_iload_n hx hb dX8_saying_22 rfl (lv_at hl 1 rfl) ?_
      refine lv_iload_n hx hb dX8_saying_23 rfl (lv_at hl 2 rfl) ?_
      obtain ⟨r_10, e_9, h⟩ := bo_s h
      refine x_goi X hS (x_runV (As := [.int x1, .int x2]) (rest := [.ref (ad 0)]) X gM_ok hP hS (ctX8_toldOf l D c3 ad w _ x1 x2 _ e_9) (cwV 2 hts gX8_saying_X8_toldOf rfl rfl rfl (by decide +kernel) ⟨by decide, by decide⟩) (gM0 c3 ad w) rfl rfl rfl hl.1 rfl (Nat.le_of_ble_eq_true rfl) dX8_saying_24) (fun H locs hP hS => ?_)
      obtain ⟨r_13, w_14, e_12, h⟩ := bd_s h
      refine x_goi X hS (x_runV (As := [.int r_10]) (rest := []) X gM_ok hP hS (ctX8_tell l D c3 ad w _ r_10 _ _ e_12) (cwV 1 hts gX8_saying_X8_tell rfl rfl rfl (by decide +kernel) ⟨by decide, by decide⟩) (gM0 c3 ad w) rfl rfl rfl hl.1 rfl (Nat.le_of_ble_eq_true rfl) dX8_saying_27) (fun H locs hP hS => ?_)
      refine lv_goto (tgt := 34) hx hb dX8_saying_30 (by decide) ?_
      obtain ⟨rfl, rfl⟩ := Prod.mk.inj (Option.some.inj h)
      exact hret _ _ _ _ hP hS dX8_saying_34
def fX8_saying (x1 : Int32) (x2 : Int32) (w : Mm) : Option (Int32 × Mm) := fX8_saying_E x1 x2 w
theorem ctX8_saying (l : Launch) (D : va_G) (c3 : C3) (ad : Nat → Nat) (w : Mm) (sz : Nat) (x1 : Int32) (x2 : Int32) (r : Int32) (w' : Mm) (h : fX8_saying x1 x2 w = some (r, w')) : Ci l yX8_saying wsX8_saying rmX8_saying D c3 (encM c3 ad) gM [.ref (ad 0), .int x1, .int x2] w sz r w' := by
  refine Ci.of (cc := cX8_saying) (maxL := 3) (encM_ok c3 ad) (by decide) rfl (Nat.le_of_ble_eq_true rfl) ?_
  intro p e s m below meth c A Q ls X hret hP hS hl
  exact bX8_saying_E X hret x1 x2 w _ _ ls hP hS hl h
theorem iwX8_isOf_X8 : ∀ w ∈ wsX80, w ∈ wsX8_isOf := fun _ h => List.mem_cons_of_mem _ (List.mem_append_right _ h)
theorem lkX8_isOf_16 : Cond.fieldLink RX8 16 "StuckDoorModel" "kinds" "[I" ∈ wsX8_isOf := by decide +kernel
def rmX8_isOf : Room := { frames := 0, cells := 0, slots := 0, locals := 0 }
def fX8_isOf_37 (w : Mm) : Option (Int32) := some 1
set_option maxRecDepth 20000 in
theorem bX8_isOf_37 {p : Program} {l : Launch} {e : Env} {s : State} {m : MethodId} {args : Array Value} {below : List Frame} {meth : Method} {c : Code} {Q : State → Prop} {D : va_G} {c3 : C3} {ad : Nat → Nat} {A : Nat → Prop} {r : Int32} {w : Mm} (X : Cx p s m args c cX8_isOf 4 RX8 wsX8_isOf D c3 (encM c3 ad) gM A) (hret : Rz p l e (rmX8_isOf) s m args below meth c Q cX8_isOf D (encM c3 ad) A r w) : ∀ (H : Heap) (locs : List Loc) (ls : Array Slot), va_P D vwCl ((encM c3 ad) w) H → va_S A s.heap H locs → lv_has ls 4 [] → fX8_isOf_37 w = some r → W p l e (rmX8_isOf) s m args below meth c H locs 0 0 Q (F0 m 37 ls []) := by
  have hx := X.1
  have hb := X.2.1
  have hml := X.2.2.1
  have hown := X.2.2.2.1
  have hts := X.2.2.2.2.1
  intro H locs ls hP hS hl h
  unfold fX8_isOf_37 at h
  refine lv_iconst (v := 1) hx hb dX8_isOf_37 (by decide) ?_
  refine lv_goto (tgt := 42) hx hb dX8_isOf_38 (by decide) ?_
  obtain rfl := Option.some.inj h
  exact hret (Or.inr rfl) _ _ _ _ hP hS dX8_isOf_42
def fX8_isOf_27 (x2 : Int32) (x3 : Int32) (w : Mm) : Option (Int32) := (if x2 = 2 then (if x3 = 4 then fX8_isOf_37 w else some 0) else some 0)
set_option maxRecDepth 20000 in
theorem bX8_isOf_27 {p : Program} {l : Launch} {e : Env} {s : State} {m : MethodId} {args : Array Value} {below : List Frame} {meth : Method} {c : Code} {Q : State → Prop} {D : va_G} {c3 : C3} {ad : Nat → Nat} {A : Nat → Prop} {r : Int32} {w : Mm} (X : Cx p s m args c cX8_isOf 4 RX8 wsX8_isOf D c3 (encM c3 ad) gM A) (hret : Rz p l e (rmX8_isOf) s m args below meth c Q cX8_isOf D (encM c3 ad) A r w) : ∀ (x2 : Int32) (x3 : Int32) (H : Heap) (locs : List Loc) (ls : Array Slot), va_P D vwCl ((encM c3 ad) w) H → va_S A s.heap H locs → lv_has ls 4 [(2, .int x2), (3, .int x3)] → fX8_isOf_27 x2 x3 w = some r → W p l e (rmX8_isOf) s m args below meth c H locs 0 0 Q (F0 m 27 ls []) := by
  have hx := X.1
  have hb := X.2.1
  have hml := X.2.2.1
  have hown := X.2.2.2.1
  have hts := X.2.2.2.2.1
  intro x2 x3 H locs ls hP hS hl h
  unfold fX8_isOf_27 at h
  refine lv_iload_n hx hb dX8_isOf_27 rfl (lv_at hl 0 rfl) ?_
  refine lv_iconst (v := 2) hx hb dX8_isOf_28 (by decide) ?_
  refine lv_icmp_ne (tgt := 41) hx hb dX8_isOf_29 (by decide) (fun c_1 => ?_) (fun c_1 => ?_)
  · replace h := it_n c_1 h
    refine lv_iconst (v := 0) hx hb dX8_isOf_41 (by decide) ?_
    obtain rfl := Option.some.inj h
    exact hret (Or.inl rfl) _ _ _ _ hP hS dX8_isOf_42
  · replace h := it_p c_1 h
    refine lv_iload_n hx hb dX8_isOf_32 rfl (lv_at hl 1 rfl) ?_
    refine lv_iconst (v := 4) hx hb dX8_isOf_33 (by decide) ?_
    refine lv_icmp_ne (tgt := 41) hx hb dX8_isOf_34 (by decide) (fun c_2 => ?_) (fun c_2 => ?_)
    · replace h := it_n c_2 h
      refine lv_iconst (v := 0) hx hb dX8_isOf_41 (by decide) ?_
      obtain rfl := Option.some.inj h
      exact hret (Or.inl rfl) _ _ _ _ hP hS dX8_isOf_42
    · replace h := it_p c_2 h
      exact bX8_isOf_37 X hret _ _ _ hP hS (lv_sub hl [] rfl) h
def fX8_isOf_E (x1 : Int32) (x2 : Int32) (w : Mm) : Option (Int32) := gd (inb x1 6 = true) (nm (w.1 3 x1.toNatClampNeg) (fun x3_4 => (if x3_4 = x2 then fX8_isOf_37 w else (if x2 = 1 then (if x3_4 = 3 then fX8_isOf_37 w else (if x3_4 = 5 then fX8_isOf_37 w else fX8_isOf_27 x2 x3_4 w)) else fX8_isOf_27 x2 x3_4 w))))
set_option maxRecDepth 20000 in
theorem bX8_isOf_E {p : Program} {l : Launch} {e : Env} {s : State} {m : MethodId} {args : Array Value} {below : List Frame} {meth : Method} {c : Code} {Q : State → Prop} {D : va_G} {c3 : C3} {ad : Nat → Nat} {A : Nat → Prop} {r : Int32} {w : Mm} (X : Cx p s m args c cX8_isOf 4 RX8 wsX8_isOf D c3 (encM c3 ad) gM A) (hret : Rz p l e (rmX8_isOf) s m args below meth c Q cX8_isOf D (encM c3 ad) A r w) : ∀ (x1 : Int32) (x2 : Int32) (H : Heap) (locs : List Loc) (ls : Array Slot), va_P D vwCl ((encM c3 ad) w) H → va_S A s.heap H locs → lv_has ls 4 [(0, .ref (ad 0)), (1, .int x1), (2, .int x2)] → fX8_isOf_E x1 x2 w = some r → W p l e (rmX8_isOf) s m args below meth c H locs 0 0 Q (F0 m 0 ls []) := by
  have hx := X.1
  have hb := X.2.1
  have hml := X.2.2.1
  have hown := X.2.2.2.1
  have hts := X.2.2.2.2.1
  intro x1 x2 H locs ls hP hS hl h
  unfold fX8_isOf_E at h
  refine lv_aload_n hx hb dX8_isOf_0 rfl (lv_at hl 0 rfl) ?_
  refine x_get (rest := []) X hP (gM0 c3 ad w) rfl iwX8_isOf_X8 4 (by decide) lkX8_isOf_16 rfl dX8_isOf_1 ?_
  refine lv_iload_n hx hb dX8_isOf_4 rfl (lv_at hl 1 rfl) ?_
  obtain ⟨g_3, h⟩ := gd_s h
  refine x_iald X hP (gM3 c3 ad w) g_3 dX8_isOf_5 ?_
  refine x_nmi h (fun x3_4 h => ?_)
  refine lv_istore_n (lv' := [(3, .int x3_4), (0, .ref (ad 0)), (1, .int x1), (2, .int x2)]) hx hb dX8_isOf_6 rfl hl (by decide) rfl (fun ls hl => ?_)
  refine lv_iload_n hx hb dX8_isOf_7 rfl (lv_at hl 0 rfl) ?_
  refine lv_iload_n hx hb dX8_isOf_8 rfl (lv_at hl 3 rfl) ?_
  refine lv_icmp_eq (tgt := 37) hx hb dX8_isOf_9 (by decide) (fun c_5 => ?_) (fun c_5 => ?_)
  · replace h := it_p c_5 h
    exact bX8_isOf_37 X hret _ _ _ hP hS (lv_sub hl [] rfl) h
  · replace h := it_n c_5 h
    refine lv_iload_n hx hb dX8_isOf_12 rfl (lv_at hl 3 rfl) ?_
    refine lv_iconst (v := 1) hx hb dX8_isOf_13 (by decide) ?_
    refine lv_icmp_ne (tgt := 27) hx hb dX8_isOf_14 (by decide) (fun c_6 => ?_) (fun c_6 => ?_)
    · replace h := it_n c_6 h
      exact bX8_isOf_27 X hret x2 x3_4 _ _ _ hP hS (lv_sub hl [3, 0] rfl) h
    · replace h := it_p c_6 h
      refine lv_iload_n hx hb dX8_isOf_17 rfl (lv_at hl 0 rfl) ?_
      refine lv_iconst (v := 3) hx hb dX8_isOf_18 (by decide) ?_
      refine lv_icmp_eq (tgt := 37) hx hb dX8_isOf_19 (by decide) (fun c_7 => ?_) (fun c_7 => ?_)
      · replace h := it_p c_7 h
        exact bX8_isOf_37 X hret _ _ _ hP hS (lv_sub hl [] rfl) h
      · replace h := it_n c_7 h
        refine lv_iload_n hx hb dX8_isOf_22 rfl (lv_at hl 0 rfl) ?_
        refine lv_iconst (v := 5) hx hb dX8_isOf_23 (by decide) ?_
        refine lv_icmp_eq (tgt := 37) hx hb dX8_isOf_24 (by decide) (fun c_8 => ?_) (fun c_8 => ?_)
        · replace h := it_p c_8 h
          exact bX8_isOf_37 X hret _ _ _ hP hS (lv_sub hl [] rfl) h
        · replace h := it_n c_8 h
          exact bX8_isOf_27 X hret x2 x3_4 _ _ _ hP hS (lv_sub hl [3, 0] rfl) h
def fX8_isOf (x1 : Int32) (x2 : Int32) (w : Mm) : Option (Int32) := fX8_isOf_E x1 x2 w
theorem ctX8_isOf (l : Launch) (D : va_G) (c3 : C3) (ad : Nat → Nat) (w : Mm) (sz : Nat) (x1 : Int32) (x2 : Int32) (r : Int32) (h : fX8_isOf x1 x2 w = some r) : Ci l yX8_isOf wsX8_isOf rmX8_isOf D c3 (encM c3 ad) gM [.ref (ad 0), .int x1, .int x2] w sz r w := by
  refine Ci.ofz (cc := cX8_isOf) (maxL := 4) (encM_ok c3 ad) (by decide) rfl (Nat.le_of_ble_eq_true rfl) ?_
  intro p e s m below meth c A Q ls X hret hP hS hl
  exact bX8_isOf_E X hret x1 x2 _ _ ls hP hS hl h
theorem iwX8_isOver_X8 : ∀ w ∈ wsX80, w ∈ wsX8_isOver := fun _ h => List.mem_cons_of_mem _ (List.mem_append_right _ h)
theorem lkX8_isOver_7 : Cond.fieldLink RX8 7 "StuckDoorModel" "row" "[I" ∈ wsX8_isOver := by decide +kernel
def rmX8_isOver : Room := { frames := 0, cells := 0, slots := 0, locals := 0 }
def fX8_isOver_E (w : Mm) : Option (Int32) := (if (w.1 1 4) = (-9) then some 0 else some 1)
set_option maxRecDepth 20000 in
theorem bX8_isOver_E {p : Program} {l : Launch} {e : Env} {s : State} {m : MethodId} {args : Array Value} {below : List Frame} {meth : Method} {c : Code} {Q : State → Prop} {D : va_G} {c3 : C3} {ad : Nat → Nat} {A : Nat → Prop} {r : Int32} {w : Mm} (X : Cx p s m args c cX8_isOver 1 RX8 wsX8_isOver D c3 (encM c3 ad) gM A) (hret : Rz p l e (rmX8_isOver) s m args below meth c Q cX8_isOver D (encM c3 ad) A r w) : ∀ (H : Heap) (locs : List Loc) (ls : Array Slot), va_P D vwCl ((encM c3 ad) w) H → va_S A s.heap H locs → lv_has ls 1 [(0, .ref (ad 0))] → fX8_isOver_E w = some r → W p l e (rmX8_isOver) s m args below meth c H locs 0 0 Q (F0 m 0 ls []) := by
  have hx := X.1
  have hb := X.2.1
  have hml := X.2.2.1
  have hown := X.2.2.2.1
  have hts := X.2.2.2.2.1
  intro H locs ls hP hS hl h
  unfold fX8_isOver_E at h
  refine lv_aload_n hx hb dX8_isOver_0 rfl (lv_at hl 0 rfl) ?_
  refine x_get (rest := []) X hP (gM0 c3 ad w) rfl iwX8_isOver_X8 0 (by decide) lkX8_isOver_7 rfl dX8_isOver_1 ?_
  refine lv_iconst (v := 4) hx hb dX8_isOver_4 (by decide) ?_
  refine x_ialdL (j := 4) X hP (gM1 c3 ad w) (by decide) rfl dX8_isOver_5 ?_
  refine lv_bipush (v := (-9)) hx hb dX8_isOver_6 (by decide) ?_
  refine lv_icmp_eq (tgt := 15) hx hb dX8_isOver_8 (by decide) (fun c_1 => ?_) (fun c_1 => ?_)
  · replace h := it_p c_1 h
    refine lv_iconst (v := 0) hx hb dX8_isOver_15 (by decide) ?_
    obtain rfl := Option.some.inj h
    exact hret (Or.inl rfl) _ _ _ _ hP hS dX8_isOver_16
  · replace h := it_n c_1 h
    refine lv_iconst (v := 1) hx hb dX8_isOver_11 (by decide) ?_
    refine lv_goto (tgt := 16) hx hb dX8_isOver_12 (by decide) ?_
    obtain rfl := Option.some.inj h
    exact hret (Or.inr rfl) _ _ _ _ hP hS dX8_isOver_16
def fX8_isOver (w : Mm) : Option (Int32) := fX8_isOver_E w
theorem ctX8_isOver (l : Launch) (D : va_G) (c3 : C3) (ad : Nat → Nat) (w : Mm) (sz : Nat) (r : Int32) (h : fX8_isOver w = some r) : Ci l yX8_isOver wsX8_isOver rmX8_isOver D c3 (encM c3 ad) gM [.ref (ad 0)] w sz r w := by
  refine Ci.ofz (cc := cX8_isOver) (maxL := 1) (encM_ok c3 ad) (by decide) rfl (Nat.le_of_ble_eq_true rfl) ?_
  intro p e s m below meth c A Q ls X hret hP hS hl
  exact bX8_isOver_E X hret _ _ ls hP hS hl h

theorem iwX8_put_X8 : ∀ w ∈ wsX80, w ∈ wsX8_put := fun _ h => List.mem_cons_of_mem _ (List.mem_append_right _ h)
theorem lkX8_put_31 : Cond.fieldLink RX8 31 "StuckDoorModel" "lengths" "[I" ∈ wsX8_put := by decide +kernel
theorem lkX8_put_34 : Cond.fieldLink RX8 34 "StuckDoorModel" "bytes" "[I" ∈ wsX8_put := by decide +kernel
def rmX8_put : Room := { frames := 2, cells := 0, slots := 0, locals := 45 }
def fX8_put_E (x1 : Int32) (x2 : Int32) (x3 : Int32) (w : Mm) : Option (Int32 × Mm) := bo (fX8_isText x1) (fun r_2 => (if r_2 = 0 then some ((-1), w) else gd (inb x1 4 = true) ((if 0 ≤ (w.1 8 x1.toNatClampNeg) then bo (fX8_in x2.toInt64 0 (((w.1 8 x1.toNatClampNeg) - 1).toInt64)) (fun r_8 => (if r_8 = 0 then bd (fX8_find 2 w) (fun r_15 w_16 => some (r_15, w_16)) else gd (inb ((60 * x1) + x2) 240 = true) (nm (w.1 9 ((60 * x1) + x2).toNatClampNeg) (fun x4_12 => nm (sA w 9 ((60 * x1) + x2).toNatClampNeg x3.toInt8.toInt32) (fun w_13 => some ((x4_12 + 1000), w_13)))))) else bd (fX8_find 1 w) (fun r_18 w_19 => some (r_18, w_19))))))
set_option maxRecDepth 20000 in
theorem bX8_put_E {p : Program} {l : Launch} {e : Env} {s : State} {m : MethodId} {args : Array Value} {below : List Frame} {meth : Method} {c : Code} {Q : State → Prop} {D : va_G} {c3 : C3} {ad : Nat → Nat} {A : Nat → Prop} {r : Int32} {w' : Mm} (X : Cx p s m args c cX8_put 5 RX8 wsX8_put D c3 (encM c3 ad) gM A) (hret : Ri p l e (rmX8_put) s m args below meth c Q cX8_put D (encM c3 ad) A r w') : ∀ (x1 : Int32) (x2 : Int32) (x3 : Int32) (w : Mm) (H : Heap) (locs : List Loc) (ls : Array Slot), va_P D vwCl ((encM c3 ad) w) H → va_S A s.heap H locs → lv_has ls 5 [(0, .ref (ad 0)), (1, .int x1), (2, .int x2), (3, .int x3)] → fX8_put_E x1 x2 x3 w = some (r, w') → W p l e (rmX8_put) s m args below meth c H locs 0 0 Q (F0 m 0 ls []) := by
  have hx := X.1
  have hb := X.2.1
  have hml := X.2.2.1
  have hown := X.2.2.2.1
  have hts := X.2.2.2.2.1
  intro x1 x2 x3 w H locs ls hP hS hl h
  unfold fX8_put_E at h
  refine lv_iload_n hx hb dX8_put_0 rfl (lv_at hl 1 rfl) ?_
  obtain ⟨r_2, e_1, h⟩ := bo_s h
  refine x_goi X hS (x_runS (As := [.int x1]) (rest := []) X gM_ok hP hS (ctX8_isText l D c3 ad w _ x1 _ e_1) (va_cwS 1 hts gX8_put_X8_isText rfl rfl rfl (by decide +kernel) ⟨by decide, by decide⟩) rfl hl.1 rfl (Nat.le_of_ble_eq_true rfl) dX8_put_1) (fun H locs hP hS => ?_)
  refine lv_if_ne (tgt := 9) hx hb dX8_put_4 (by decide) (fun c_4 => ?_) (fun c_4 => ?_)
  · replace h := it_n c_4 h
    refine lv_aload_n hx hb dX8_put_9 rfl (lv_at hl 0 rfl) ?_
    refine x_get (rest := []) X hP (gM0 c3 ad w) rfl iwX8_put_X8 10 (by decide) lkX8_put_31 rfl dX8_put_10 ?_
    refine lv_iload_n hx hb dX8_put_13 rfl (lv_at hl 1 rfl) ?_
    obtain ⟨g_5, h⟩ := gd_s h
    refine x_iald X hP (gM8 c3 ad w) g_5 dX8_put_14 ?_
    refine lv_if_ge (tgt := 24) hx hb dX8_put_15 (by decide) (fun c_6 => ?_) (fun c_6 => ?_)
    · replace h := it_p c_6 h
      refine lv_iload_n hx hb dX8_put_24 rfl (lv_at hl 2 rfl) ?_
      refine lv_i2l (v := x2.toInt64) hx hb dX8_put_25 rfl ?_
      refine lv_lconst (v := 0) hx hb dX8_put_26 (by decide) ?_
      refine lv_aload_n hx hb dX8_put_27 rfl (lv_at hl 0 rfl) ?_
      refine x_get (rest := [.long 0, .long x2.toInt64]) X hP (gM0 c3 ad w) rfl iwX8_put_X8 10 (by decide) lkX8_put_31 rfl dX8_put_28 ?_
      refine lv_iload_n hx hb dX8_put_31 rfl (lv_at hl 1 rfl) ?_
      refine x_iald X hP (gM8 c3 ad w) g_5 dX8_put_32 ?_
      refine lv_iconst (v := 1) hx hb dX8_put_33 (by decide) ?_
      refine lv_isub hx hb dX8_put_34 ?_
      refine lv_i2l (v := ((w.1 8 x1.toNatClampNeg) - 1).toInt64) hx hb dX8_put_35 rfl ?_
      obtain ⟨r_8, e_7, h⟩ := bo_s h
      refine x_goi X hS (x_runS (As := [.long x2.toInt64, .long 0, .long (((w.1 8 x1.toNatClampNeg) - 1).toInt64)]) (rest := []) X gM_ok hP hS (ctX8_in l D c3 ad w _ x2.toInt64 0 (((w.1 8 x1.toNatClampNeg) - 1).toInt64) _ e_7) (va_cwS 3 hts gX8_put_X8_in rfl rfl rfl (by decide +kernel) ⟨by decide, by decide⟩) rfl hl.1 rfl (Nat.le_of_ble_eq_true rfl) dX8_put_36) (fun H locs hP hS => ?_)
      refine lv_if_ne (tgt := 48) hx hb dX8_put_39 (by decide) (fun c_10 => ?_) (fun c_10 => ?_)
      · replace h := it_n c_10 h
        refine lv_aload_n hx hb dX8_put_48 rfl (lv_at hl 0 rfl) ?_
        refine x_get (rest := []) X hP (gM0 c3 ad w) rfl iwX8_put_X8 11 (by decide) lkX8_put_34 rfl dX8_put_49 ?_
        refine lv_bipush (v := 60) hx hb dX8_put_52 (by decide) ?_
        refine lv_iload_n hx hb dX8_put_54 rfl (lv_at hl 1 rfl) ?_
        refine lv_imul hx hb dX8_put_55 ?_
        refine lv_iload_n hx hb dX8_put_56 rfl (lv_at hl 2 rfl) ?_
        refine lv_iadd hx hb dX8_put_57 ?_
        obtain ⟨g_11, h⟩ := gd_s h
        refine x_iald X hP (gM9 c3 ad w) g_11 dX8_put_58 ?_
        refine x_nmi h (fun x4_12 h => ?_)
        refine lv_istore (lv' := [(4, .int x4_12), (0, .ref (ad 0)), (1, .int x1), (2, .int x2), (3, .int x3)]) hx hb dX8_put_59 hl (by decide) rfl (fun ls hl => ?_)
        refine lv_aload_n hx hb dX8_put_61 rfl (lv_at hl 1 rfl) ?_
        refine x_get (rest := []) X hP (gM0 c3 ad w) rfl iwX8_put_X8 11 (by decide) lkX8_put_34 rfl dX8_put_62 ?_
        refine lv_bipush (v := 60) hx hb dX8_put_65 (by decide) ?_
        refine lv_iload_n hx hb dX8_put_67 rfl (lv_at hl 2 rfl) ?_
        refine lv_imul hx hb dX8_put_68 ?_
        refine lv_iload_n hx hb dX8_put_69 rfl (lv_at hl 3 rfl) ?_
        refine lv_iadd hx hb dX8_put_70 ?_
        refine lv_iload_n hx hb dX8_put_71 rfl (lv_at hl 4 rfl) ?_
        refine lv_i2b (v := x3.toInt8.toInt32) hx hb dX8_put_72 rfl ?_
        refine x_iast X hP hS (gM9 c3 ad w) (sM9 c3 ad w _ _) g_11 dX8_put_73 (fun H locs hP hS => ?_)
        refine x_nmw h hP (fun w_13 h hP => ?_)
        refine lv_iload hx hb dX8_put_74 (lv_at hl 0 rfl) ?_
        refine lv_sipush (v := 1000) hx hb dX8_put_76 (by decide) ?_
        refine lv_iadd hx hb dX8_put_79 ?_
        obtain ⟨rfl, rfl⟩ := Prod.mk.inj (Option.some.inj h)
        exact hret _ _ _ _ hP hS dX8_put_80
      · replace h := it_p c_10 h
        refine lv_aload_n hx hb dX8_put_42 rfl (lv_at hl 0 rfl) ?_
        refine lv_iconst (v := 2) hx hb dX8_put_43 (by decide) ?_
        obtain ⟨r_15, w_16, e_14, h⟩ := bd_s h
        refine x_goi X hS (x_runV (As := [.int 2]) (rest := []) X gM_ok hP hS (ctX8_find l D c3 ad w _ 2 _ _ e_14) (cwV 1 hts gX8_put_X8_find rfl rfl rfl (by decide +kernel) ⟨by decide, by decide⟩) (gM0 c3 ad w) rfl rfl rfl hl.1 rfl (Nat.le_of_ble_eq_true rfl) dX8_put_44) (fun H locs hP hS => ?_)
        obtain ⟨rfl, rfl⟩ := Prod.mk.inj (Option.some.inj h)
        exact hret _ _ _ _ hP hS dX8_put_47
    · replace h := it_n c_6 h
      refine lv_aload_n hx hb dX8_put_18 rfl (lv_at hl 0 rfl) ?_
      refine lv_iconst (v := 1) hx hb dX8_put_19 (by decide) ?_
      obtain ⟨r_18, w_19, e_17, h⟩ := bd_s h
      refine x_goi X hS (x_runV (As := [.int 1]) (rest := []) X gM_ok hP hS (ctX8_find l D c3 ad w _ 1 _ _ e_17) (cwV 1 hts gX8_put_X8_find rfl rfl rfl (by decide +kernel) ⟨by decide, by decide⟩) (gM0 c3 ad w) rfl rfl rfl hl.1 rfl (Nat.le_of_ble_eq_true rfl) dX8_put_20) (fun H locs hP hS => ?_)
      obtain ⟨rfl, rfl⟩ := Prod.mk.inj (Option.some.inj h)
      exact hret _ _ _ _ hP hS dX8_put_23
  · replace h := it_p c_4 h
    refine lv_iconst (v := (-1)) hx hb dX8_put_7 (by decide) ?_
    obtain ⟨rfl, rfl⟩ := Prod.mk.inj (Option.some.inj h)
    exact hret _ _ _ _ hP hS dX8_put_8
def fX8_put (x1 : Int32) (x2 : Int32) (x3 : Int32) (w : Mm) : Option (Int32 × Mm) := fX8_put_E x1 x2 x3 w
theorem ctX8_put (l : Launch) (D : va_G) (c3 : C3) (ad : Nat → Nat) (w : Mm) (sz : Nat) (x1 : Int32) (x2 : Int32) (x3 : Int32) (r : Int32) (w' : Mm) (h : fX8_put x1 x2 x3 w = some (r, w')) : Ci l yX8_put wsX8_put rmX8_put D c3 (encM c3 ad) gM [.ref (ad 0), .int x1, .int x2, .int x3] w sz r w' := by
  refine Ci.of (cc := cX8_put) (maxL := 5) (encM_ok c3 ad) (by decide) rfl (Nat.le_of_ble_eq_true rfl) ?_
  intro p e s m below meth c A Q ls X hret hP hS hl
  exact bX8_put_E X hret x1 x2 x3 w _ _ ls hP hS hl h
theorem iwX8_here_X8 : ∀ w ∈ wsX80, w ∈ wsX8_here := fun _ h => List.mem_cons_of_mem _ (List.mem_append_right _ h)
theorem lkX8_here_34 : Cond.fieldLink RX8 34 "StuckDoorModel" "bytes" "[I" ∈ wsX8_here := by decide +kernel
theorem lkX8_here_113 : Cond.fieldLink RX8 113 "StuckDoorModel" "from" "I" ∈ wsX8_here := by decide +kernel
theorem lkX8_here_116 : Cond.fieldLink RX8 116 "StuckDoorModel" "place" "I" ∈ wsX8_here := by decide +kernel
def rmX8_here : Room := { frames := 0, cells := 0, slots := 0, locals := 0 }
def fX8_here_E (w : Mm) : Option (Int32) := gd (inb ((w.1 0 17) + (w.1 0 18)) 240 = true) (some (w.1 9 ((w.1 0 17) + (w.1 0 18)).toNatClampNeg))
set_option maxRecDepth 20000 in
theorem bX8_here_E {p : Program} {l : Launch} {e : Env} {s : State} {m : MethodId} {args : Array Value} {below : List Frame} {meth : Method} {c : Code} {Q : State → Prop} {D : va_G} {c3 : C3} {ad : Nat → Nat} {A : Nat → Prop} {r : Int32} {w : Mm} (X : Cx p s m args c cX8_here 1 RX8 wsX8_here D c3 (encM c3 ad) gM A) (hret : Ri p l e (rmX8_here) s m args below meth c Q cX8_here D (encM c3 ad) A r w) : ∀ (H : Heap) (locs : List Loc) (ls : Array Slot), va_P D vwCl ((encM c3 ad) w) H → va_S A s.heap H locs → lv_has ls 1 [(0, .ref (ad 0))] → fX8_here_E w = some r → W p l e (rmX8_here) s m args below meth c H locs 0 0 Q (F0 m 0 ls []) := by
  have hx := X.1
  have hb := X.2.1
  have hml := X.2.2.1
  have hown := X.2.2.2.1
  have hts := X.2.2.2.2.1
  intro H locs ls hP hS hl h
  unfold fX8_here_E at h
  refine lv_aload_n hx hb dX8_here_0 rfl (lv_at hl 0 rfl) ?_
  refine x_get (rest := []) X hP (gM0 c3 ad w) rfl iwX8_here_X8 11 (by decide) lkX8_here_34 rfl dX8_here_1 ?_
  refine lv_aload_n hx hb dX8_here_4 rfl (lv_at hl 0 rfl) ?_
  refine x_get (rest := [.ref (ad 9)]) X hP (gM0 c3 ad w) rfl iwX8_here_X8 17 (by decide) lkX8_here_113 rfl dX8_here_5 ?_
  refine lv_aload_n hx hb dX8_here_8 rfl (lv_at hl 0 rfl) ?_
  refine x_get (rest := [.int (w.1 0 17), .ref (ad 9)]) X hP (gM0 c3 ad w) rfl iwX8_here_X8 18 (by decide) lkX8_here_116 rfl dX8_here_9 ?_
  refine lv_iadd hx hb dX8_here_12 ?_
  obtain ⟨g_1, h⟩ := gd_s h
  refine x_iald X hP (gM9 c3 ad w) g_1 dX8_here_13 ?_
  obtain rfl := Option.some.inj h
  exact hret _ _ _ _ hP hS dX8_here_14
def fX8_here (w : Mm) : Option (Int32) := fX8_here_E w
theorem ctX8_here (l : Launch) (D : va_G) (c3 : C3) (ad : Nat → Nat) (w : Mm) (sz : Nat) (r : Int32) (h : fX8_here w = some r) : Ci l yX8_here wsX8_here rmX8_here D c3 (encM c3 ad) gM [.ref (ad 0)] w sz r w := by
  refine Ci.of (cc := cX8_here) (maxL := 1) (encM_ok c3 ad) (by decide) rfl (Nat.le_of_ble_eq_true rfl) ?_
  intro p e s m below meth c A Q ls X hret hP hS hl
  exact bX8_here_E X hret _ _ ls hP hS hl h
theorem iwX8_skip_X8 : ∀ w ∈ wsX80, w ∈ wsX8_skip := fun _ h => List.mem_cons_of_mem _ (List.mem_append_right _ h)
theorem lkX8_skip_116 : Cond.fieldLink RX8 116 "StuckDoorModel" "place" "I" ∈ wsX8_skip := by decide +kernel
theorem lkX8_skip_119 : Cond.fieldLink RX8 119 "StuckDoorModel" "end" "I" ∈ wsX8_skip := by decide +kernel
def rmX8_skip : Room := { frames := 1, cells := 0, slots := 0, locals := 20 }
def fX8_skip_0 : Nat → Mm → Option (Mm)
  | 0, _ => none
  | n + 1, w => (if (w.1 0 19) ≤ (w.1 0 18) then some w else bo (fX8_here w) (fun r_3 => (if r_3 = 32 then nm (sA w 0 18 ((w.1 0 18) + 1)) (fun w_6 => fX8_skip_0 n w_6) else some w)))
set_option maxRecDepth 20000 in
theorem bX8_skip_0 {p : Program} {l : Launch} {e : Env} {s : State} {m : MethodId} {args : Array Value} {below : List Frame} {meth : Method} {c : Code} {Q : State → Prop} {D : va_G} {c3 : C3} {ad : Nat → Nat} {A : Nat → Prop} {w' : Mm} (X : Cx p s m args c cX8_skip 1 RX8 wsX8_skip D c3 (encM c3 ad) gM A) (hret : Rv p l e (rmX8_skip) s m args below meth c Q cX8_skip D (encM c3 ad) A w') : ∀ (n : Nat) (w : Mm) (H : Heap) (locs : List Loc) (ls : Array Slot), va_P D vwCl ((encM c3 ad) w) H → va_S A s.heap H locs → lv_has ls 1 [(0, .ref (ad 0))] → fX8_skip_0 n w = some w' → W p l e (rmX8_skip) s m args below meth c H locs 0 0 Q (F0 m 0 ls []) := by
  have hx := X.1
  have hb := X.2.1
  have hml := X.2.2.1
  have hown := X.2.2.2.1
  have hts := X.2.2.2.2.1
  intro n
  induction n with
  | zero =>
    intro w H locs ls hP hS hl h
    exact absurd h (by simp [fX8_skip_0])
  | succ n ih =>
    intro w H locs ls hP hS hl h
    rw [fX8_skip_0] at h
    refine lv_aload_n hx hb dX8_skip_0 rfl (lv_at hl 0 rfl) ?_
    refine x_get (rest := []) X hP (gM0 c3 ad w) rfl iwX8_skip_X8 18 (by decide) lkX8_skip_116 rfl dX8_skip_1 ?_
    refine lv_aload_n hx hb dX8_skip_4 rfl (lv_at hl 0 rfl) ?_
    refine x_get (rest := [.int (w.1 0 18)]) X hP (gM0 c3 ad w) rfl iwX8_skip_X8 19 (by decide) lkX8_skip_119 rfl dX8_skip_5 ?_
    refine lv_icmp_ge (tgt := 33) hx hb dX8_skip_8 (by decide) (fun c_1 => ?_) (fun c_1 => ?_)
    · replace h := it_p c_1 h
      obtain rfl := Option.some.inj h
      exact hret _ _ _ _ hP hS dX8_skip_33
    · replace h := it_n c_1 h
      refine lv_aload_n hx hb dX8_skip_11 rfl (lv_at hl 0 rfl) ?_
      obtain ⟨r_3, e_2, h⟩ := bo_s h
      refine x_goi X hS (x_runV (As := []) (rest := []) X gM_ok hP hS (ctX8_here l D c3 ad w _ _ e_2) (cwV 0 hts gX8_skip_X8_here rfl rfl rfl (by decide +kernel) ⟨by decide, by decide⟩) (gM0 c3 ad w) rfl rfl rfl hl.1 rfl (Nat.le_of_ble_eq_true rfl) dX8_skip_12) (fun H locs hP hS => ?_)
      refine lv_bipush (v := 32) hx hb dX8_skip_15 (by decide) ?_
      refine lv_icmp_ne (tgt := 33) hx hb dX8_skip_17 (by decide) (fun c_5 => ?_) (fun c_5 => ?_)
      · replace h := it_n c_5 h
        obtain rfl := Option.some.inj h
        exact hret _ _ _ _ hP hS dX8_skip_33
      · replace h := it_p c_5 h
        refine lv_aload_n hx hb dX8_skip_20 rfl (lv_at hl 0 rfl) ?_
        refine lv_dup hx hb dX8_skip_21 rfl ?_
        refine x_get (rest := [.ref (ad 0)]) X hP (gM0 c3 ad w) rfl iwX8_skip_X8 18 (by decide) lkX8_skip_116 rfl dX8_skip_22 ?_
        refine lv_iconst (v := 1) hx hb dX8_skip_25 (by decide) ?_
        refine lv_iadd hx hb dX8_skip_26 ?_
        refine x_put (v := .int ((w.1 0 18) + 1)) X hP hS (gM0 c3 ad w) rfl iwX8_skip_X8 tyX8 tyX8_ok nmX8 18 (by decide) lkX8_skip_116 rfl rfl rfl (Nat.le_of_ble_eq_true rfl) (pM0_18 c3 ad w ((w.1 0 18) + 1)) dX8_skip_27 (fun H locs hP hS => ?_)
        refine x_nmw h hP (fun w_6 h hP => ?_)
        refine lv_goto (tgt := 0) hx hb dX8_skip_30 (by decide) ?_
        exact ih w_6 _ _ _ hP hS (lv_sub hl [0] rfl) h
def fX8_skip_E (w : Mm) : Option (Mm) := (if (w.1 0 19) ≤ (w.1 0 18) then some w else bo (fX8_here w) (fun r_9 => (if r_9 = 32 then nm (sA w 0 18 ((w.1 0 18) + 1)) (fun w_12 => fX8_skip_0 FU w_12) else some w)))
set_option maxRecDepth 20000 in
theorem bX8_skip_E {p : Program} {l : Launch} {e : Env} {s : State} {m : MethodId} {args : Array Value} {below : List Frame} {meth : Method} {c : Code} {Q : State → Prop} {D : va_G} {c3 : C3} {ad : Nat → Nat} {A : Nat → Prop} {w' : Mm} (X : Cx p s m args c cX8_skip 1 RX8 wsX8_skip D c3 (encM c3 ad) gM A) (hret : Rv p l e (rmX8_skip) s m args below meth c Q cX8_skip D (encM c3 ad) A w') : ∀ (w : Mm) (H : Heap) (locs : List Loc) (ls : Array Slot), va_P D vwCl ((encM c3 ad) w) H → va_S A s.heap H locs → lv_has ls 1 [(0, .ref (ad 0))] → fX8_skip_E w = some w' → W p l e (rmX8_skip) s m args below meth c H locs 0 0 Q (F0 m 0 ls []) := by
  have hx := X.1
  have hb := X.2.1
  have hml := X.2.2.1
  have hown := X.2.2.2.1
  have hts := X.2.2.2.2.1
  intro w H locs ls hP hS hl h
  unfold fX8_skip_E at h
  refine lv_aload_n hx hb dX8_skip_0 rfl (lv_at hl 0 rfl) ?_
  refine x_get (rest := []) X hP (gM0 c3 ad w) rfl iwX8_skip_X8 18 (by decide) lkX8_skip_116 rfl dX8_skip_1 ?_
  refine lv_aload_n hx hb dX8_skip_4 rfl (lv_at hl 0 rfl) ?_
  refine x_get (rest := [.int (w.1 0 18)]) X hP (gM0 c3 ad w) rfl iwX8_skip_X8 19 (by decide) lkX8_skip_119 rfl dX8_skip_5 ?_
  refine lv_icmp_ge (tgt := 33) hx hb dX8_skip_8 (by decide) (fun c_7 => ?_) (fun c_7 => ?_)
  · replace h := it_p c_7 h
    obtain rfl := Option.some.inj h
    exact hret _ _ _ _ hP hS dX8_skip_33
  · replace h := it_n c_7 h
    refine lv_aload_n hx hb dX8_skip_11 rfl (lv_at hl 0 rfl) ?_
    obtain ⟨r_9, e_8, h⟩ := bo_s h
    refine x_goi X hS (x_runV (As := []) (rest := []) X gM_ok hP hS (ctX8_here l D c3 ad w _ _ e_8) (cwV 0 hts gX8_skip_X8_here rfl rfl rfl (by decide +kernel) ⟨by decide, by decide⟩) (gM0 c3 ad w) rfl rfl rfl hl.1 rfl (Nat.le_of_ble_eq_true rfl) dX8_skip_12) (fun H locs hP hS => ?_)
    refine lv_bipush (v := 32) hx hb dX8_skip_15 (by decide) ?_
    refine lv_icmp_ne (tgt := 33) hx hb dX8_skip_17 (by decide) (fun c_11 => ?_) (fun c_11 => ?_)
    · replace h := it_n c_11 h
      obtain rfl := Option.some.inj h
      exact hret _ _ _ _ hP hS dX8_skip_33
    · replace h := it_p c_11 h
      refine lv_aload_n hx hb dX8_skip_20 rfl (lv_at hl 0 rfl) ?_
      refine lv_dup hx hb dX8_skip_21 rfl ?_
      refine x_get (rest := [.ref (ad 0)]) X hP (gM0 c3 ad w) rfl iwX8_skip_X8 18 (by decide) lkX8_skip_116 rfl dX8_skip_22 ?_
      refine lv_iconst (v := 1) hx hb dX8_skip_25 (by decide) ?_
      refine lv_iadd hx hb dX8_skip_26 ?_
      refine x_put (v := .int ((w.1 0 18) + 1)) X hP hS (gM0 c3 ad w) rfl iwX8_skip_X8 tyX8 tyX8_ok nmX8 18 (by decide) lkX8_skip_116 rfl rfl rfl (Nat.le_of_ble_eq_true rfl) (pM0_18 c3 ad w ((w.1 0 18) + 1)) dX8_skip_27 (fun H locs hP hS => ?_)
      refine x_nmw h hP (fun w_12 h hP => ?_)
      refine lv_goto (tgt := 0) hx hb dX8_skip_30 (by decide) ?_
      exact bX8_skip_0 X hret FU w_12 _ _ _ hP hS (lv_sub hl [0] rfl) h
def fX8_skip (w : Mm) : Option (Mm) := fX8_skip_E w
theorem ctX8_skip (l : Launch) (D : va_G) (c3 : C3) (ad : Nat → Nat) (w : Mm) (sz : Nat) (w' : Mm) (h : fX8_skip w = some w') : Cv l yX8_skip wsX8_skip rmX8_skip D c3 (encM c3 ad) gM [.ref (ad 0)] w sz w' := by
  refine Cv.of (cc := cX8_skip) (maxL := 1) (encM_ok c3 ad) (by decide) rfl (Nat.le_of_ble_eq_true rfl) ?_
  intro p e s m below meth c A Q ls X hret hP hS hl
  exact bX8_skip_E X hret w _ _ ls hP hS hl h
def rmX8_kindOfLetter : Room := { frames := 0, cells := 0, slots := 0, locals := 0 }
def fX8_kindOfLetter_E (x0 : Int32) : Option (Int32) := (if x0 = 115 then some 0 else (if x0 = 104 then some 1 else (if x0 = 103 then some 2 else (if x0 = 106 then some 3 else (if x0 = 119 then some 4 else (if x0 = 112 then some 5 else some (-9)))))))
set_option maxRecDepth 20000 in
theorem bX8_kindOfLetter_E {p : Program} {l : Launch} {e : Env} {s : State} {m : MethodId} {args : Array Value} {below : List Frame} {meth : Method} {c : Code} {Q : State → Prop} {D : va_G} {c3 : C3} {ad : Nat → Nat} {A : Nat → Prop} {r : Int32} {w : Mm} (X : Cx p s m args c cX8_kindOfLetter 1 RX8 wsX8_kindOfLetter D c3 (encM c3 ad) gM A) (hret : Ri p l e (rmX8_kindOfLetter) s m args below meth c Q cX8_kindOfLetter D (encM c3 ad) A r w) : ∀ (x0 : Int32) (H : Heap) (locs : List Loc) (ls : Array Slot), va_P D vwCl ((encM c3 ad) w) H → va_S A s.heap H locs → lv_has ls 1 [(0, .int x0)] → fX8_kindOfLetter_E x0 = some r → W p l e (rmX8_kindOfLetter) s m args below meth c H locs 0 0 Q (F0 m 0 ls []) := by
  have hx := X.1
  have hb := X.2.1
  have hml := X.2.2.1
  have hown := X.2.2.2.1
  have hts := X.2.2.2.2.1
  intro x0 H locs ls hP hS hl h
  unfold fX8_kindOfLetter_E at h
  refine lv_iload_n hx hb dX8_kindOfLetter_0 rfl (lv_at hl 0 rfl) ?_
  refine lv_bipush (v := 115) hx hb dX8_kindOfLetter_1 (by decide) ?_
  refine lv_icmp_ne (tgt := 10) hx hb dX8_kindOfLetter_3 (by decide) (fun c_1 => ?_) (fun c_1 => ?_)
  · replace h := it_n c_1 h
    refine lv_iload_n hx hb dX8_kindOfLetter_10 rfl (lv_at hl 0 rfl) ?_
    refine lv_bipush (v := 104) hx hb dX8_kindOfLetter_11 (by decide) ?_
    refine lv_icmp_ne (tgt := 20) hx hb dX8_kindOfLetter_13 (by decide) (fun c_2 => ?_) (fun c_2 => ?_)
    · replace h := it_n c_2 h
      refine lv_iload_n hx hb dX8_kindOfLetter_20 rfl (lv_at hl 0 rfl) ?_
      refine lv_bipush (v := 103) hx hb dX8_kindOfLetter_21 (by decide) ?_
      refine lv_icmp_ne (tgt := 30) hx hb dX8_kindOfLetter_23 (by decide) (fun c_3 => ?_) (fun c_3 => ?_)
      · replace h := it_n c_3 h
        refine lv_iload_n hx hb dX8_kindOfLetter_30 rfl (lv_at hl 0 rfl) ?_
        refine lv_bipush (v := 106) hx hb dX8_kindOfLetter_31 (by decide) ?_
        refine lv_icmp_ne (tgt := 40) hx hb dX8_kindOfLetter_33 (by decide) (fun c_4 => ?_) (fun c_4 => ?_)
        · replace h := it_n c_4 h
          refine lv_iload_n hx hb dX8_kindOfLetter_40 rfl (lv_at hl 0 rfl) ?_
          refine lv_bipush (v := 119) hx hb dX8_kindOfLetter_41 (by decide) ?_
          refine lv_icmp_ne (tgt := 50) hx hb dX8_kindOfLetter_43 (by decide) (fun c_5 => ?_) (fun c_5 => ?_)
          · replace h := it_n c_5 h
            refine lv_iload_n hx hb dX8_kindOfLetter_50 rfl (lv_at hl 0 rfl) ?_
            refine lv_bipush (v := 112) hx hb dX8_kindOfLetter_51 (by decide) ?_
            refine lv_icmp_ne (tgt := 60) hx hb dX8_kindOfLetter_53 (by decide) (fun c_6 => ?_) (fun c_6 => ?_)
            · replace h := it_n c_6 h
              refine lv_bipush (v := (-9)) hx hb dX8_kindOfLetter_60 (by decide) ?_
              obtain rfl := Option.some.inj h
              exact hret _ _ _ _ hP hS dX8_kindOfLetter_62
            · replace h := it_p c_6 h
              refine lv_iconst (v := 5) hx hb dX8_kindOfLetter_56 (by decide) ?_
              refine lv_goto (tgt := 62) hx hb dX8_kindOfLetter_57 (by decide) ?_
              obtain rfl := Option.some.inj h
              exact hret _ _ _ _ hP hS dX8_kindOfLetter_62
          · replace h := it_p c_5 h
            refine lv_iconst (v := 4) hx hb dX8_kindOfLetter_46 (by decide) ?_
            refine lv_goto (tgt := 62) hx hb dX8_kindOfLetter_47 (by decide) ?_
            obtain rfl := Option.some.inj h
            exact hret _ _ _ _ hP hS dX8_kindOfLetter_62
        · replace h := it_p c_4 h
          refine lv_iconst (v := 3) hx hb dX8_kindOfLetter_36 (by decide) ?_
          refine lv_goto (tgt := 62) hx hb dX8_kindOfLetter_37 (by decide) ?_
          obtain rfl := Option.some.inj h
          exact hret _ _ _ _ hP hS dX8_kindOfLetter_62
      · replace h := it_p c_3 h
        refine lv_iconst (v := 2) hx hb dX8_kindOfLetter_26 (by decide) ?_
        refine lv_goto (tgt := 62) hx hb dX8_kindOfLetter_27 (by decide) ?_
        obtain rfl := Option.some.inj h
        exact hret _ _ _ _ hP hS dX8_kindOfLetter_62
    · replace h := it_p c_2 h
      refine lv_iconst (v := 1) hx hb dX8_kindOfLetter_16 (by decide) ?_
      refine lv_goto (tgt := 62) hx hb dX8_kindOfLetter_17 (by decide) ?_
      obtain rfl := Option.some.inj h
      exact hret _ _ _ _ hP hS dX8_kindOfLetter_62
  · replace h := it_p c_1 h
    refine lv_iconst (v := 0) hx hb dX8_kindOfLetter_6 (by decide) ?_
    refine lv_goto (tgt := 62) hx hb dX8_kindOfLetter_7 (by decide) ?_
    obtain rfl := Option.some.inj h
    exact hret _ _ _ _ hP hS dX8_kindOfLetter_62
def fX8_kindOfLetter (x0 : Int32) : Option (Int32) := fX8_kindOfLetter_E x0
theorem ctX8_kindOfLetter (l : Launch) (D : va_G) (c3 : C3) (ad : Nat → Nat) (w : Mm) (sz : Nat) (x0 : Int32) (r : Int32) (h : fX8_kindOfLetter x0 = some r) : Ci l yX8_kindOfLetter wsX8_kindOfLetter rmX8_kindOfLetter D c3 (encM c3 ad) gM [.int x0] w sz r w := by
  refine Ci.of (cc := cX8_kindOfLetter) (maxL := 1) (encM_ok c3 ad) (by decide) rfl (Nat.le_of_ble_eq_true rfl) ?_
  intro p e s m below meth c A Q ls X hret hP hS hl
  exact bX8_kindOfLetter_E X hret x0 _ _ ls hP hS hl h
theorem iwX8_isFigure_X8 : ∀ w ∈ wsX80, w ∈ wsX8_isFigure := fun _ h => List.mem_cons_of_mem _ (List.mem_append_right _ h)
theorem lkX8_isFigure_116 : Cond.fieldLink RX8 116 "StuckDoorModel" "place" "I" ∈ wsX8_isFigure := by decide +kernel
theorem lkX8_isFigure_119 : Cond.fieldLink RX8 119 "StuckDoorModel" "end" "I" ∈ wsX8_isFigure := by decide +kernel
def rmX8_isFigure : Room := { frames := 1, cells := 0, slots := 0, locals := 25 }
def fX8_isFigure_E (x1 : Int32) (x2 : Int32) (w : Mm) : Option (Int32) := (if (w.1 0 19) ≤ (w.1 0 18) then some 0 else bo (fX8_here w) (fun r_3 => bo (fX8_in r_3.toInt64 ((48 + x1).toInt64) ((48 + x2).toInt64)) (fun r_6 => (if r_6 = 0 then some 0 else some 1))))
set_option maxRecDepth 20000 in
theorem bX8_isFigure_E {p : Program} {l : Launch} {e : Env} {s : State} {m : MethodId} {args : Array Value} {below : List Frame} {meth : Method} {c : Code} {Q : State → Prop} {D : va_G} {c3 : C3} {ad : Nat → Nat} {A : Nat → Prop} {r : Int32} {w : Mm} (X : Cx p s m args c cX8_isFigure 3 RX8 wsX8_isFigure D c3 (encM c3 ad) gM A) (hret : Rz p l e (rmX8_isFigure) s m args below meth c Q cX8_isFigure D (encM c3 ad) A r w) : ∀ (x1 : Int32) (x2 : Int32) (H : Heap) (locs : List Loc) (ls : Array Slot), va_P D vwCl ((encM c3 ad) w) H → va_S A s.heap H locs → lv_has ls 3 [(0, .ref (ad 0)), (1, .int x1), (2, .int x2)] → fX8_isFigure_E x1 x2 w = some r → W p l e (rmX8_isFigure) s m args below meth c H locs 0 0 Q (F0 m 0 ls []) := by
  have hx := X.1
  have hb := X.2.1
  have hml := X.2.2.1
  have hown := X.2.2.2.1
  have hts := X.2.2.2.2.1
  intro x1 x2 H locs ls hP hS hl h
  unfold fX8_isFigure_E at h
  refine lv_aload_n hx hb dX8_isFigure_0 rfl (lv_at hl 0 rfl) ?_
  refine x_get (rest := []) X hP (gM0 c3 ad w) rfl iwX8_isFigure_X8 18 (by decide) lkX8_isFigure_116 rfl dX8_isFigure_1 ?_
  refine lv_aload_n hx hb dX8_isFigure_4 rfl (lv_at hl 0 rfl) ?_
  refine x_get (rest := [.int (w.1 0 18)]) X hP (gM0 c3 ad w) rfl iwX8_isFigure_X8 19 (by decide) lkX8_isFigure_119 rfl dX8_isFigure_5 ?_
  refine lv_icmp_ge (tgt := 36) hx hb dX8_isFigure_8 (by decide) (fun c_1 => ?_) (fun c_1 => ?_)
  · replace h := it_p c_1 h
    refine lv_iconst (v := 0) hx hb dX8_isFigure_36 (by decide) ?_
    obtain rfl := Option.some.inj h
    exact hret (Or.inl rfl) _ _ _ _ hP hS dX8_isFigure_37
  · replace h := it_n c_1 h
    refine lv_aload_n hx hb dX8_isFigure_11 rfl (lv_at hl 0 rfl) ?_
    obtain ⟨r_3, e_2, h⟩ := bo_s h
    refine x_goi X hS (x_runV (As := []) (rest := []) X gM_ok hP hS (ctX8_here l D c3 ad w _ _ e_2) (cwV 0 hts gX8_isFigure_X8_here rfl rfl rfl (by decide +kernel) ⟨by decide, by decide⟩) (gM0 c3 ad w) rfl rfl rfl hl.1 rfl (Nat.le_of_ble_eq_true rfl) dX8_isFigure_12) (fun H locs hP hS => ?_)
    refine lv_i2l (v := r_3.toInt64) hx hb dX8_isFigure_15 rfl ?_
    refine lv_bipush (v := 48) hx hb dX8_isFigure_16 (by decide) ?_
    refine lv_iload_n hx hb dX8_isFigure_18 rfl (lv_at hl 1 rfl) ?_
    refine lv_iadd hx hb dX8_isFigure_19 ?_
    refine lv_i2l (v := (48 + x1).toInt64) hx hb dX8_isFigure_20 rfl ?_
    refine lv_bipush (v := 48) hx hb dX8_isFigure_21 (by decide) ?_
    refine lv_iload_n hx hb dX8_isFigure_23 rfl (lv_at hl 2 rfl) ?_
    refine lv_iadd hx hb dX8_isFigure_24 ?_
    refine lv_i2l (v := (48 + x2).toInt64) hx hb dX8_isFigure_25 rfl ?_
    obtain ⟨r_6, e_5, h⟩ := bo_s h
    refine x_goi X hS (x_runS (As := [.long r_3.toInt64, .long ((48 + x1).toInt64), .long ((48 + x2).toInt64)]) (rest := []) X gM_ok hP hS (ctX8_in l D c3 ad w _ r_3.toInt64 ((48 + x1).toInt64) ((48 + x2).toInt64) _ e_5) (va_cwS 3 hts gX8_isFigure_X8_in rfl rfl rfl (by decide +kernel) ⟨by decide, by decide⟩) rfl hl.1 rfl (Nat.le_of_ble_eq_true rfl) dX8_isFigure_26) (fun H locs hP hS => ?_)
    refine lv_if_eq (tgt := 36) hx hb dX8_isFigure_29 (by decide) (fun c_8 => ?_) (fun c_8 => ?_)
    · replace h := it_p c_8 h
      refine lv_iconst (v := 0) hx hb dX8_isFigure_36 (by decide) ?_
      obtain rfl := Option.some.inj h
      exact hret (Or.inl rfl) _ _ _ _ hP hS dX8_isFigure_37
    · replace h := it_n c_8 h
      refine lv_iconst (v := 1) hx hb dX8_isFigure_32 (by decide) ?_
      refine lv_goto (tgt := 37) hx hb dX8_isFigure_33 (by decide) ?_
      obtain rfl := Option.some.inj h
      exact hret (Or.inr rfl) _ _ _ _ hP hS dX8_isFigure_37
def fX8_isFigure (x1 : Int32) (x2 : Int32) (w : Mm) : Option (Int32) := fX8_isFigure_E x1 x2 w
theorem ctX8_isFigure (l : Launch) (D : va_G) (c3 : C3) (ad : Nat → Nat) (w : Mm) (sz : Nat) (x1 : Int32) (x2 : Int32) (r : Int32) (h : fX8_isFigure x1 x2 w = some r) : Ci l yX8_isFigure wsX8_isFigure rmX8_isFigure D c3 (encM c3 ad) gM [.ref (ad 0), .int x1, .int x2] w sz r w := by
  refine Ci.ofz (cc := cX8_isFigure) (maxL := 3) (encM_ok c3 ad) (by decide) rfl (Nat.le_of_ble_eq_true rfl) ?_
  intro p e s m below meth c A Q ls X hret hP hS hl
  exact bX8_isFigure_E X hret x1 x2 _ _ ls hP hS hl h
theorem iwX8_figure_X8 : ∀ w ∈ wsX80, w ∈ wsX8_figure := fun _ h => List.mem_cons_of_mem _ (List.mem_append_right _ h)
theorem lkX8_figure_34 : Cond.fieldLink RX8 34 "StuckDoorModel" "bytes" "[I" ∈ wsX8_figure := by decide +kernel
theorem lkX8_figure_113 : Cond.fieldLink RX8 113 "StuckDoorModel" "from" "I" ∈ wsX8_figure := by decide +kernel
theorem lkX8_figure_116 : Cond.fieldLink RX8 116 "StuckDoorModel" "place" "I" ∈ wsX8_figure := by decide +kernel
def rmX8_figure : Room := { frames := 2, cells := 0, slots := 0, locals := 47 }
def fX8_figure_E (x1 : Int32) (x2 : Int32) (w : Mm) : Option (Int32 × Mm) := bo (fX8_isFigure x1 x2 w) (fun r_2 => (if r_2 = 0 then some ((-9), w) else nm (sA w 0 18 ((w.1 0 18) + 1)) (fun w_5 => gd (inb (((w_5.1 0 17) + (w_5.1 0 18)) - 1) 240 = true) (some (((w_5.1 9 (((w_5.1 0 17) + (w_5.1 0 18)) - 1).toNatClampNeg) - 48), w_5)))))
set_option maxRecDepth 20000 in
theorem bX8_figure_E {p : Program} {l : Launch} {e : Env} {s : State} {m : MethodId} {args : Array Value} {below : List Frame} {meth : Method} {c : Code} {Q : State → Prop} {D : va_G} {c3 : C3} {ad : Nat → Nat} {A : Nat → Prop} {r : Int32} {w' : Mm} (X : Cx p s m args c cX8_figure 3 RX8 wsX8_figure D c3 (encM c3 ad) gM A) (hret : Ri p l e (rmX8_figure) s m args below meth c Q cX8_figure D (encM c3 ad) A r w') : ∀ (x1 : Int32) (x2 : Int32) (w : Mm) (H : Heap) (locs : List Loc) (ls : Array Slot), va_P D vwCl ((encM c3 ad) w) H → va_S A s.heap H locs → lv_has ls 3 [(0, .ref (ad 0)), (1, .int x1), (2, .int x2)] → fX8_figure_E x1 x2 w = some (r, w') → W p l e (rmX8_figure) s m args below meth c H locs 0 0 Q (F0 m 0 ls []) := by
  have hx := X.1
  have hb := X.2.1
  have hml := X.2.2.1
  have hown := X.2.2.2.1
  have hts := X.2.2.2.2.1
  intro x1 x2 w H locs ls hP hS hl h
  unfold fX8_figure_E at h
  refine lv_aload_n hx hb dX8_figure_0 rfl (lv_at hl 0 rfl) ?_
  refine lv_iload_n hx hb dX8_figure_1 rfl (lv_at hl 1 rfl) ?_
  refine lv_iload_n hx hb dX8_figure_2 rfl (lv_at hl 2 rfl) ?_
  obtain ⟨r_2, e_1, h⟩ := bo_s h
  refine x_goi X hS (x_runV (As := [.int x1, .int x2]) (rest := []) X gM_ok hP hS (ctX8_isFigure l D c3 ad w _ x1 x2 _ e_1) (cwV 2 hts gX8_figure_X8_isFigure rfl rfl rfl (by decide +kernel) ⟨by decide, by decide⟩) (gM0 c3 ad w) rfl rfl rfl hl.1 rfl (Nat.le_of_ble_eq_true rfl) dX8_figure_3) (fun H locs hP hS => ?_)
  refine lv_if_ne (tgt := 12) hx hb dX8_figure_6 (by decide) (fun c_4 => ?_) (fun c_4 => ?_)
  · replace h := it_n c_4 h
    refine lv_aload_n hx hb dX8_figure_12 rfl (lv_at hl 0 rfl) ?_
    refine lv_dup hx hb dX8_figure_13 rfl ?_
    refine x_get (rest := [.ref (ad 0)]) X hP (gM0 c3 ad w) rfl iwX8_figure_X8 18 (by decide) lkX8_figure_116 rfl dX8_figure_14 ?_
    refine lv_iconst (v := 1) hx hb dX8_figure_17 (by decide) ?_
    refine lv_iadd hx hb dX8_figure_18 ?_
    refine x_put (v := .int ((w.1 0 18) + 1)) X hP hS (gM0 c3 ad w) rfl iwX8_figure_X8 tyX8 tyX8_ok nmX8 18 (by decide) lkX8_figure_116 rfl rfl rfl (Nat.le_of_ble_eq_true rfl) (pM0_18 c3 ad w ((w.1 0 18) + 1)) dX8_figure_19 (fun H locs hP hS => ?_)
    refine x_nmw h hP (fun w_5 h hP => ?_)
    refine lv_aload_n hx hb dX8_figure_22 rfl (lv_at hl 0 rfl) ?_
    refine x_get (rest := []) X hP (gM0 c3 ad w_5) rfl iwX8_figure_X8 11 (by decide) lkX8_figure_34 rfl dX8_figure_23 ?_
    refine lv_aload_n hx hb dX8_figure_26 rfl (lv_at hl 0 rfl) ?_
    refine x_get (rest := [.ref (ad 9)]) X hP (gM0 c3 ad w_5) rfl iwX8_figure_X8 17 (by decide) lkX8_figure_113 rfl dX8_figure_27 ?_
    refine lv_aload_n hx hb dX8_figure_30 rfl (lv_at hl 0 rfl) ?_
    refine x_get (rest := [.int (w_5.1 0 17), .ref (ad 9)]) X hP (gM0 c3 ad w_5) rfl iwX8_figure_X8 18 (by decide) lkX8_figure_116 rfl dX8_figure_31 ?_
    refine lv_iadd hx hb dX8_figure_34 ?_
    refine lv_iconst (v := 1) hx hb dX8_figure_35 (by decide) ?_
    refine lv_isub hx hb dX8_figure_36 ?_
    obtain ⟨g_6, h⟩ := gd_s h
    refine x_iald X hP (gM9 c3 ad w_5) g_6 dX8_figure_37 ?_
    refine lv_bipush (v := 48) hx hb dX8_figure_38 (by decide) ?_
    refine lv_isub hx hb dX8_figure_40 ?_
    obtain ⟨rfl, rfl⟩ := Prod.mk.inj (Option.some.inj h)
    exact hret _ _ _ _ hP hS dX8_figure_41
  · replace h := it_p c_4 h
    refine lv_bipush (v := (-9)) hx hb dX8_figure_9 (by decide) ?_
    obtain ⟨rfl, rfl⟩ := Prod.mk.inj (Option.some.inj h)
    exact hret _ _ _ _ hP hS dX8_figure_11
def fX8_figure (x1 : Int32) (x2 : Int32) (w : Mm) : Option (Int32 × Mm) := fX8_figure_E x1 x2 w
theorem ctX8_figure (l : Launch) (D : va_G) (c3 : C3) (ad : Nat → Nat) (w : Mm) (sz : Nat) (x1 : Int32) (x2 : Int32) (r : Int32) (w' : Mm) (h : fX8_figure x1 x2 w = some (r, w')) : Ci l yX8_figure wsX8_figure rmX8_figure D c3 (encM c3 ad) gM [.ref (ad 0), .int x1, .int x2] w sz r w' := by
  refine Ci.of (cc := cX8_figure) (maxL := 3) (encM_ok c3 ad) (by decide) rfl (Nat.le_of_ble_eq_true rfl) ?_
  intro p e s m below meth c A Q ls X hret hP hS hl
  exact bX8_figure_E X hret x1 x2 w _ _ ls hP hS hl h
theorem iwX8_readsSaying_X8 : ∀ w ∈ wsX80, w ∈ wsX8_readsSaying := fun _ h => List.mem_cons_of_mem _ (List.mem_append_right _ h)
theorem lkX8_readsSaying_47 : Cond.fieldLink RX8 47 "StuckDoorModel" "readSayings" "[I" ∈ wsX8_readsSaying := by decide +kernel
theorem lkX8_readsSaying_116 : Cond.fieldLink RX8 116 "StuckDoorModel" "place" "I" ∈ wsX8_readsSaying := by decide +kernel
theorem lkX8_readsSaying_142 : Cond.fieldLink RX8 142 "StuckDoorModel" "readMany" "I" ∈ wsX8_readsSaying := by decide +kernel
theorem lkX8_readsSaying_145 : Cond.fieldLink RX8 145 "StuckDoorModel" "readStuck" "I" ∈ wsX8_readsSaying := by decide +kernel
def rmX8_readsSaying : Room := { frames := 3, cells := 0, slots := 0, locals := 69 }
def fX8_readsSaying_68 (x1 : Int32) (x2 : Int32) (z0 : Int32) (w : Mm) : Option (Int32 × Mm) := (if z0 = (-9) then some (0, w) else gd (inb (3 * (w.1 0 23)) 18 = true) (nm (sA w 12 (3 * (w.1 0 23)).toNatClampNeg x1) (fun w_3 => gd (inb ((3 * (w_3.1 0 23)) + 1) 18 = true) (nm (sA w_3 12 ((3 * (w_3.1 0 23)) + 1).toNatClampNeg x2) (fun w_5 => gd (inb ((3 * (w_5.1 0 23)) + 2) 18 = true) (nm (sA w_5 12 ((3 * (w_5.1 0 23)) + 2).toNatClampNeg z0) (fun w_7 => nm (sA w_7 0 23 ((w_7.1 0 23) + 1)) (fun w_8 => some (1, w_8)))))))))
set_option maxRecDepth 20000 in
theorem bX8_readsSaying_68 {p : Program} {l : Launch} {e : Env} {s : State} {m : MethodId} {args : Array Value} {below : List Frame} {meth : Method} {c : Code} {Q : State → Prop} {D : va_G} {c3 : C3} {ad : Nat → Nat} {A : Nat → Prop} {r : Int32} {w' : Mm} (X : Cx p s m args c cX8_readsSaying 4 RX8 wsX8_readsSaying D c3 (encM c3 ad) gM A) (hret : Rz p l e (rmX8_readsSaying) s m args below meth c Q cX8_readsSaying D (encM c3 ad) A r w') : ∀ (x1 : Int32) (x2 : Int32) (z0 : Int32) (w : Mm) (H : Heap) (locs : List Loc) (ls : Array Slot), va_P D vwCl ((encM c3 ad) w) H → va_S A s.heap H locs → lv_has ls 4 [(0, .ref (ad 0)), (1, .int x1), (2, .int x2)] → fX8_readsSaying_68 x1 x2 z0 w = some (r, w') → W p l e (rmX8_readsSaying) s m args below meth c H locs 0 0 Q (F0 m 68 ls [.int z0]) := by
  have hx := X.1
  have hb := X.2.1
  have hml := X.2.2.1
  have hown := X.2.2.2.1
  have hts := X.2.2.2.2.1
  intro x1 x2 z0 w H locs ls hP hS hl h
  unfold fX8_readsSaying_68 at h
  refine lv_istore_n (lv' := [(3, .int z0), (0, .ref (ad 0)), (1, .int x1), (2, .int x2)]) hx hb dX8_readsSaying_68 rfl hl (by decide) rfl (fun ls hl => ?_)
  refine lv_iload_n hx hb dX8_readsSaying_69 rfl (lv_at hl 0 rfl) ?_
  refine lv_bipush (v := (-9)) hx hb dX8_readsSaying_70 (by decide) ?_
  refine lv_icmp_ne (tgt := 77) hx hb dX8_readsSaying_72 (by decide) (fun c_1 => ?_) (fun c_1 => ?_)
  · replace h := it_n c_1 h
    refine lv_aload_n hx hb dX8_readsSaying_77 rfl (lv_at hl 1 rfl) ?_
    refine x_get (rest := []) X hP (gM0 c3 ad w) rfl iwX8_readsSaying_X8 22 (by decide) lkX8_readsSaying_47 rfl dX8_readsSaying_78 ?_
    refine lv_iconst (v := 3) hx hb dX8_readsSaying_81 (by decide) ?_
    refine lv_aload_n hx hb dX8_readsSaying_82 rfl (lv_at hl 1 rfl) ?_
    refine x_get (rest := [.int 3, .ref (ad 12)]) X hP (gM0 c3 ad w) rfl iwX8_readsSaying_X8 23 (by decide) lkX8_readsSaying_142 rfl dX8_readsSaying_83 ?_
    refine lv_imul hx hb dX8_readsSaying_86 ?_
    refine lv_iload_n hx hb dX8_readsSaying_87 rfl (lv_at hl 2 rfl) ?_
    obtain ⟨g_2, h⟩ := gd_s h
    refine x_iast X hP hS (gM12 c3 ad w) (sM12 c3 ad w _ _) g_2 dX8_readsSaying_88 (fun H locs hP hS => ?_)
    refine x_nmw h hP (fun w_3 h hP => ?_)
    refine lv_aload_n hx hb dX8_readsSaying_89 rfl (lv_at hl 1 rfl) ?_
    refine x_get (rest := []) X hP (gM0 c3 ad w_3) rfl iwX8_readsSaying_X8 22 (by decide) lkX8_readsSaying_47 rfl dX8_readsSaying_90 ?_
    refine lv_iconst (v := 3) hx hb dX8_readsSaying_93 (by decide) ?_
    refine lv_aload_n hx hb dX8_readsSaying_94 rfl (lv_at hl 1 rfl) ?_
    refine x_get (rest := [.int 3, .ref (ad 12)]) X hP (gM0 c3 ad w_3) rfl iwX8_readsSaying_X8 23 (by decide) lkX8_readsSaying_142 rfl dX8_readsSaying_95 ?_
    refine lv_imul hx hb dX8_readsSaying_98 ?_
    refine lv_iconst (v := 1) hx hb dX8_readsSaying_99 (by decide) ?_
    refine lv_iadd hx hb dX8_readsSaying_100 ?_
    refine lv_iload_n hx hb dX8_readsSaying_101 rfl (lv_at hl 3 rfl) ?_
    obtain ⟨g_4, h⟩ := gd_s h
    refine x_iast X hP hS (gM12 c3 ad w_3) (sM12 c3 ad w_3 _ _) g_4 dX8_readsSaying_102 (fun H locs hP hS => ?_)
    refine x_nmw h hP (fun w_5 h hP => ?_)
    refine lv_aload_n hx hb dX8_readsSaying_103 rfl (lv_at hl 1 rfl) ?_
    refine x_get (rest := []) X hP (gM0 c3 ad w_5) rfl iwX8_readsSaying_X8 22 (by decide) lkX8_readsSaying_47 rfl dX8_readsSaying_104 ?_
    refine lv_iconst (v := 3) hx hb dX8_readsSaying_107 (by decide) ?_
    refine lv_aload_n hx hb dX8_readsSaying_108 rfl (lv_at hl 1 rfl) ?_
    refine x_get (rest := [.int 3, .ref (ad 12)]) X hP (gM0 c3 ad w_5) rfl iwX8_readsSaying_X8 23 (by decide) lkX8_readsSaying_142 rfl dX8_readsSaying_109 ?_
    refine lv_imul hx hb dX8_readsSaying_112 ?_
    refine lv_iconst (v := 2) hx hb dX8_readsSaying_113 (by decide) ?_
    refine lv_iadd hx hb dX8_readsSaying_114 ?_
    refine lv_iload_n hx hb dX8_readsSaying_115 rfl (lv_at hl 0 rfl) ?_
    obtain ⟨g_6, h⟩ := gd_s h
    refine x_iast X hP hS (gM12 c3 ad w_5) (sM12 c3 ad w_5 _ _) g_6 dX8_readsSaying_116 (fun H locs hP hS => ?_)
    refine x_nmw h hP (fun w_7 h hP => ?_)
    refine lv_aload_n hx hb dX8_readsSaying_117 rfl (lv_at hl 1 rfl) ?_
    refine lv_dup hx hb dX8_readsSaying_118 rfl ?_
    refine x_get (rest := [.ref (ad 0)]) X hP (gM0 c3 ad w_7) rfl iwX8_readsSaying_X8 23 (by decide) lkX8_readsSaying_142 rfl dX8_readsSaying_119 ?_
    refine lv_iconst (v := 1) hx hb dX8_readsSaying_122 (by decide) ?_
    refine lv_iadd hx hb dX8_readsSaying_123 ?_
    refine x_put (v := .int ((w_7.1 0 23) + 1)) X hP hS (gM0 c3 ad w_7) rfl iwX8_readsSaying_X8 tyX8 tyX8_ok nmX8 23 (by decide) lkX8_readsSaying_142 rfl rfl rfl (Nat.le_of_ble_eq_true rfl) (pM0_23 c3 ad w_7 ((w_7.1 0 23) + 1)) dX8_readsSaying_124 (fun H locs hP hS => ?_)
    refine x_nmw h hP (fun w_8 h hP => ?_)
    refine lv_iconst (v := 1) hx hb dX8_readsSaying_127 (by decide) ?_
    obtain ⟨rfl, rfl⟩ := Prod.mk.inj (Option.some.inj h)
    exact hret (Or.inr rfl) _ _ _ _ hP hS dX8_readsSaying_128
  · replace h := it_p c_1 h
    refine lv_iconst (v := 0) hx hb dX8_readsSaying_75 (by decide) ?_
    obtain ⟨rfl, rfl⟩ := Prod.mk.inj (Option.some.inj h)
    exact hret (Or.inl rfl) _ _ _ _ hP hS dX8_readsSaying_76
def fX8_readsSaying_E (w : Mm) : Option (Int32 × Mm) := bo (fX8_here w) (fun r_10 => bo (fX8_kindOfLetter r_10) (fun r_13 => (if r_13 = (-9) then some (0, w) else (if (w.1 0 23) = 6 then some (0, w) else (if (w.1 0 24) = 0 then nm (sA w 0 18 ((w.1 0 18) + 1)) (fun w_18 => bd (fX8_figure 0 9 w_18) (fun r_20 w_21 => (if r_20 = (-9) then fX8_readsSaying_68 r_13 r_20 (-9) w_21 else bd (fX8_figure 0 7 w_21) (fun r_24 w_25 => fX8_readsSaying_68 r_13 r_20 r_24 w_25)))) else some (0, w))))))
set_option maxRecDepth 20000 in
theorem bX8_readsSaying_E {p : Program} {l : Launch} {e : Env} {s : State} {m : MethodId} {args : Array Value} {below : List Frame} {meth : Method} {c : Code} {Q : State → Prop} {D : va_G} {c3 : C3} {ad : Nat → Nat} {A : Nat → Prop} {r : Int32} {w' : Mm} (X : Cx p s m args c cX8_readsSaying 4 RX8 wsX8_readsSaying D c3 (encM c3 ad) gM A) (hret : Rz p l e (rmX8_readsSaying) s m args below meth c Q cX8_readsSaying D (encM c3 ad) A r w') : ∀ (w : Mm) (H : Heap) (locs : List Loc) (ls : Array Slot), va_P D vwCl ((encM c3 ad) w) H → va_S A s.heap H locs → lv_has ls 4 [(0, .ref (ad 0))] → fX8_readsSaying_E w = some (r, w') → W p l e (rmX8_readsSaying) s m args below meth c H locs 0 0 Q (F0 m 0 ls []) := by
  have hx := X.1
  have hb := X.2.1
  have hml := X.2.2.1
  have hown := X.2.2.2.1
  have hts := X.2.2.2.2.1
  intro w H locs ls hP hS hl h
  unfold fX8_readsSaying_E at h
  refine lv_aload_n hx hb dX8_readsSaying_0 rfl (lv_at hl 0 rfl) ?_
  obtain ⟨r_10, e_9, h⟩ := bo_s h
  refine x_goi X hS (x_runV (As := []) (rest := []) X gM_ok hP hS (ctX8_here l D c3 ad w _ _ e_9) (cwV 0 hts gX8_readsSaying_X8_here rfl rfl rfl (by decide +kernel) ⟨by decide, by decide⟩) (gM0 c3 ad w) rfl rfl rfl hl.1 rfl (Nat.le_of_ble_eq_true rfl) dX8_readsSaying_1) (fun H locs hP hS => ?_)
  obtain ⟨r_13, e_12, h⟩ := bo_s h
  refine x_goi X hS (x_runS (As := [.int r_10]) (rest := []) X gM_ok hP hS (ctX8_kindOfLetter l D c3 ad w _ r_10 _ e_12) (va_cwS 1 hts gX8_readsSaying_X8_kindOfLetter rfl rfl rfl (by decide +kernel) ⟨by decide, by decide⟩) rfl hl.1 rfl (Nat.le_of_ble_eq_true rfl) dX8_readsSaying_4) (fun H locs hP hS => ?_)
  refine lv_istore_n (lv' := [(1, .int r_13), (0, .ref (ad 0))]) hx hb dX8_readsSaying_7 rfl hl (by decide) rfl (fun ls hl => ?_)
  refine lv_iload_n hx hb dX8_readsSaying_8 rfl (lv_at hl 0 rfl) ?_
  refine lv_bipush (v := (-9)) hx hb dX8_readsSaying_9 (by decide) ?_
  refine lv_icmp_eq (tgt := 30) hx hb dX8_readsSaying_11 (by decide) (fun c_15 => ?_) (fun c_15 => ?_)
  · replace h := it_p c_15 h
    refine lv_iconst (v := 0) hx hb dX8_readsSaying_30 (by decide) ?_
    obtain ⟨rfl, rfl⟩ := Prod.mk.inj (Option.some.inj h)
    exact hret (Or.inl rfl) _ _ _ _ hP hS dX8_readsSaying_31
  · replace h := it_n c_15 h
    refine lv_aload_n hx hb dX8_readsSaying_14 rfl (lv_at hl 1 rfl) ?_
    refine x_get (rest := []) X hP (gM0 c3 ad w) rfl iwX8_readsSaying_X8 23 (by decide) lkX8_readsSaying_142 rfl dX8_readsSaying_15 ?_
    refine lv_bipush (v := 6) hx hb dX8_readsSaying_18 (by decide) ?_
    refine lv_icmp_eq (tgt := 30) hx hb dX8_readsSaying_20 (by decide) (fun c_16 => ?_) (fun c_16 => ?_)
    · replace h := it_p c_16 h
      refine lv_iconst (v := 0) hx hb dX8_readsSaying_30 (by decide) ?_
      obtain ⟨rfl, rfl⟩ := Prod.mk.inj (Option.some.inj h)
      exact hret (Or.inl rfl) _ _ _ _ hP hS dX8_readsSaying_31
    · replace h := it_n c_16 h
      refine lv_aload_n hx hb dX8_readsSaying_23 rfl (lv_at hl 1 rfl) ?_
      refine x_get (rest := []) X hP (gM0 c3 ad w) rfl iwX8_readsSaying_X8 24 (by decide) lkX8_readsSaying_145 rfl dX8_readsSaying_24 ?_
      refine lv_if_eq (tgt := 32) hx hb dX8_readsSaying_27 (by decide) (fun c_17 => ?_) (fun c_17 => ?_)
      · replace h := it_p c_17 h
        refine lv_aload_n hx hb dX8_readsSaying_32 rfl (lv_at hl 1 rfl) ?_
        refine lv_dup hx hb dX8_readsSaying_33 rfl ?_
        refine x_get (rest := [.ref (ad 0)]) X hP (gM0 c3 ad w) rfl iwX8_readsSaying_X8 18 (by decide) lkX8_readsSaying_116 rfl dX8_readsSaying_34 ?_
        refine lv_iconst (v := 1) hx hb dX8_readsSaying_37 (by decide) ?_
        refine lv_iadd hx hb dX8_readsSaying_38 ?_
        refine x_put (v := .int ((w.1 0 18) + 1)) X hP hS (gM0 c3 ad w) rfl iwX8_readsSaying_X8 tyX8 tyX8_ok nmX8 18 (by decide) lkX8_readsSaying_116 rfl rfl rfl (Nat.le_of_ble_eq_true rfl) (pM0_18 c3 ad w ((w.1 0 18) + 1)) dX8_readsSaying_39 (fun H locs hP hS => ?_)
        refine x_nmw h hP (fun w_18 h hP => ?_)
        refine lv_aload_n hx hb dX8_readsSaying_42 rfl (lv_at hl 1 rfl) ?_
        refine lv_iconst (v := 0) hx hb dX8_readsSaying_43 (by decide) ?_
        refine lv_bipush (v := 9) hx hb dX8_readsSaying_44 (by decide) ?_
        obtain ⟨r_20, w_21, e_19, h⟩ := bd_s h
        refine x_goi X hS (x_runV (As := [.int 0, .int 9]) (rest := []) X gM_ok hP hS (ctX8_figure l D c3 ad w_18 _ 0 9 _ _ e_19) (cwV 2 hts gX8_readsSaying_X8_figure rfl rfl rfl (by decide +kernel) ⟨by decide, by decide⟩) (gM0 c3 ad w_18) rfl rfl rfl hl.1 rfl (Nat.le_of_ble_eq_true rfl) dX8_readsSaying_46) (fun H locs hP hS => ?_)
        refine lv_istore_n (lv' := [(2, .int r_20), (1, .int r_13), (0, .ref (ad 0))]) hx hb dX8_readsSaying_49 rfl hl (by decide) rfl (fun ls hl => ?_)
        refine lv_iload_n hx hb dX8_readsSaying_50 rfl (lv_at hl 0 rfl) ?_
        refine lv_bipush (v := (-9)) hx hb dX8_readsSaying_51 (by decide) ?_
        refine lv_icmp_ne (tgt := 61) hx hb dX8_readsSaying_53 (by decide) (fun c_22 => ?_) (fun c_22 => ?_)
        · replace h := it_n c_22 h
          refine lv_aload_n hx hb dX8_readsSaying_61 rfl (lv_at hl 2 rfl) ?_
          refine lv_iconst (v := 0) hx hb dX8_readsSaying_62 (by decide) ?_
          refine lv_bipush (v := 7) hx hb dX8_readsSaying_63 (by decide) ?_
          obtain ⟨r_24, w_25, e_23, h⟩ := bd_s h
          refine x_goi X hS (x_runV (As := [.int 0, .int 7]) (rest := []) X gM_ok hP hS (ctX8_figure l D c3 ad w_21 _ 0 7 _ _ e_23) (cwV 2 hts gX8_readsSaying_X8_figure rfl rfl rfl (by decide +kernel) ⟨by decide, by decide⟩) (gM0 c3 ad w_21) rfl rfl rfl hl.1 rfl (Nat.le_of_ble_eq_true rfl) dX8_readsSaying_65) (fun H locs hP hS => ?_)
          exact bX8_readsSaying_68 X hret r_13 r_20 r_24 w_25 _ _ _ hP hS (lv_sub hl [2, 1, 0] rfl) h
        · replace h := it_p c_22 h
          refine lv_bipush (v := (-9)) hx hb dX8_readsSaying_56 (by decide) ?_
          refine lv_goto (tgt := 68) hx hb dX8_readsSaying_58 (by decide) ?_
          exact bX8_readsSaying_68 X hret r_13 r_20 (-9) w_21 _ _ _ hP hS (lv_sub hl [2, 1, 0] rfl) h
      · replace h := it_n c_17 h
        refine lv_iconst (v := 0) hx hb dX8_readsSaying_30 (by decide) ?_
        obtain ⟨rfl, rfl⟩ := Prod.mk.inj (Option.some.inj h)
        exact hret (Or.inl rfl) _ _ _ _ hP hS dX8_readsSaying_31
def fX8_readsSaying (w : Mm) : Option (Int32 × Mm) := fX8_readsSaying_E w
theorem ctX8_readsSaying (l : Launch) (D : va_G) (c3 : C3) (ad : Nat → Nat) (w : Mm) (sz : Nat) (r : Int32) (w' : Mm) (h : fX8_readsSaying w = some (r, w')) : Ci l yX8_readsSaying wsX8_readsSaying rmX8_readsSaying D c3 (encM c3 ad) gM [.ref (ad 0)] w sz r w' := by
  refine Ci.ofz (cc := cX8_readsSaying) (maxL := 4) (encM_ok c3 ad) (by decide) rfl (Nat.le_of_ble_eq_true rfl) ?_
  intro p e s m below meth c A Q ls X hret hP hS hl
  exact bX8_readsSaying_E X hret w _ _ ls hP hS hl h
def rmX8_has : Room := { frames := 0, cells := 0, slots := 0, locals := 0 }
def fX8_has_E (x0 : Int32) (x1 : Int32) : Option (Int32) := (if ((x0 >>> (x1 &&& 31)) &&& 1) = 1 then some 1 else some 0)
set_option maxRecDepth 20000 in
theorem bX8_has_E {p : Program} {l : Launch} {e : Env} {s : State} {m : MethodId} {args : Array Value} {below : List Frame} {meth : Method} {c : Code} {Q : State → Prop} {D : va_G} {c3 : C3} {ad : Nat → Nat} {A : Nat → Prop} {r : Int32} {w : Mm} (X : Cx p s m args c cX8_has 2 RX8 wsX8_has D c3 (encM c3 ad) gM A) (hret : Rz p l e (rmX8_has) s m args below meth c Q cX8_has D (encM c3 ad) A r w) : ∀ (x0 : Int32) (x1 : Int32) (H : Heap) (locs : List Loc) (ls : Array Slot), va_P D vwCl ((encM c3 ad) w) H → va_S A s.heap H locs → lv_has ls 2 [(0, .int x0), (1, .int x1)] → fX8_has_E x0 x1 = some r → W p l e (rmX8_has) s m args below meth c H locs 0 0 Q (F0 m 0 ls []) := by
  have hx := X.1
  have hb := X.2.1
  have hml := X.2.2.1
  have hown := X.2.2.2.1
  have hts := X.2.2.2.2.1
  intro x0 x1 H locs ls hP hS hl h
  unfold fX8_has_E at h
  refine lv_iload_n hx hb dX8_has_0 rfl (lv_at hl 0 rfl) ?_
  refine lv_iload_n hx hb dX8_has_1 rfl (lv_at hl 1 rfl) ?_
  refine lv_ishr hx hb dX8_has_2 ?_
  refine lv_iconst (v := 1) hx hb dX8_has_3 (by decide) ?_
  refine lv_iand hx hb dX8_has_4 ?_
  refine lv_iconst (v := 1) hx hb dX8_has_5 (by decide) ?_
  refine lv_icmp_ne (tgt := 13) hx hb dX8_has_6 (by decide) (fun c_1 => ?_) (fun c_1 => ?_)
  · replace h := it_n c_1 h
    refine lv_iconst (v := 0) hx hb dX8_has_13 (by decide) ?_
    obtain rfl := Option.some.inj h
    exact hret (Or.inl rfl) _ _ _ _ hP hS dX8_has_14
  · replace h := it_p c_1 h
    refine lv_iconst (v := 1) hx hb dX8_has_9 (by decide) ?_
    refine lv_goto (tgt := 14) hx hb dX8_has_10 (by decide) ?_
    obtain rfl := Option.some.inj h
    exact hret (Or.inr rfl) _ _ _ _ hP hS dX8_has_14
def fX8_has (x0 : Int32) (x1 : Int32) : Option (Int32) := fX8_has_E x0 x1
theorem ctX8_has (l : Launch) (D : va_G) (c3 : C3) (ad : Nat → Nat) (w : Mm) (sz : Nat) (x0 : Int32) (x1 : Int32) (r : Int32) (h : fX8_has x0 x1 = some r) : Ci l yX8_has wsX8_has rmX8_has D c3 (encM c3 ad) gM [.int x0, .int x1] w sz r w := by
  refine Ci.ofz (cc := cX8_has) (maxL := 2) (encM_ok c3 ad) (by decide) rfl (Nat.le_of_ble_eq_true rfl) ?_
  intro p e s m below meth c A Q ls X hret hP hS hl
  exact bX8_has_E X hret x0 x1 _ _ ls hP hS hl h
theorem iwX8_readsRoom_X8 : ∀ w ∈ wsX80, w ∈ wsX8_readsRoom := fun _ h => List.mem_cons_of_mem _ (List.mem_append_right _ h)
theorem lkX8_readsRoom_116 : Cond.fieldLink RX8 116 "StuckDoorModel" "place" "I" ∈ wsX8_readsRoom := by decide +kernel
theorem lkX8_readsRoom_142 : Cond.fieldLink RX8 142 "StuckDoorModel" "readMany" "I" ∈ wsX8_readsRoom := by decide +kernel
theorem lkX8_readsRoom_145 : Cond.fieldLink RX8 145 "StuckDoorModel" "readStuck" "I" ∈ wsX8_readsRoom := by decide +kernel
def rmX8_readsRoom : Room := { frames := 3, cells := 0, slots := 0, locals := 69 }
def fX8_readsRoom_53 (x1 : Int32) (z0 : Int32) (w : Mm) : Option (Int32 × Mm) := (if z0 = (-9) then some (0, w) else nm ((10 * x1) + z0) (fun x3_2 => bo (fX8_has (w.1 0 24) x3_2) (fun r_4 => (if r_4 = 0 then nm (sA w 0 24 ((w.1 0 24) ||| (1 <<< (x3_2 &&& 31)))) (fun w_7 => some (1, w_7)) else nm (sA w 0 18 ((w.1 0 18) - 1)) (fun w_8 => some (0, w_8))))))
set_option maxRecDepth 20000 in
theorem bX8_readsRoom_53 {p : Program} {l : Launch} {e : Env} {s : State} {m : MethodId} {args : Array Value} {below : List Frame} {meth : Method} {c : Code} {Q : State → Prop} {D : va_G} {c3 : C3} {ad : Nat → Nat} {A : Nat → Prop} {r : Int32} {w' : Mm} (X : Cx p s m args c cX8_readsRoom 4 RX8 wsX8_readsRoom D c3 (encM c3 ad) gM A) (hret : Rz p l e (rmX8_readsRoom) s m args below meth c Q cX8_readsRoom D (encM c3 ad) A r w') : ∀ (x1 : Int32) (z0 : Int32) (w : Mm) (H : Heap) (locs : List Loc) (ls : Array Slot), va_P D vwCl ((encM c3 ad) w) H → va_S A s.heap H locs → lv_has ls 4 [(0, .ref (ad 0)), (1, .int x1)] → fX8_readsRoom_53 x1 z0 w = some (r, w') → W p l e (rmX8_readsRoom) s m args below meth c H locs 0 0 Q (F0 m 53 ls [.int z0]) := by
  have hx := X.1
  have hb := X.2.1
  have hml := X.2.2.1
  have hown := X.2.2.2.1
  have hts := X.2.2.2.2.1
  intro x1 z0 w H locs ls hP hS hl h
  unfold fX8_readsRoom_53 at h
  refine lv_istore_n (lv' := [(2, .int z0), (0, .ref (ad 0)), (1, .int x1)]) hx hb dX8_readsRoom_53 rfl hl (by decide) rfl (fun ls hl => ?_)
  refine lv_iload_n hx hb dX8_readsRoom_54 rfl (lv_at hl 0 rfl) ?_
  refine lv_bipush (v := (-9)) hx hb dX8_readsRoom_55 (by decide) ?_
  refine lv_icmp_ne (tgt := 62) hx hb dX8_readsRoom_57 (by decide) (fun c_1 => ?_) (fun c_1 => ?_)
  · replace h := it_n c_1 h
    refine lv_bipush (v := 10) hx hb dX8_readsRoom_62 (by decide) ?_
    refine lv_iload_n hx hb dX8_readsRoom_64 rfl (lv_at hl 2 rfl) ?_
    refine lv_imul hx hb dX8_readsRoom_65 ?_
    refine lv_iload_n hx hb dX8_readsRoom_66 rfl (lv_at hl 0 rfl) ?_
    refine lv_iadd hx hb dX8_readsRoom_67 ?_
    refine x_nmi h (fun x3_2 h => ?_)
    refine lv_istore_n (lv' := [(3, .int x3_2), (2, .int z0), (0, .ref (ad 0)), (1, .int x1)]) hx hb dX8_readsRoom_68 rfl hl (by decide) rfl (fun ls hl => ?_)
    refine lv_aload_n hx hb dX8_readsRoom_69 rfl (lv_at hl 2 rfl) ?_
    refine x_get (rest := []) X hP (gM0 c3 ad w) rfl iwX8_readsRoom_X8 24 (by decide) lkX8_readsRoom_145 rfl dX8_readsRoom_70 ?_
    refine lv_iload_n hx hb dX8_readsRoom_73 rfl (lv_at hl 0 rfl) ?_
    obtain ⟨r_4, e_3, h⟩ := bo_s h
    refine x_goi X hS (x_runS (As := [.int (w.1 0 24), .int x3_2]) (rest := []) X gM_ok hP hS (ctX8_has l D c3 ad w _ (w.1 0 24) x3_2 _ e_3) (va_cwS 2 hts gX8_readsRoom_X8_has rfl rfl rfl (by decide +kernel) ⟨by decide, by decide⟩) rfl hl.1 rfl (Nat.le_of_ble_eq_true rfl) dX8_readsRoom_74) (fun H locs hP hS => ?_)
    refine lv_if_eq (tgt := 92) hx hb dX8_readsRoom_77 (by decide) (fun c_6 => ?_) (fun c_6 => ?_)
    · replace h := it_p c_6 h
      refine lv_aload_n hx hb dX8_readsRoom_92 rfl (lv_at hl 2 rfl) ?_
      refine lv_dup hx hb dX8_readsRoom_93 rfl ?_
      refine x_get (rest := [.ref (ad 0)]) X hP (gM0 c3 ad w) rfl iwX8_readsRoom_X8 24 (by decide) lkX8_readsRoom_145 rfl dX8_readsRoom_94 ?_
      refine lv_iconst (v := 1) hx hb dX8_readsRoom_97 (by decide) ?_
      refine lv_iload_n hx hb dX8_readsRoom_98 rfl (lv_at hl 0 rfl) ?_
      refine lv_ishl hx hb dX8_readsRoom_99 ?_
      refine lv_ior hx hb dX8_readsRoom_100 ?_
      refine x_put (v := .int ((w.1 0 24) ||| (1 <<< (x3_2 &&& 31)))) X hP hS (gM0 c3 ad w) rfl iwX8_readsRoom_X8 tyX8 tyX8_ok nmX8 24 (by decide) lkX8_readsRoom_145 rfl rfl rfl (Nat.le_of_ble_eq_true rfl) (pM0_24 c3 ad w ((w.1 0 24) ||| (1 <<< (x3_2 &&& 31)))) dX8_readsRoom_101 (fun H locs hP hS => ?_)
      refine x_nmw h hP (fun w_7 h hP => ?_)
      refine lv_iconst (v := 1) hx hb dX8_readsRoom_104 (by decide) ?_
      obtain ⟨rfl, rfl⟩ := Prod.mk.inj (Option.some.inj h)
      exact hret (Or.inr rfl) _ _ _ _ hP hS dX8_readsRoom_105
    · replace h := it_n c_6 h
      refine lv_aload_n hx hb dX8_readsRoom_80 rfl (lv_at hl 2 rfl) ?_
      refine lv_dup hx hb dX8_readsRoom_81 rfl ?_
      refine x_get (rest := [.ref (ad 0)]) X hP (gM0 c3 ad w) rfl iwX8_readsRoom_X8 18 (by decide) lkX8_readsRoom_116 rfl dX8_readsRoom_82 ?_
      refine lv_iconst (v := 1) hx hb dX8_readsRoom_85 (by decide) ?_
      refine lv_isub hx hb dX8_readsRoom_86 ?_
      refine x_put (v := .int ((w.1 0 18) - 1)) X hP hS (gM0 c3 ad w) rfl iwX8_readsRoom_X8 tyX8 tyX8_ok nmX8 18 (by decide) lkX8_readsRoom_116 rfl rfl rfl (Nat.le_of_ble_eq_true rfl) (pM0_18 c3 ad w ((w.1 0 18) - 1)) dX8_readsRoom_87 (fun H locs hP hS => ?_)
      refine x_nmw h hP (fun w_8 h hP => ?_)
      refine lv_iconst (v := 0) hx hb dX8_readsRoom_90 (by decide) ?_
      obtain ⟨rfl, rfl⟩ := Prod.mk.inj (Option.some.inj h)
      exact hret (Or.inl rfl) _ _ _ _ hP hS dX8_readsRoom_91
  · replace h := it_p c_1 h
    refine lv_iconst (v := 0) hx hb dX8_readsRoom_60 (by decide) ?_
    obtain ⟨rfl, rfl⟩ := Prod.mk.inj (Option.some.inj h)
    exact hret (Or.inl rfl) _ _ _ _ hP hS dX8_readsRoom_61
def fX8_readsRoom_50 (x1 : Int32) (z0 : Int32) (z1 : Int32) (w : Mm) : Option (Int32 × Mm) := bd (fX8_figure z1 z0 w) (fun r_10 w_11 => fX8_readsRoom_53 x1 r_10 w_11)
set_option maxRecDepth 20000 in
theorem bX8_readsRoom_50 {p : Program} {l : Launch} {e : Env} {s : State} {m : MethodId} {args : Array Value} {below : List Frame} {meth : Method} {c : Code} {Q : State → Prop} {D : va_G} {c3 : C3} {ad : Nat → Nat} {A : Nat → Prop} {r : Int32} {w' : Mm} (X : Cx p s m args c cX8_readsRoom 4 RX8 wsX8_readsRoom D c3 (encM c3 ad) gM A) (hret : Rz p l e (rmX8_readsRoom) s m args below meth c Q cX8_readsRoom D (encM c3 ad) A r w') : ∀ (x1 : Int32) (z0 : Int32) (z1 : Int32) (w : Mm) (H : Heap) (locs : List Loc) (ls : Array Slot), va_P D vwCl ((encM c3 ad) w) H → va_S A s.heap H locs → lv_has ls 4 [(0, .ref (ad 0)), (1, .int x1)] → fX8_readsRoom_50 x1 z0 z1 w = some (r, w') → W p l e (rmX8_readsRoom) s m args below meth c H locs 0 0 Q (F0 m 50 ls [.int z0, .int z1, .ref (ad 0)]) := by
  have hx := X.1
  have hb := X.2.1
  have hml := X.2.2.1
  have hown := X.2.2.2.1
  have hts := X.2.2.2.2.1
  intro x1 z0 z1 w H locs ls hP hS hl h
  unfold fX8_readsRoom_50 at h
  obtain ⟨r_10, w_11, e_9, h⟩ := bd_s h
  refine x_goi X hS (x_runV (As := [.int z1, .int z0]) (rest := []) X gM_ok hP hS (ctX8_figure l D c3 ad w _ z1 z0 _ _ e_9) (cwV 2 hts gX8_readsRoom_X8_figure rfl rfl rfl (by decide +kernel) ⟨by decide, by decide⟩) (gM0 c3 ad w) rfl rfl rfl hl.1 rfl (Nat.le_of_ble_eq_true rfl) dX8_readsRoom_50) (fun H locs hP hS => ?_)
  exact bX8_readsRoom_53 X hret x1 r_10 w_11 _ _ _ hP hS (lv_sub hl [0, 1] rfl) h
def fX8_readsRoom_E (w : Mm) : Option (Int32 × Mm) := (if (w.1 0 23) = 0 then some (0, w) else nm (sA w 0 18 ((w.1 0 18) + 1)) (fun w_13 => bd (fX8_figure 0 1 w_13) (fun r_15 w_16 => (if r_15 = (-9) then fX8_readsRoom_53 r_15 (-9) w_16 else (if r_15 = 1 then fX8_readsRoom_50 r_15 1 0 w_16 else fX8_readsRoom_50 r_15 9 0 w_16)))))
set_option maxRecDepth 20000 in
theorem bX8_readsRoom_E {p : Program} {l : Launch} {e : Env} {s : State} {m : MethodId} {args : Array Value} {below : List Frame} {meth : Method} {c : Code} {Q : State → Prop} {D : va_G} {c3 : C3} {ad : Nat → Nat} {A : Nat → Prop} {r : Int32} {w' : Mm} (X : Cx p s m args c cX8_readsRoom 4 RX8 wsX8_readsRoom D c3 (encM c3 ad) gM A) (hret : Rz p l e (rmX8_readsRoom) s m args below meth c Q cX8_readsRoom D (encM c3 ad) A r w') : ∀ (w : Mm) (H : Heap) (locs : List Loc) (ls : Array Slot), va_P D vwCl ((encM c3 ad) w) H → va_S A s.heap H locs → lv_has ls 4 [(0, .ref (ad 0))] → fX8_readsRoom_E w = some (r, w') → W p l e (rmX8_readsRoom) s m args below meth c H locs 0 0 Q (F0 m 0 ls []) := by
  have hx := X.1
  have hb := X.2.1
  have hml := X.2.2.1
  have hown := X.2.2.2.1
  have hts := X.2.2.2.2.1
  intro w H locs ls hP hS hl h
  unfold fX8_readsRoom_E at h
  refine lv_aload_n hx hb dX8_readsRoom_0 rfl (lv_at hl 0 rfl) ?_
  refine x_get (rest := []) X hP (gM0 c3 ad w) rfl iwX8_readsRoom_X8 23 (by decide) lkX8_readsRoom_142 rfl dX8_readsRoom_1 ?_
  refine lv_if_ne (tgt := 9) hx hb dX8_readsRoom_4 (by decide) (fun c_12 => ?_) (fun c_12 => ?_)
  · replace h := it_n c_12 h
    refine lv_aload_n hx hb dX8_readsRoom_9 rfl (lv_at hl 0 rfl) ?_
    refine lv_dup hx hb dX8_readsRoom_10 rfl ?_
    refine x_get (rest := [.ref (ad 0)]) X hP (gM0 c3 ad w) rfl iwX8_readsRoom_X8 18 (by decide) lkX8_readsRoom_116 rfl dX8_readsRoom_11 ?_
    refine lv_iconst (v := 1) hx hb dX8_readsRoom_14 (by decide) ?_
    refine lv_iadd hx hb dX8_readsRoom_15 ?_
    refine x_put (v := .int ((w.1 0 18) + 1)) X hP hS (gM0 c3 ad w) rfl iwX8_readsRoom_X8 tyX8 tyX8_ok nmX8 18 (by decide) lkX8_readsRoom_116 rfl rfl rfl (Nat.le_of_ble_eq_true rfl) (pM0_18 c3 ad w ((w.1 0 18) + 1)) dX8_readsRoom_16 (fun H locs hP hS => ?_)
    refine x_nmw h hP (fun w_13 h hP => ?_)
    refine lv_aload_n hx hb dX8_readsRoom_19 rfl (lv_at hl 0 rfl) ?_
    refine lv_iconst (v := 0) hx hb dX8_readsRoom_20 (by decide) ?_
    refine lv_iconst (v := 1) hx hb dX8_readsRoom_21 (by decide) ?_
    obtain ⟨r_15, w_16, e_14, h⟩ := bd_s h
    refine x_goi X hS (x_runV (As := [.int 0, .int 1]) (rest := []) X gM_ok hP hS (ctX8_figure l D c3 ad w_13 _ 0 1 _ _ e_14) (cwV 2 hts gX8_readsRoom_X8_figure rfl rfl rfl (by decide +kernel) ⟨by decide, by decide⟩) (gM0 c3 ad w_13) rfl rfl rfl hl.1 rfl (Nat.le_of_ble_eq_true rfl) dX8_readsRoom_22) (fun H locs hP hS => ?_)
    refine lv_istore_n (lv' := [(1, .int r_15), (0, .ref (ad 0))]) hx hb dX8_readsRoom_25 rfl hl (by decide) rfl (fun ls hl => ?_)
    refine lv_iload_n hx hb dX8_readsRoom_26 rfl (lv_at hl 0 rfl) ?_
    refine lv_bipush (v := (-9)) hx hb dX8_readsRoom_27 (by decide) ?_
    refine lv_icmp_ne (tgt := 37) hx hb dX8_readsRoom_29 (by decide) (fun c_17 => ?_) (fun c_17 => ?_)
    · replace h := it_n c_17 h
      refine lv_aload_n hx hb dX8_readsRoom_37 rfl (lv_at hl 1 rfl) ?_
      refine lv_iconst (v := 0) hx hb dX8_readsRoom_38 (by decide) ?_
      refine lv_iload_n hx hb dX8_readsRoom_39 rfl (lv_at hl 0 rfl) ?_
      refine lv_iconst (v := 1) hx hb dX8_readsRoom_40 (by decide) ?_
      refine lv_icmp_ne (tgt := 48) hx hb dX8_readsRoom_41 (by decide) (fun c_18 => ?_) (fun c_18 => ?_)
      · replace h := it_n c_18 h
        refine lv_bipush (v := 9) hx hb dX8_readsRoom_48 (by decide) ?_
        exact bX8_readsRoom_50 X hret r_15 9 0 w_16 _ _ _ hP hS (lv_sub hl [1, 0] rfl) h
      · replace h := it_p c_18 h
        refine lv_iconst (v := 1) hx hb dX8_readsRoom_44 (by decide) ?_
        refine lv_goto (tgt := 50) hx hb dX8_readsRoom_45 (by decide) ?_
        exact bX8_readsRoom_50 X hret r_15 1 0 w_16 _ _ _ hP hS (lv_sub hl [1, 0] rfl) h
    · replace h := it_p c_17 h
      refine lv_bipush (v := (-9)) hx hb dX8_readsRoom_32 (by decide) ?_
      refine lv_goto (tgt := 53) hx hb dX8_readsRoom_34 (by decide) ?_
      exact bX8_readsRoom_53 X hret r_15 (-9) w_16 _ _ _ hP hS (lv_sub hl [1, 0] rfl) h
  · replace h := it_p c_12 h
    refine lv_iconst (v := 0) hx hb dX8_readsRoom_7 (by decide) ?_
    obtain ⟨rfl, rfl⟩ := Prod.mk.inj (Option.some.inj h)
    exact hret (Or.inl rfl) _ _ _ _ hP hS dX8_readsRoom_8
def fX8_readsRoom (w : Mm) : Option (Int32 × Mm) := fX8_readsRoom_E w
theorem ctX8_readsRoom (l : Launch) (D : va_G) (c3 : C3) (ad : Nat → Nat) (w : Mm) (sz : Nat) (r : Int32) (w' : Mm) (h : fX8_readsRoom w = some (r, w')) : Ci l yX8_readsRoom wsX8_readsRoom rmX8_readsRoom D c3 (encM c3 ad) gM [.ref (ad 0)] w sz r w' := by
  refine Ci.ofz (cc := cX8_readsRoom) (maxL := 4) (encM_ok c3 ad) (by decide) rfl (Nat.le_of_ble_eq_true rfl) ?_
  intro p e s m below meth c A Q ls X hret hP hS hl
  exact bX8_readsRoom_E X hret w _ _ ls hP hS hl h
theorem iwX8_readsPeople_X8 : ∀ w ∈ wsX80, w ∈ wsX8_readsPeople := fun _ h => List.mem_cons_of_mem _ (List.mem_append_right _ h)
theorem lkX8_readsPeople_44 : Cond.fieldLink RX8 44 "StuckDoorModel" "readBears" "[I" ∈ wsX8_readsPeople := by decide +kernel
theorem lkX8_readsPeople_116 : Cond.fieldLink RX8 116 "StuckDoorModel" "place" "I" ∈ wsX8_readsPeople := by decide +kernel
theorem lkX8_readsPeople_119 : Cond.fieldLink RX8 119 "StuckDoorModel" "end" "I" ∈ wsX8_readsPeople := by decide +kernel
theorem lkX8_readsPeople_133 : Cond.fieldLink RX8 133 "StuckDoorModel" "readPeople" "I" ∈ wsX8_readsPeople := by decide +kernel
def rmX8_readsPeople : Room := { frames := 3, cells := 0, slots := 0, locals := 69 }
def fX8_readsPeople_36 : Nat → Mm → Option (Int32 × Mm)
  | 0, _ => none
  | n + 1, w => bo (fX8_isFigure 0 9 w) (fun r_2 => (if r_2 = 0 then (if (w.1 0 21) ≤ 0 then some (0, w) else some (1, w)) else (if (w.1 0 21) = 4 then some (0, w) else bd (fX8_figure 0 9 w) (fun r_8 w_9 => gd (inb (w.1 0 21) 4 = true) (nm (sA w_9 11 (w.1 0 21).toNatClampNeg r_8) (fun w_11 => nm (sA w_11 0 21 ((w_11.1 0 21) + 1)) (fun w_12 => fX8_readsPeople_36 n w_12)))))))
set_option maxRecDepth 20000 in
theorem bX8_readsPeople_36 {p : Program} {l : Launch} {e : Env} {s : State} {m : MethodId} {args : Array Value} {below : List Frame} {meth : Method} {c : Code} {Q : State → Prop} {D : va_G} {c3 : C3} {ad : Nat → Nat} {A : Nat → Prop} {r : Int32} {w' : Mm} (X : Cx p s m args c cX8_readsPeople 1 RX8 wsX8_readsPeople D c3 (encM c3 ad) gM A) (hret : Rz p l e (rmX8_readsPeople) s m args below meth c Q cX8_readsPeople D (encM c3 ad) A r w') : ∀ (n : Nat) (w : Mm) (H : Heap) (locs : List Loc) (ls : Array Slot), va_P D vwCl ((encM c3 ad) w) H → va_S A s.heap H locs → lv_has ls 1 [(0, .ref (ad 0))] → fX8_readsPeople_36 n w = some (r, w') → W p l e (rmX8_readsPeople) s m args below meth c H locs 0 0 Q (F0 m 36 ls []) := by
  have hx := X.1
  have hb := X.2.1
  have hml := X.2.2.1
  have hown := X.2.2.2.1
  have hts := X.2.2.2.2.1
  intro n
  induction n with
  | zero =>
    intro w H locs ls hP hS hl h
    exact absurd h (by simp [fX8_readsPeople_36])
  | succ n ih =>
    intro w H locs ls hP hS hl h
    rw [fX8_readsPeople_36] at h
    refine lv_aload_n hx hb dX8_readsPeople_36 rfl (lv_at hl 0 rfl) ?_
    refine lv_iconst (v := 0) hx hb dX8_readsPeople_37 (by decide) ?_
    refine lv_bipush (v := 9) hx hb dX8_readsPeople_38 (by decide) ?_
    obtain ⟨r_2, e_1, h⟩ := bo_s h
    refine x_goi X hS (x_runV (As := [.int 0, .int 9]) (rest := []) X gM_ok hP hS (ctX8_isFigure l D c3 ad w _ 0 9 _ e_1) (cwV 2 hts gX8_readsPeople_X8_isFigure rfl rfl rfl (by decide +kernel) ⟨by decide, by decide⟩) (gM0 c3 ad w) rfl rfl rfl hl.1 rfl (Nat.le_of_ble_eq_true rfl) dX8_readsPeople_40) (fun H locs hP hS => ?_)
    refine lv_if_eq (tgt := 85) hx hb dX8_readsPeople_43 (by decide) (fun c_4 => ?_) (fun c_4 => ?_)
    · replace h := it_p c_4 h
      refine lv_aload_n hx hb dX8_readsPeople_85 rfl (lv_at hl 0 rfl) ?_
      refine x_get (rest := []) X hP (gM0 c3 ad w) rfl iwX8_readsPeople_X8 21 (by decide) lkX8_readsPeople_133 rfl dX8_readsPeople_86 ?_
      refine lv_if_le (tgt := 96) hx hb dX8_readsPeople_89 (by decide) (fun c_5 => ?_) (fun c_5 => ?_)
      · replace h := it_p c_5 h
        refine lv_iconst (v := 0) hx hb dX8_readsPeople_96 (by decide) ?_
        obtain ⟨rfl, rfl⟩ := Prod.mk.inj (Option.some.inj h)
        exact hret (Or.inl rfl) _ _ _ _ hP hS dX8_readsPeople_97
      · replace h := it_n c_5 h
        refine lv_iconst (v := 1) hx hb dX8_readsPeople_92 (by decide) ?_
        refine lv_goto (tgt := 97) hx hb dX8_readsPeople_93 (by decide) ?_
        obtain ⟨rfl, rfl⟩ := Prod.mk.inj (Option.some.inj h)
        exact hret (Or.inr rfl) _ _ _ _ hP hS dX8_readsPeople_97
    · replace h := it_n c_4 h
      refine lv_aload_n hx hb dX8_readsPeople_46 rfl (lv_at hl 0 rfl) ?_
      refine x_get (rest := []) X hP (gM0 c3 ad w) rfl iwX8_readsPeople_X8 21 (by decide) lkX8_readsPeople_133 rfl dX8_readsPeople_47 ?_
      refine lv_iconst (v := 4) hx hb dX8_readsPeople_50 (by decide) ?_
      refine lv_icmp_ne (tgt := 56) hx hb dX8_readsPeople_51 (by decide) (fun c_6 => ?_) (fun c_6 => ?_)
      · replace h := it_n c_6 h
        refine lv_aload_n hx hb dX8_readsPeople_56 rfl (lv_at hl 0 rfl) ?_
        refine x_get (rest := []) X hP (gM0 c3 ad w) rfl iwX8_readsPeople_X8 20 (by decide) lkX8_readsPeople_44 rfl dX8_readsPeople_57 ?_
        refine lv_aload_n hx hb dX8_readsPeople_60 rfl (lv_at hl 0 rfl) ?_
        refine x_get (rest := [.ref (ad 11)]) X hP (gM0 c3 ad w) rfl iwX8_readsPeople_X8 21 (by decide) lkX8_readsPeople_133 rfl dX8_readsPeople_61 ?_
        refine lv_aload_n hx hb dX8_readsPeople_64 rfl (lv_at hl 0 rfl) ?_
        refine lv_iconst (v := 0) hx hb dX8_readsPeople_65 (by decide) ?_
        refine lv_bipush (v := 9) hx hb dX8_readsPeople_66 (by decide) ?_
        obtain ⟨r_8, w_9, e_7, h⟩ := bd_s h
        refine x_goi X hS (x_runV (As := [.int 0, .int 9]) (rest := [.int (w.1 0 21), .ref (ad 11)]) X gM_ok hP hS (ctX8_figure l D c3 ad w _ 0 9 _ _ e_7) (cwV 2 hts gX8_readsPeople_X8_figure rfl rfl rfl (by decide +kernel) ⟨by decide, by decide⟩) (gM0 c3 ad w) rfl rfl rfl hl.1 rfl (Nat.le_of_ble_eq_true rfl) dX8_readsPeople_68) (fun H locs hP hS => ?_)
        obtain ⟨g_10, h⟩ := gd_s h
        refine x_iast X hP hS (gM11 c3 ad w_9) (sM11 c3 ad w_9 _ _) g_10 dX8_readsPeople_71 (fun H locs hP hS => ?_)
        refine x_nmw h hP (fun w_11 h hP => ?_)
        refine lv_aload_n hx hb dX8_readsPeople_72 rfl (lv_at hl 0 rfl) ?_
        refine lv_dup hx hb dX8_readsPeople_73 rfl ?_
        refine x_get (rest := [.ref (ad 0)]) X hP (gM0 c3 ad w_11) rfl iwX8_readsPeople_X8 21 (by decide) lkX8_readsPeople_133 rfl dX8_readsPeople_74 ?_
        refine lv_iconst (v := 1) hx hb dX8_readsPeople_77 (by decide) ?_
        refine lv_iadd hx hb dX8_readsPeople_78 ?_
        refine x_put (v := .int ((w_11.1 0 21) + 1)) X hP hS (gM0 c3 ad w_11) rfl iwX8_readsPeople_X8 tyX8 tyX8_ok nmX8 21 (by decide) lkX8_readsPeople_133 rfl rfl rfl (Nat.le_of_ble_eq_true rfl) (pM0_21 c3 ad w_11 ((w_11.1 0 21) + 1)) dX8_readsPeople_79 (fun H locs hP hS => ?_)
        refine x_nmw h hP (fun w_12 h hP => ?_)
        refine lv_goto (tgt := 36) hx hb dX8_readsPeople_82 (by decide) ?_
        exact ih w_12 _ _ _ hP hS (lv_sub hl [0] rfl) h
      · replace h := it_p c_6 h
        refine lv_iconst (v := 0) hx hb dX8_readsPeople_54 (by decide) ?_
        obtain ⟨rfl, rfl⟩ := Prod.mk.inj (Option.some.inj h)
        exact hret (Or.inl rfl) _ _ _ _ hP hS dX8_readsPeople_55
def fX8_readsPeople_E (w : Mm) : Option (Int32 × Mm) := bo (fX8_skip w) (fun w_15 => (if (w_15.1 0 18) = (w_15.1 0 19) then some (0, w_15) else bo (fX8_here w_15) (fun r_18 => (if r_18 = 102 then nm (sA w_15 0 18 ((w_15.1 0 18) + 1)) (fun w_21 => fX8_readsPeople_36 FU w_21) else some (0, w_15)))))
set_option maxRecDepth 20000 in
theorem bX8_readsPeople_E {p : Program} {l : Launch} {e : Env} {s : State} {m : MethodId} {args : Array Value} {below : List Frame} {meth : Method} {c : Code} {Q : State → Prop} {D : va_G} {c3 : C3} {ad : Nat → Nat} {A : Nat → Prop} {r : Int32} {w' : Mm} (X : Cx p s m args c cX8_readsPeople 1 RX8 wsX8_readsPeople D c3 (encM c3 ad) gM A) (hret : Rz p l e (rmX8_readsPeople) s m args below meth c Q cX8_readsPeople D (encM c3 ad) A r w') : ∀ (w : Mm) (H : Heap) (locs : List Loc) (ls : Array Slot), va_P D vwCl ((encM c3 ad) w) H → va_S A s.heap H locs → lv_has ls 1 [(0, .ref (ad 0))] → fX8_readsPeople_E w = some (r, w') → W p l e (rmX8_readsPeople) s m args below meth c H locs 0 0 Q (F0 m 0 ls []) := by
  have hx := X.1
  have hb := X.2.1
  have hml := X.2.2.1
  have hown := X.2.2.2.1
  have hts := X.2.2.2.2.1
  intro w H locs ls hP hS hl h
  unfold fX8_readsPeople_E at h
  refine lv_aload_n hx hb dX8_readsPeople_0 rfl (lv_at hl 0 rfl) ?_
  obtain ⟨w_15, e_13, h⟩ := bo_s h
  refine x_gov X hS (x_runV (As := []) (rest := []) X gM_ok hP hS (ctX8_skip l D c3 ad w _ _ e_13) (cwV 0 hts gX8_readsPeople_X8_skip rfl rfl rfl (by decide +kernel) ⟨by decide, by decide⟩) (gM0 c3 ad w) rfl rfl rfl hl.1 rfl (Nat.le_of_ble_eq_true rfl) dX8_readsPeople_1) (fun H locs hP hS => ?_)
  refine lv_aload_n hx hb dX8_readsPeople_4 rfl (lv_at hl 0 rfl) ?_
  refine x_get (rest := []) X hP (gM0 c3 ad w_15) rfl iwX8_readsPeople_X8 18 (by decide) lkX8_readsPeople_116 rfl dX8_readsPeople_5 ?_
  refine lv_aload_n hx hb dX8_readsPeople_8 rfl (lv_at hl 0 rfl) ?_
  refine x_get (rest := [.int (w_15.1 0 18)]) X hP (gM0 c3 ad w_15) rfl iwX8_readsPeople_X8 19 (by decide) lkX8_readsPeople_119 rfl dX8_readsPeople_9 ?_
  refine lv_icmp_eq (tgt := 24) hx hb dX8_readsPeople_12 (by decide) (fun c_16 => ?_) (fun c_16 => ?_)
  · replace h := it_p c_16 h
    refine lv_iconst (v := 0) hx hb dX8_readsPeople_24 (by decide) ?_
    obtain ⟨rfl, rfl⟩ := Prod.mk.inj (Option.some.inj h)
    exact hret (Or.inl rfl) _ _ _ _ hP hS dX8_readsPeople_25
  · replace h := it_n c_16 h
    refine lv_aload_n hx hb dX8_readsPeople_15 rfl (lv_at hl 0 rfl) ?_
    obtain ⟨r_18, e_17, h⟩ := bo_s h
    refine x_goi X hS (x_runV (As := []) (rest := []) X gM_ok hP hS (ctX8_here l D c3 ad w_15 _ _ e_17) (cwV 0 hts gX8_readsPeople_X8_here rfl rfl rfl (by decide +kernel) ⟨by decide, by decide⟩) (gM0 c3 ad w_15) rfl rfl rfl hl.1 rfl (Nat.le_of_ble_eq_true rfl) dX8_readsPeople_16) (fun H locs hP hS => ?_)
    refine lv_bipush (v := 102) hx hb dX8_readsPeople_19 (by decide) ?_
    refine lv_icmp_eq (tgt := 26) hx hb dX8_readsPeople_21 (by decide) (fun c_20 => ?_) (fun c_20 => ?_)
    · replace h := it_p c_20 h
      refine lv_aload_n hx hb dX8_readsPeople_26 rfl (lv_at hl 0 rfl) ?_
      refine lv_dup hx hb dX8_readsPeople_27 rfl ?_
      refine x_get (rest := [.ref (ad 0)]) X hP (gM0 c3 ad w_15) rfl iwX8_readsPeople_X8 18 (by decide) lkX8_readsPeople_116 rfl dX8_readsPeople_28 ?_
      refine lv_iconst (v := 1) hx hb dX8_readsPeople_31 (by decide) ?_
      refine lv_iadd hx hb dX8_readsPeople_32 ?_
      refine x_put (v := .int ((w_15.1 0 18) + 1)) X hP hS (gM0 c3 ad w_15) rfl iwX8_readsPeople_X8 tyX8 tyX8_ok nmX8 18 (by decide) lkX8_readsPeople_116 rfl rfl rfl (Nat.le_of_ble_eq_true rfl) (pM0_18 c3 ad w_15 ((w_15.1 0 18) + 1)) dX8_readsPeople_33 (fun H locs hP hS => ?_)
      refine x_nmw h hP (fun w_21 h hP => ?_)
      exact bX8_readsPeople_36 X hret FU w_21 _ _ _ hP hS (lv_sub hl [0] rfl) h
    · replace h := it_n c_20 h
      refine lv_iconst (v := 0) hx hb dX8_readsPeople_24 (by decide) ?_
      obtain ⟨rfl, rfl⟩ := Prod.mk.inj (Option.some.inj h)
      exact hret (Or.inl rfl) _ _ _ _ hP hS dX8_readsPeople_25
def fX8_readsPeople (w : Mm) : Option (Int32 × Mm) := fX8_readsPeople_E w
theorem ctX8_readsPeople (l : Launch) (D : va_G) (c3 : C3) (ad : Nat → Nat) (w : Mm) (sz : Nat) (r : Int32) (w' : Mm) (h : fX8_readsPeople w = some (r, w')) : Ci l yX8_readsPeople wsX8_readsPeople rmX8_readsPeople D c3 (encM c3 ad) gM [.ref (ad 0)] w sz r w' := by
  refine Ci.ofz (cc := cX8_readsPeople) (maxL := 1) (encM_ok c3 ad) (by decide) rfl (Nat.le_of_ble_eq_true rfl) ?_
  intro p e s m below meth c A Q ls X hret hP hS hl
  exact bX8_readsPeople_E X hret w _ _ ls hP hS hl h

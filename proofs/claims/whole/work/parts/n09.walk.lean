theorem iwX0_spread_X0 : ∀ w ∈ wsX00, w ∈ wsX0_spread := fun _ h => List.mem_cons_of_mem _ (List.mem_append_right _ h)
theorem lkX0_spread_9 : Cond.fieldLink RX0 9 "StuckDoor$Chances" "weights" "[J" ∈ wsX0_spread := by decide +kernel
theorem lkX0_spread_15 : Cond.fieldLink RX0 15 "StuckDoor$Chances" "total" "J" ∈ wsX0_spread := by decide +kernel
def rmX0_spread : Room := { frames := 1, cells := 0, slots := 0, locals := 24 }
def fX0_spread_36 (k22 : Int32 → Mm → Option (Mm)) (x1 : Int32) (x2 : Int32) (x3 : Int32) : Nat → Int32 → Mm → Option (Mm)
  | 0, _, _ => none
  | n + 1, x4, w => (if x4 ≤ 0 then nm (sL w 42 0 ((w.2.1 42 0) * x2.toInt64)) (fun w_2 => nm (sL w_2 41 1 ((w_2.2.1 41 1) * 12)) (fun w_3 => k22 (x3 + 1) w_3)) else gd (inb x4 13 = true) (gd (inb (x4 - 1) 13 = true) (nm (sL w 42 x4.toNatClampNeg (((w.2.1 42 x4.toNatClampNeg) * x2.toInt64) + ((w.2.1 42 (x4 - 1).toNatClampNeg) * ((12 - x2).toInt64)))) (fun w_6 => fX0_spread_36 k22 x1 x2 x3 n (x4 + (-1)) w_6))))
set_option maxRecDepth 20000 in
theorem bX0_spread_36 {p : Program} {l : Launch} {e : Env} {s : State} {m : MethodId} {args : Array Value} {below : List Frame} {meth : Method} {c : Code} {Q : State → Prop} {D : va_G} {c3 : C3} {ad : Nat → Nat} {A : Nat → Prop} {w' : Mm} (X : Cx p s m args c cX0_spread 5 RX0 wsX0_spread D c3 (encC c3 ad) gC A) (hret : Rv p l e (rmX0_spread) s m args below meth c Q cX0_spread D (encC c3 ad) A w') {x1 : Int32} {x2 : Int32} {k22 : Int32 → Mm → Option (Mm)} (hk22 : ∀ (x3 : Int32) (w : Mm) (H : Heap) (locs : List Loc) (ls : Array Slot), va_P D vwCl ((encC c3 ad) w) H → va_S A s.heap H locs → lv_has ls 5 [(0, .ref (ad 41)), (1, .int x1), (2, .int x2), (3, .int x3)] → k22 x3 w = some w' → W p l e (rmX0_spread) s m args below meth c H locs 0 0 Q (F0 m 22 ls [])) : ∀ (x3 : Int32) (n : Nat) (x4 : Int32) (w : Mm) (H : Heap) (locs : List Loc) (ls : Array Slot), va_P D vwCl ((encC c3 ad) w) H → va_S A s.heap H locs → lv_has ls 5 [(0, .ref (ad 41)), (1, .int x1), (2, .int x2), (3, .int x3), (4, .int x4)] → fX0_spread_36 k22 x1 x2 x3 n x4 w = some w' → W p l e (rmX0_spread) s m args below meth c H locs 0 0 Q (F0 m 36 ls []) := by
  have hx := X.1
  have hb := X.2.1
  have hml := X.2.2.1
  have hown := X.2.2.2.1
  have hts := X.2.2.2.2.1
  intro x3 n
  induction n with
  | zero =>
    intro x4 w H locs ls hP hS hl h
    exact absurd h (by simp [fX0_spread_36])
  | succ n ih =>
    intro x4 w H locs ls hP hS hl h
    rw [fX0_spread_36] at h
    refine lv_iload hx hb dX0_spread_36 (lv_at hl 4 rfl) ?_
    refine lv_if_le (tgt := 80) hx hb dX0_spread_38 (by decide) (fun c_1 => ?_) (fun c_1 => ?_)
    · replace h := it_p c_1 h
      refine lv_aload_n hx hb dX0_spread_80 rfl (lv_at hl 0 rfl) ?_
      refine x_get (rest := []) X hP (gC41 c3 ad w) rfl iwX0_spread_X0 0 (by decide) lkX0_spread_9 rfl dX0_spread_81 ?_
      refine lv_iconst (v := 0) hx hb dX0_spread_84 (by decide) ?_
      refine lv_dup2_11 hx hb dX0_spread_85 rfl rfl ?_
      refine x_laldL (j := 0) X hP (gC42 c3 ad w) (by decide) rfl dX0_spread_86 ?_
      refine lv_iload_n hx hb dX0_spread_87 rfl (lv_at hl 2 rfl) ?_
      refine lv_i2l (v := x2.toInt64) hx hb dX0_spread_88 rfl ?_
      refine lv_lmul hx hb dX0_spread_89 ?_
      refine x_lastL (j := 0) X hP hS (gC42 c3 ad w) (sC42 c3 ad w _ _) (by decide) rfl dX0_spread_90 (fun H locs hP hS => ?_)
      refine x_nmw h hP (fun w_2 h hP => ?_)
      refine lv_aload_n hx hb dX0_spread_91 rfl (lv_at hl 0 rfl) ?_
      refine lv_dup hx hb dX0_spread_92 rfl ?_
      refine x_get (rest := [.ref (ad 41)]) X hP (gC41 c3 ad w_2) rfl iwX0_spread_X0 1 (by decide) lkX0_spread_15 rfl dX0_spread_93 ?_
      refine lv_ldc2 (v := 12) hx hb hown (hts (.constantLong RX0 25 (12)) (by decide +kernel)) dX0_spread_96 ?_
      refine lv_lmul hx hb dX0_spread_99 ?_
      refine x_put (v := .long ((w_2.2.1 41 1) * 12)) X hP hS (gC41 c3 ad w_2) rfl iwX0_spread_X0 tyX0 tyX0_ok nmX0 1 (by decide) lkX0_spread_15 rfl rfl rfl (Nat.le_of_ble_eq_true rfl) (pC41_1 c3 ad w_2 ((w_2.2.1 41 1) * 12)) dX0_spread_100 (fun H locs hP hS => ?_)
      refine x_nmw h hP (fun w_3 h hP => ?_)
      refine lv_iinc (v := (x3 + 1)) (lv' := [(3, .int (x3 + 1)), (0, .ref (ad 41)), (1, .int x1), (2, .int x2), (4, .int x4)]) hx hb dX0_spread_103 hl (k := 3) rfl rfl (by decide) rfl (fun ls hl => ?_)
      refine lv_goto (tgt := 22) hx hb dX0_spread_106 (by decide) ?_
      exact hk22 (x3 + 1) w_3 _ _ _ hP hS (lv_sub hl [1, 2, 3, 0] rfl) h
    · replace h := it_n c_1 h
      refine lv_aload_n hx hb dX0_spread_41 rfl (lv_at hl 0 rfl) ?_
      refine x_get (rest := []) X hP (gC41 c3 ad w) rfl iwX0_spread_X0 0 (by decide) lkX0_spread_9 rfl dX0_spread_42 ?_
      refine lv_iload hx hb dX0_spread_45 (lv_at hl 4 rfl) ?_
      refine lv_aload_n hx hb dX0_spread_47 rfl (lv_at hl 0 rfl) ?_
      refine x_get (rest := [.int x4, .ref (ad 42)]) X hP (gC41 c3 ad w) rfl iwX0_spread_X0 0 (by decide) lkX0_spread_9 rfl dX0_spread_48 ?_
      refine lv_iload hx hb dX0_spread_51 (lv_at hl 4 rfl) ?_
      obtain ⟨g_4, h⟩ := gd_s h
      refine x_lald X hP (gC42 c3 ad w) g_4 dX0_spread_53 ?_
      refine lv_iload_n hx hb dX0_spread_54 rfl (lv_at hl 2 rfl) ?_
      refine lv_i2l (v := x2.toInt64) hx hb dX0_spread_55 rfl ?_
      refine lv_lmul hx hb dX0_spread_56 ?_
      refine lv_aload_n hx hb dX0_spread_57 rfl (lv_at hl 0 rfl) ?_
      refine x_get (rest := [.long ((w.2.1 42 x4.toNatClampNeg) * x2.toInt64), .int x4, .ref (ad 42)]) X hP (gC41 c3 ad w) rfl iwX0_spread_X0 0 (by decide) lkX0_spread_9 rfl dX0_spread_58 ?_
      refine lv_iload hx hb dX0_spread_61 (lv_at hl 4 rfl) ?_
      refine lv_iconst (v := 1) hx hb dX0_spread_63 (by decide) ?_
      refine lv_isub hx hb dX0_spread_64 ?_
      obtain ⟨g_5, h⟩ := gd_s h
      refine x_lald X hP (gC42 c3 ad w) g_5 dX0_spread_65 ?_
      refine lv_bipush (v := 12) hx hb dX0_spread_66 (by decide) ?_
      refine lv_iload_n hx hb dX0_spread_68 rfl (lv_at hl 2 rfl) ?_
      refine lv_isub hx hb dX0_spread_69 ?_
      refine lv_i2l (v := (12 - x2).toInt64) hx hb dX0_spread_70 rfl ?_
      refine lv_lmul hx hb dX0_spread_71 ?_
      refine lv_ladd hx hb dX0_spread_72 ?_
      refine x_last X hP hS (gC42 c3 ad w) (sC42 c3 ad w _ _) g_4 dX0_spread_73 (fun H locs hP hS => ?_)
      refine x_nmw h hP (fun w_6 h hP => ?_)
      refine lv_iinc (v := (x4 + (-1))) (lv' := [(4, .int (x4 + (-1))), (0, .ref (ad 41)), (1, .int x1), (2, .int x2), (3, .int x3)]) hx hb dX0_spread_74 hl (k := 4) rfl rfl (by decide) rfl (fun ls hl => ?_)
      refine lv_goto (tgt := 36) hx hb dX0_spread_77 (by decide) ?_
      exact ih (x4 + (-1)) w_6 _ _ _ hP hS (lv_sub hl [1, 2, 3, 4, 0] rfl) h
def fX0_spread_22 (x1 : Int32) (x2 : Int32) : Nat → Int32 → Mm → Option (Mm)
  | 0, _, _ => none
  | n + 1, x3, w => (if x1 < x3 then some w else (if 12 < x3 then some w else fX0_spread_36 (fX0_spread_22 x1 x2 n) x1 x2 x3 FU x3 w))
set_option maxRecDepth 20000 in
theorem bX0_spread_22 {p : Program} {l : Launch} {e : Env} {s : State} {m : MethodId} {args : Array Value} {below : List Frame} {meth : Method} {c : Code} {Q : State → Prop} {D : va_G} {c3 : C3} {ad : Nat → Nat} {A : Nat → Prop} {w' : Mm} (X : Cx p s m args c cX0_spread 5 RX0 wsX0_spread D c3 (encC c3 ad) gC A) (hret : Rv p l e (rmX0_spread) s m args below meth c Q cX0_spread D (encC c3 ad) A w') : ∀ (x1 : Int32) (x2 : Int32) (n : Nat) (x3 : Int32) (w : Mm) (H : Heap) (locs : List Loc) (ls : Array Slot), va_P D vwCl ((encC c3 ad) w) H → va_S A s.heap H locs → lv_has ls 5 [(0, .ref (ad 41)), (1, .int x1), (2, .int x2), (3, .int x3)] → fX0_spread_22 x1 x2 n x3 w = some w' → W p l e (rmX0_spread) s m args below meth c H locs 0 0 Q (F0 m 22 ls []) := by
  have hx := X.1
  have hb := X.2.1
  have hml := X.2.2.1
  have hown := X.2.2.2.1
  have hts := X.2.2.2.2.1
  intro x1 x2 n
  induction n with
  | zero =>
    intro x3 w H locs ls hP hS hl h
    exact absurd h (by simp [fX0_spread_22])
  | succ n ih =>
    intro x3 w H locs ls hP hS hl h
    rw [fX0_spread_22] at h
    refine lv_iload_n hx hb dX0_spread_22 rfl (lv_at hl 3 rfl) ?_
    refine lv_iload_n hx hb dX0_spread_23 rfl (lv_at hl 1 rfl) ?_
    refine lv_icmp_gt (tgt := 109) hx hb dX0_spread_24 (by decide) (fun c_7 => ?_) (fun c_7 => ?_)
    · replace h := it_p c_7 h
      obtain rfl := Option.some.inj h
      exact hret _ _ _ _ hP hS dX0_spread_109
    · replace h := it_n c_7 h
      refine lv_iload_n hx hb dX0_spread_27 rfl (lv_at hl 3 rfl) ?_
      refine lv_bipush (v := 12) hx hb dX0_spread_28 (by decide) ?_
      refine lv_icmp_gt (tgt := 109) hx hb dX0_spread_30 (by decide) (fun c_8 => ?_) (fun c_8 => ?_)
      · replace h := it_p c_8 h
        obtain rfl := Option.some.inj h
        exact hret _ _ _ _ hP hS dX0_spread_109
      · replace h := it_n c_8 h
        refine lv_iload_n hx hb dX0_spread_33 rfl (lv_at hl 3 rfl) ?_
        refine lv_istore (lv' := [(4, .int x3), (0, .ref (ad 41)), (1, .int x1), (2, .int x2), (3, .int x3)]) hx hb dX0_spread_34 hl (by decide) rfl (fun ls hl => ?_)
        exact bX0_spread_36 (x1 := x1) (x2 := x2) (k22 := (fX0_spread_22 x1 x2 n)) X hret ih x3 FU x3 w _ _ _ hP hS (lv_sub hl [1, 2, 3, 4, 0] rfl) h
def fX0_spread_E (x1 : Int32) (x2 : Int32) (w : Mm) : Option (Mm) := bo (fJ7_fill_d0a16_42 0 w) (fun w_11 => nm (sL w_11 42 0 1) (fun w_12 => nm (sL w_12 41 1 1) (fun w_13 => fX0_spread_22 x1 x2 FU 1 w_13)))
set_option maxRecDepth 20000 in
theorem bX0_spread_E {p : Program} {l : Launch} {e : Env} {s : State} {m : MethodId} {args : Array Value} {below : List Frame} {meth : Method} {c : Code} {Q : State → Prop} {D : va_G} {c3 : C3} {ad : Nat → Nat} {A : Nat → Prop} {w' : Mm} (X : Cx p s m args c cX0_spread 5 RX0 wsX0_spread D c3 (encC c3 ad) gC A) (hret : Rv p l e (rmX0_spread) s m args below meth c Q cX0_spread D (encC c3 ad) A w') : ∀ (x1 : Int32) (x2 : Int32) (w : Mm) (H : Heap) (locs : List Loc) (ls : Array Slot), va_P D vwCl ((encC c3 ad) w) H → va_S A s.heap H locs → lv_has ls 5 [(0, .ref (ad 41)), (1, .int x1), (2, .int x2)] → fX0_spread_E x1 x2 w = some w' → W p l e (rmX0_spread) s m args below meth c H locs 0 0 Q (F0 m 0 ls []) := by
  have hx := X.1
  have hb := X.2.1
  have hml := X.2.2.1
  have hown := X.2.2.2.1
  have hts := X.2.2.2.2.1
  intro x1 x2 w H locs ls hP hS hl h
  unfold fX0_spread_E at h
  refine lv_aload_n hx hb dX0_spread_0 rfl (lv_at hl 0 rfl) ?_
  refine x_get (rest := []) X hP (gC41 c3 ad w) rfl iwX0_spread_X0 0 (by decide) lkX0_spread_9 rfl dX0_spread_1 ?_
  refine lv_lconst (v := 0) hx hb dX0_spread_4 (by decide) ?_
  obtain ⟨w_11, e_9, h⟩ := bo_s h
  refine x_gov X hS (x_runS (As := [.ref (ad 42), .long 0]) (rest := []) X gC_ok hP hS (ctJ7_fill_d0a16_42 l D c3 ad w _ 0 _ e_9) (va_cwS 2 hts gX0_spread_J7_fill_d0a16 rfl rfl rfl (by decide +kernel) ⟨by decide, by decide⟩) rfl hl.1 rfl (Nat.le_of_ble_eq_true rfl) dX0_spread_5) (fun H locs hP hS => ?_)
  refine lv_aload_n hx hb dX0_spread_8 rfl (lv_at hl 0 rfl) ?_
  refine x_get (rest := []) X hP (gC41 c3 ad w_11) rfl iwX0_spread_X0 0 (by decide) lkX0_spread_9 rfl dX0_spread_9 ?_
  refine lv_iconst (v := 0) hx hb dX0_spread_12 (by decide) ?_
  refine lv_lconst (v := 1) hx hb dX0_spread_13 (by decide) ?_
  refine x_lastL (j := 0) X hP hS (gC42 c3 ad w_11) (sC42 c3 ad w_11 _ _) (by decide) rfl dX0_spread_14 (fun H locs hP hS => ?_)
  refine x_nmw h hP (fun w_12 h hP => ?_)
  refine lv_aload_n hx hb dX0_spread_15 rfl (lv_at hl 0 rfl) ?_
  refine lv_lconst (v := 1) hx hb dX0_spread_16 (by decide) ?_
  refine x_put (v := .long 1) X hP hS (gC41 c3 ad w_12) rfl iwX0_spread_X0 tyX0 tyX0_ok nmX0 1 (by decide) lkX0_spread_15 rfl rfl rfl (Nat.le_of_ble_eq_true rfl) (pC41_1 c3 ad w_12 1) dX0_spread_17 (fun H locs hP hS => ?_)
  refine x_nmw h hP (fun w_13 h hP => ?_)
  refine lv_iconst (v := 1) hx hb dX0_spread_20 (by decide) ?_
  refine lv_istore_n (lv' := [(3, .int 1), (0, .ref (ad 41)), (1, .int x1), (2, .int x2)]) hx hb dX0_spread_21 rfl hl (by decide) rfl (fun ls hl => ?_)
  exact bX0_spread_22 X hret x1 x2 FU 1 w_13 _ _ _ hP hS (lv_sub hl [1, 2, 3, 0] rfl) h
def fX0_spread (x1 : Int32) (x2 : Int32) (w : Mm) : Option (Mm) := fX0_spread_E x1 x2 w
theorem ctX0_spread (l : Launch) (D : va_G) (c3 : C3) (ad : Nat → Nat) (w : Mm) (sz : Nat) (x1 : Int32) (x2 : Int32) (w' : Mm) (h : fX0_spread x1 x2 w = some w') : Cv l yX0_spread wsX0_spread rmX0_spread D c3 (encC c3 ad) gC [.ref (ad 41), .int x1, .int x2] w sz w' := by
  refine Cv.of (cc := cX0_spread) (maxL := 5) (encC_ok c3 ad) (by decide) rfl (Nat.le_of_ble_eq_true rfl) ?_
  intro p e s m below meth c A Q ls X hret hP hS hl
  exact bX0_spread_E X hret x1 x2 w _ _ ls hP hS hl h
theorem iwX0_strainSum_X0 : ∀ w ∈ wsX00, w ∈ wsX0_strainSum := fun _ h => List.mem_cons_of_mem _ (List.mem_append_right _ h)
theorem lkX0_strainSum_9 : Cond.fieldLink RX0 9 "StuckDoor$Chances" "weights" "[J" ∈ wsX0_strainSum := by decide +kernel
def rmX0_strainSum : Room := { frames := 1, cells := 0, slots := 0, locals := 21 }
def fX0_strainSum_5 (x1 : Int32) (x2 : Int32) (w : Mm) : Nat → Int64 → Int32 → Option (Int64)
  | 0, _, _ => none
  | n + 1, y3, x5 => (if x1 < x5 then some y3 else (if 12 < x5 then some y3 else gd (inb x5 13 = true) (nm (y3 + ((w.2.1 42 x5.toNatClampNeg) * ((if 0 < (x2 - x5) then (x2 - x5) else 0).toInt64))) (fun y3_4 => fX0_strainSum_5 x1 x2 w n y3_4 (x5 + 1)))))
set_option maxRecDepth 20000 in
theorem bX0_strainSum_5 {p : Program} {l : Launch} {e : Env} {s : State} {m : MethodId} {args : Array Value} {below : List Frame} {meth : Method} {c : Code} {Q : State → Prop} {D : va_G} {c3 : C3} {ad : Nat → Nat} {A : Nat → Prop} {r : Int64} {w : Mm} (X : Cx p s m args c cX0_strainSum 6 RX0 wsX0_strainSum D c3 (encC c3 ad) gC A) (hret : Rl p l e (rmX0_strainSum) s m args below meth c Q cX0_strainSum D (encC c3 ad) A r w) : ∀ (x1 : Int32) (x2 : Int32) (n : Nat) (y3 : Int64) (x5 : Int32) (H : Heap) (locs : List Loc) (ls : Array Slot), va_P D vwCl ((encC c3 ad) w) H → va_S A s.heap H locs → lv_has ls 6 [(0, .ref (ad 41)), (1, .int x1), (2, .int x2), (3, .long y3), (5, .int x5)] → fX0_strainSum_5 x1 x2 w n y3 x5 = some r → W p l e (rmX0_strainSum) s m args below meth c H locs 0 0 Q (F0 m 5 ls []) := by
  have hx := X.1
  have hb := X.2.1
  have hml := X.2.2.1
  have hown := X.2.2.2.1
  have hts := X.2.2.2.2.1
  intro x1 x2 n
  induction n with
  | zero =>
    intro y3 x5 H locs ls hP hS hl h
    exact absurd h (by simp [fX0_strainSum_5])
  | succ n ih =>
    intro y3 x5 H locs ls hP hS hl h
    rw [fX0_strainSum_5] at h
    refine lv_iload hx hb dX0_strainSum_5 (lv_at hl 4 rfl) ?_
    refine lv_iload_n hx hb dX0_strainSum_7 rfl (lv_at hl 1 rfl) ?_
    refine lv_icmp_gt (tgt := 44) hx hb dX0_strainSum_8 (by decide) (fun c_1 => ?_) (fun c_1 => ?_)
    · replace h := it_p c_1 h
      refine lv_lload_n hx hb dX0_strainSum_44 rfl (lv_at hl 3 rfl) ?_
      obtain rfl := Option.some.inj h
      exact hret _ _ _ _ hP hS dX0_strainSum_45
    · replace h := it_n c_1 h
      refine lv_iload hx hb dX0_strainSum_11 (lv_at hl 4 rfl) ?_
      refine lv_bipush (v := 12) hx hb dX0_strainSum_13 (by decide) ?_
      refine lv_icmp_gt (tgt := 44) hx hb dX0_strainSum_15 (by decide) (fun c_2 => ?_) (fun c_2 => ?_)
      · replace h := it_p c_2 h
        refine lv_lload_n hx hb dX0_strainSum_44 rfl (lv_at hl 3 rfl) ?_
        obtain rfl := Option.some.inj h
        exact hret _ _ _ _ hP hS dX0_strainSum_45
      · replace h := it_n c_2 h
        refine lv_lload_n hx hb dX0_strainSum_18 rfl (lv_at hl 3 rfl) ?_
        refine lv_aload_n hx hb dX0_strainSum_19 rfl (lv_at hl 0 rfl) ?_
        refine x_get (rest := [.long y3]) X hP (gC41 c3 ad w) rfl iwX0_strainSum_X0 0 (by decide) lkX0_strainSum_9 rfl dX0_strainSum_20 ?_
        refine lv_iload hx hb dX0_strainSum_23 (lv_at hl 4 rfl) ?_
        obtain ⟨g_3, h⟩ := gd_s h
        refine x_lald X hP (gC42 c3 ad w) g_3 dX0_strainSum_25 ?_
        refine lv_iconst (v := 0) hx hb dX0_strainSum_26 (by decide) ?_
        refine lv_iload_n hx hb dX0_strainSum_27 rfl (lv_at hl 2 rfl) ?_
        refine lv_iload hx hb dX0_strainSum_28 (lv_at hl 4 rfl) ?_
        refine lv_isub hx hb dX0_strainSum_30 ?_
        refine va_mmax hx hb (by rw [hml]; exact hl.1.symm) hown (hts (.methodLink RX0 27 Lib.Math.max.name) (by decide +kernel)) (hts (.static Lib.Math.max.name) (by decide +kernel)) (hts (.initialized "java/lang/Math") (by decide +kernel)) (hts (.code Lib.Math.max.name Lib.Math.max.code 2 (some .int)) (by decide +kernel)) (Nat.le_of_ble_eq_true rfl) (Nat.le_of_ble_eq_true rfl) (Nat.zero_le _) (Nat.zero_le _) dX0_strainSum_31 ?_
        refine lv_i2l (v := (if 0 < (x2 - x5) then (x2 - x5) else 0).toInt64) hx hb dX0_strainSum_34 rfl ?_
        refine lv_lmul hx hb dX0_strainSum_35 ?_
        refine lv_ladd hx hb dX0_strainSum_36 ?_
        refine x_nml h (fun y3_4 h => ?_)
        refine lv_lstore_n (lv' := [(3, .long y3_4), (0, .ref (ad 41)), (1, .int x1), (2, .int x2), (5, .int x5)]) hx hb dX0_strainSum_37 rfl hl (by decide) rfl (fun ls hl => ?_)
        refine lv_iinc (v := (x5 + 1)) (lv' := [(5, .int (x5 + 1)), (3, .long y3_4), (0, .ref (ad 41)), (1, .int x1), (2, .int x2)]) hx hb dX0_strainSum_38 hl (k := 4) rfl rfl (by decide) rfl (fun ls hl => ?_)
        refine lv_goto (tgt := 5) hx hb dX0_strainSum_41 (by decide) ?_
        exact ih y3_4 (x5 + 1) _ _ _ hP hS (lv_sub hl [2, 3, 4, 1, 0] rfl) h
def fX0_strainSum_E (x1 : Int32) (x2 : Int32) (w : Mm) : Option (Int64) := fX0_strainSum_5 x1 x2 w FU 0 0
set_option maxRecDepth 20000 in
theorem bX0_strainSum_E {p : Program} {l : Launch} {e : Env} {s : State} {m : MethodId} {args : Array Value} {below : List Frame} {meth : Method} {c : Code} {Q : State → Prop} {D : va_G} {c3 : C3} {ad : Nat → Nat} {A : Nat → Prop} {r : Int64} {w : Mm} (X : Cx p s m args c cX0_strainSum 6 RX0 wsX0_strainSum D c3 (encC c3 ad) gC A) (hret : Rl p l e (rmX0_strainSum) s m args below meth c Q cX0_strainSum D (encC c3 ad) A r w) : ∀ (x1 : Int32) (x2 : Int32) (H : Heap) (locs : List Loc) (ls : Array Slot), va_P D vwCl ((encC c3 ad) w) H → va_S A s.heap H locs → lv_has ls 6 [(0, .ref (ad 41)), (1, .int x1), (2, .int x2)] → fX0_strainSum_E x1 x2 w = some r → W p l e (rmX0_strainSum) s m args below meth c H locs 0 0 Q (F0 m 0 ls []) := by
  have hx := X.1
  have hb := X.2.1
  have hml := X.2.2.1
  have hown := X.2.2.2.1
  have hts := X.2.2.2.2.1
  intro x1 x2 H locs ls hP hS hl h
  unfold fX0_strainSum_E at h
  refine lv_lconst (v := 0) hx hb dX0_strainSum_0 (by decide) ?_
  refine lv_lstore_n (lv' := [(3, .long 0), (0, .ref (ad 41)), (1, .int x1), (2, .int x2)]) hx hb dX0_strainSum_1 rfl hl (by decide) rfl (fun ls hl => ?_)
  refine lv_iconst (v := 0) hx hb dX0_strainSum_2 (by decide) ?_
  refine lv_istore (lv' := [(5, .int 0), (3, .long 0), (0, .ref (ad 41)), (1, .int x1), (2, .int x2)]) hx hb dX0_strainSum_3 hl (by decide) rfl (fun ls hl => ?_)
  exact bX0_strainSum_5 X hret x1 x2 FU 0 0 _ _ _ hP hS (lv_sub hl [2, 3, 4, 1, 0] rfl) h
def fX0_strainSum (x1 : Int32) (x2 : Int32) (w : Mm) : Option (Int64) := fX0_strainSum_E x1 x2 w
theorem ctX0_strainSum (l : Launch) (D : va_G) (c3 : C3) (ad : Nat → Nat) (w : Mm) (sz : Nat) (x1 : Int32) (x2 : Int32) (r : Int64) (h : fX0_strainSum x1 x2 w = some r) : Cl l yX0_strainSum wsX0_strainSum rmX0_strainSum D c3 (encC c3 ad) gC [.ref (ad 41), .int x1, .int x2] w sz r w := by
  refine Cl.of (cc := cX0_strainSum) (maxL := 6) (encC_ok c3 ad) (by decide) rfl (Nat.le_of_ble_eq_true rfl) ?_
  intro p e s m below meth c A Q ls X hret hP hS hl
  exact bX0_strainSum_E X hret x1 x2 _ _ ls hP hS hl h
theorem iwX7_mid_X0 : ∀ w ∈ wsX00, w ∈ wsX7_mid := fun _ h => List.mem_cons_of_mem _ (List.mem_append_right _ h)
theorem iwX7_mid_X2 : ∀ w ∈ wsX20, w ∈ wsX7_mid := fun _ h => List.mem_cons_of_mem _ (List.mem_append_left _ (List.mem_append_right _ h))
theorem iwX7_mid_X7 : ∀ w ∈ wsX70, w ∈ wsX7_mid := fun _ h => List.mem_cons_of_mem _ (List.mem_append_left _ (List.mem_append_left _ (List.mem_append_right _ h)))
theorem lkX7_mid_27 : Cond.fieldLink RX7 27 "StuckDoor" "family" "LStuckDoor$Family;" ∈ wsX7_mid := by decide +kernel
theorem lkX7_mid_48 : Cond.fieldLink RX7 48 "StuckDoor" "chances" "LStuckDoor$Chances;" ∈ wsX7_mid := by decide +kernel
theorem lkX7_mid_178 : Cond.fieldLink RX7 178 "StuckDoor$Family" "strain" "I" ∈ wsX7_mid := by decide +kernel
theorem lkX7_mid_277 : Cond.fieldLink RX7 277 "StuckDoor$Chances" "total" "J" ∈ wsX7_mid := by decide +kernel
def rmX7_mid : Room := { frames := 2, cells := 0, slots := 0, locals := 48 }
def fX7_mid_E (x1 : Int32) (x2 : Int32) (w : Mm) : Option (Int32 × Mm) := bo (fX0_fit x1 x2) (fun r_2 => (if r_2 = 0 then some ((-1), w) else bo (fX2_isEmpty_23 w) (fun r_6 => (if r_6 = 0 then bo (fX0_spread x1 x2 w) (fun w_11 => bo (fX0_strainSum x1 (w_11.1 23 7) w_11) (fun r_13 => bo (fX7_tellShare r_13 (w_11.2.1 41 1) w_11) (fun w_17 => some (1, w_17)))) else some ((-4), w)))))
set_option maxRecDepth 20000 in
theorem bX7_mid_E {p : Program} {l : Launch} {e : Env} {s : State} {m : MethodId} {args : Array Value} {below : List Frame} {meth : Method} {c : Code} {Q : State → Prop} {D : va_G} {c3 : C3} {ad : Nat → Nat} {A : Nat → Prop} {r : Int32} {w' : Mm} (X : Cx p s m args c cX7_mid 3 RX7 wsX7_mid D c3 (encC c3 ad) gC A) (hret : Ri p l e (rmX7_mid) s m args below meth c Q cX7_mid D (encC c3 ad) A r w') : ∀ (x1 : Int32) (x2 : Int32) (w : Mm) (H : Heap) (locs : List Loc) (ls : Array Slot), va_P D vwCl ((encC c3 ad) w) H → va_S A s.heap H locs → lv_has ls 3 [(0, .ref (ad 0)), (1, .int x1), (2, .int x2)] → fX7_mid_E x1 x2 w = some (r, w') → W p l e (rmX7_mid) s m args below meth c H locs 0 0 Q (F0 m 0 ls []) := by
  have hx := X.1
  have hb := X.2.1
  have hml := X.2.2.1
  have hown := X.2.2.2.1
  have hts := X.2.2.2.2.1
  intro x1 x2 w H locs ls hP hS hl h
  unfold fX7_mid_E at h
  refine lv_iload_n hx hb dX7_mid_0 rfl (lv_at hl 1 rfl) ?_
  refine lv_iload_n hx hb dX7_mid_1 rfl (lv_at hl 2 rfl) ?_
  obtain ⟨r_2, e_1, h⟩ := bo_s h
  refine x_goi X hS (x_runS (As := [.int x1, .int x2]) (rest := []) X gC_ok hP hS (ctX0_fit l D c3 ad w _ x1 x2 _ e_1) (va_cwS 2 hts gX7_mid_X0_fit rfl rfl rfl (by decide +kernel) ⟨by decide, by decide⟩) rfl hl.1 rfl (Nat.le_of_ble_eq_true rfl) dX7_mid_2) (fun H locs hP hS => ?_)
  refine lv_if_ne (tgt := 10) hx hb dX7_mid_5 (by decide) (fun c_4 => ?_) (fun c_4 => ?_)
  · replace h := it_n c_4 h
    refine lv_aload_n hx hb dX7_mid_10 rfl (lv_at hl 0 rfl) ?_
    refine x_get (rest := []) X hP (gC0 c3 ad w) rfl iwX7_mid_X7 3 (by decide) lkX7_mid_27 rfl dX7_mid_11 ?_
    obtain ⟨r_6, e_5, h⟩ := bo_s h
    refine x_goi X hS (x_runV (As := []) (rest := []) X gC_ok hP hS (ctX2_isEmpty_23 l D c3 ad w _ _ e_5) (cwV 0 hts gX7_mid_X2_isEmpty rfl rfl rfl (by decide +kernel) ⟨by decide, by decide⟩) (gC23 c3 ad w) rfl rfl rfl hl.1 rfl (Nat.le_of_ble_eq_true rfl) dX7_mid_14) (fun H locs hP hS => ?_)
    refine lv_if_eq (tgt := 23) hx hb dX7_mid_17 (by decide) (fun c_8 => ?_) (fun c_8 => ?_)
    · replace h := it_p c_8 h
      refine lv_aload_n hx hb dX7_mid_23 rfl (lv_at hl 0 rfl) ?_
      refine x_get (rest := []) X hP (gC0 c3 ad w) rfl iwX7_mid_X7 6 (by decide) lkX7_mid_48 rfl dX7_mid_24 ?_
      refine lv_iload_n hx hb dX7_mid_27 rfl (lv_at hl 1 rfl) ?_
      refine lv_iload_n hx hb dX7_mid_28 rfl (lv_at hl 2 rfl) ?_
      obtain ⟨w_11, e_9, h⟩ := bo_s h
      refine x_gov X hS (x_runV (As := [.int x1, .int x2]) (rest := []) X gC_ok hP hS (ctX0_spread l D c3 ad w _ x1 x2 _ e_9) (cwV 2 hts gX7_mid_X0_spread rfl rfl rfl (by decide +kernel) ⟨by decide, by decide⟩) (gC41 c3 ad w) rfl rfl rfl hl.1 rfl (Nat.le_of_ble_eq_true rfl) dX7_mid_29) (fun H locs hP hS => ?_)
      refine lv_aload_n hx hb dX7_mid_32 rfl (lv_at hl 0 rfl) ?_
      refine lv_aload_n hx hb dX7_mid_33 rfl (lv_at hl 0 rfl) ?_
      refine x_get (rest := [.ref (ad 0)]) X hP (gC0 c3 ad w_11) rfl iwX7_mid_X7 6 (by decide) lkX7_mid_48 rfl dX7_mid_34 ?_
      refine lv_iload_n hx hb dX7_mid_37 rfl (lv_at hl 1 rfl) ?_
      refine lv_aload_n hx hb dX7_mid_38 rfl (lv_at hl 0 rfl) ?_
      refine x_get (rest := [.int x1, .ref (ad 41), .ref (ad 0)]) X hP (gC0 c3 ad w_11) rfl iwX7_mid_X7 3 (by decide) lkX7_mid_27 rfl dX7_mid_39 ?_
      refine x_get (rest := [.int x1, .ref (ad 41), .ref (ad 0)]) X hP (gC23 c3 ad w_11) rfl iwX7_mid_X2 7 (by decide) lkX7_mid_178 rfl dX7_mid_42 ?_
      obtain ⟨r_13, e_12, h⟩ := bo_s h
      refine x_gol X hS (x_runV (As := [.int x1, .int (w_11.1 23 7)]) (rest := [.ref (ad 0)]) X gC_ok hP hS (ctX0_strainSum l D c3 ad w_11 _ x1 (w_11.1 23 7) _ e_12) (cwV 2 hts gX7_mid_X0_strainSum rfl rfl rfl (by decide +kernel) ⟨by decide, by decide⟩) (gC41 c3 ad w_11) rfl rfl rfl hl.1 rfl (Nat.le_of_ble_eq_true rfl) dX7_mid_45) (fun H locs hP hS => ?_)
      refine lv_aload_n hx hb dX7_mid_48 rfl (lv_at hl 0 rfl) ?_
      refine x_get (rest := [.long r_13, .ref (ad 0)]) X hP (gC0 c3 ad w_11) rfl iwX7_mid_X7 6 (by decide) lkX7_mid_48 rfl dX7_mid_49 ?_
      refine x_get (rest := [.long r_13, .ref (ad 0)]) X hP (gC41 c3 ad w_11) rfl iwX7_mid_X0 1 (by decide) lkX7_mid_277 rfl dX7_mid_52 ?_
      obtain ⟨w_17, e_15, h⟩ := bo_s h
      refine x_gov X hS (x_runV (As := [.long r_13, .long (w_11.2.1 41 1)]) (rest := []) X gC_ok hP hS (ctX7_tellShare l D c3 ad w_11 _ r_13 (w_11.2.1 41 1) _ e_15) (cwV 2 hts gX7_mid_X7_tellShare rfl rfl rfl (by decide +kernel) ⟨by decide, by decide⟩) (gC0 c3 ad w_11) rfl rfl rfl hl.1 rfl (Nat.le_of_ble_eq_true rfl) dX7_mid_55) (fun H locs hP hS => ?_)
      refine lv_iconst (v := 1) hx hb dX7_mid_58 (by decide) ?_
      obtain ⟨rfl, rfl⟩ := Prod.mk.inj (Option.some.inj h)
      exact hret _ _ _ _ hP hS dX7_mid_59
    · replace h := it_n c_8 h
      refine lv_bipush (v := (-4)) hx hb dX7_mid_20 (by decide) ?_
      obtain ⟨rfl, rfl⟩ := Prod.mk.inj (Option.some.inj h)
      exact hret _ _ _ _ hP hS dX7_mid_22
  · replace h := it_p c_4 h
    refine lv_iconst (v := (-1)) hx hb dX7_mid_8 (by decide) ?_
    obtain ⟨rfl, rfl⟩ := Prod.mk.inj (Option.some.inj h)
    exact hret _ _ _ _ hP hS dX7_mid_9
def fX7_mid (x1 : Int32) (x2 : Int32) (w : Mm) : Option (Int32 × Mm) := fX7_mid_E x1 x2 w
theorem ctX7_mid (l : Launch) (D : va_G) (c3 : C3) (ad : Nat → Nat) (w : Mm) (sz : Nat) (x1 : Int32) (x2 : Int32) (r : Int32) (w' : Mm) (h : fX7_mid x1 x2 w = some (r, w')) : Ci l yX7_mid wsX7_mid rmX7_mid D c3 (encC c3 ad) gC [.ref (ad 0), .int x1, .int x2] w sz r w' := by
  refine Ci.of (cc := cX7_mid) (maxL := 3) (encC_ok c3 ad) (by decide) rfl (Nat.le_of_ble_eq_true rfl) ?_
  intro p e s m below meth c A Q ls X hret hP hS hl
  exact bX7_mid_E X hret x1 x2 w _ _ ls hP hS hl h
theorem iwX0_atMost_X0 : ∀ w ∈ wsX00, w ∈ wsX0_atMost := fun _ h => List.mem_cons_of_mem _ (List.mem_append_right _ h)
theorem lkX0_atMost_9 : Cond.fieldLink RX0 9 "StuckDoor$Chances" "weights" "[J" ∈ wsX0_atMost := by decide +kernel
def rmX0_atMost : Room := { frames := 1, cells := 0, slots := 0, locals := 21 }
def fX0_atMost_43 (k6 : Int64 → Int32 → Option (Int64)) (x1 : Int32) (x2 : Int32) (x3 : Int32) (y4 : Int64) (x6 : Int32) (w : Mm) : Option (Int64) := k6 y4 (x6 + 1)
set_option maxRecDepth 20000 in
theorem bX0_atMost_43 {p : Program} {l : Launch} {e : Env} {s : State} {m : MethodId} {args : Array Value} {below : List Frame} {meth : Method} {c : Code} {Q : State → Prop} {D : va_G} {c3 : C3} {ad : Nat → Nat} {A : Nat → Prop} {r : Int64} {w : Mm} (X : Cx p s m args c cX0_atMost 7 RX0 wsX0_atMost D c3 (encC c3 ad) gC A) (hret : Rl p l e (rmX0_atMost) s m args below meth c Q cX0_atMost D (encC c3 ad) A r w) {x1 : Int32} {x2 : Int32} {x3 : Int32} {k6 : Int64 → Int32 → Option (Int64)} (hk6 : ∀ (y4 : Int64) (x6 : Int32) (H : Heap) (locs : List Loc) (ls : Array Slot), va_P D vwCl ((encC c3 ad) w) H → va_S A s.heap H locs → lv_has ls 7 [(0, .ref (ad 41)), (1, .int x1), (2, .int x2), (3, .int x3), (4, .long y4), (6, .int x6)] → k6 y4 x6 = some r → W p l e (rmX0_atMost) s m args below meth c H locs 0 0 Q (F0 m 6 ls [])) : ∀ (y4 : Int64) (x6 : Int32) (H : Heap) (locs : List Loc) (ls : Array Slot), va_P D vwCl ((encC c3 ad) w) H → va_S A s.heap H locs → lv_has ls 7 [(0, .ref (ad 41)), (1, .int x1), (2, .int x2), (3, .int x3), (4, .long y4), (6, .int x6)] → fX0_atMost_43 k6 x1 x2 x3 y4 x6 w = some r → W p l e (rmX0_atMost) s m args below meth c H locs 0 0 Q (F0 m 43 ls []) := by
  have hx := X.1
  have hb := X.2.1
  have hml := X.2.2.1
  have hown := X.2.2.2.1
  have hts := X.2.2.2.2.1
  intro y4 x6 H locs ls hP hS hl h
  unfold fX0_atMost_43 at h
  refine lv_iinc (v := (x6 + 1)) (lv' := [(6, .int (x6 + 1)), (0, .ref (ad 41)), (1, .int x1), (2, .int x2), (3, .int x3), (4, .long y4)]) hx hb dX0_atMost_43 hl (k := 5) rfl rfl (by decide) rfl (fun ls hl => ?_)
  refine lv_goto (tgt := 6) hx hb dX0_atMost_46 (by decide) ?_
  exact hk6 y4 (x6 + 1) _ _ _ hP hS (lv_sub hl [1, 2, 3, 4, 5, 0] rfl) h
def fX0_atMost_6 (x1 : Int32) (x2 : Int32) (x3 : Int32) (w : Mm) : Nat → Int64 → Int32 → Option (Int64)
  | 0, _, _ => none
  | n + 1, y4, x6 => (if x1 < x6 then some y4 else (if 12 < x6 then some y4 else (if x3 < (if 0 < (x2 - x6) then (x2 - x6) else 0) then fX0_atMost_43 (fX0_atMost_6 x1 x2 x3 w n) x1 x2 x3 y4 x6 w else gd (inb x6 13 = true) (nm (y4 + (w.2.1 42 x6.toNatClampNeg)) (fun y4_5 => fX0_atMost_43 (fX0_atMost_6 x1 x2 x3 w n) x1 x2 x3 y4_5 x6 w)))))
set_option maxRecDepth 20000 in
theorem bX0_atMost_6 {p : Program} {l : Launch} {e : Env} {s : State} {m : MethodId} {args : Array Value} {below : List Frame} {meth : Method} {c : Code} {Q : State → Prop} {D : va_G} {c3 : C3} {ad : Nat → Nat} {A : Nat → Prop} {r : Int64} {w : Mm} (X : Cx p s m args c cX0_atMost 7 RX0 wsX0_atMost D c3 (encC c3 ad) gC A) (hret : Rl p l e (rmX0_atMost) s m args below meth c Q cX0_atMost D (encC c3 ad) A r w) : ∀ (x1 : Int32) (x2 : Int32) (x3 : Int32) (n : Nat) (y4 : Int64) (x6 : Int32) (H : Heap) (locs : List Loc) (ls : Array Slot), va_P D vwCl ((encC c3 ad) w) H → va_S A s.heap H locs → lv_has ls 7 [(0, .ref (ad 41)), (1, .int x1), (2, .int x2), (3, .int x3), (4, .long y4), (6, .int x6)] → fX0_atMost_6 x1 x2 x3 w n y4 x6 = some r → W p l e (rmX0_atMost) s m args below meth c H locs 0 0 Q (F0 m 6 ls []) := by
  have hx := X.1
  have hb := X.2.1
  have hml := X.2.2.1
  have hown := X.2.2.2.1
  have hts := X.2.2.2.2.1
  intro x1 x2 x3 n
  induction n with
  | zero =>
    intro y4 x6 H locs ls hP hS hl h
    exact absurd h (by simp [fX0_atMost_6])
  | succ n ih =>
    intro y4 x6 H locs ls hP hS hl h
    rw [fX0_atMost_6] at h
    refine lv_iload hx hb dX0_atMost_6 (lv_at hl 5 rfl) ?_
    refine lv_iload_n hx hb dX0_atMost_8 rfl (lv_at hl 1 rfl) ?_
    refine lv_icmp_gt (tgt := 49) hx hb dX0_atMost_9 (by decide) (fun c_1 => ?_) (fun c_1 => ?_)
    · replace h := it_p c_1 h
      refine lv_lload hx hb dX0_atMost_49 (lv_at hl 4 rfl) ?_
      obtain rfl := Option.some.inj h
      exact hret _ _ _ _ hP hS dX0_atMost_51
    · replace h := it_n c_1 h
      refine lv_iload hx hb dX0_atMost_12 (lv_at hl 5 rfl) ?_
      refine lv_bipush (v := 12) hx hb dX0_atMost_14 (by decide) ?_
      refine lv_icmp_gt (tgt := 49) hx hb dX0_atMost_16 (by decide) (fun c_2 => ?_) (fun c_2 => ?_)
      · replace h := it_p c_2 h
        refine lv_lload hx hb dX0_atMost_49 (lv_at hl 4 rfl) ?_
        obtain rfl := Option.some.inj h
        exact hret _ _ _ _ hP hS dX0_atMost_51
      · replace h := it_n c_2 h
        refine lv_iconst (v := 0) hx hb dX0_atMost_19 (by decide) ?_
        refine lv_iload_n hx hb dX0_atMost_20 rfl (lv_at hl 2 rfl) ?_
        refine lv_iload hx hb dX0_atMost_21 (lv_at hl 5 rfl) ?_
        refine lv_isub hx hb dX0_atMost_23 ?_
        refine va_mmax hx hb (by rw [hml]; exact hl.1.symm) hown (hts (.methodLink RX0 27 Lib.Math.max.name) (by decide +kernel)) (hts (.static Lib.Math.max.name) (by decide +kernel)) (hts (.initialized "java/lang/Math") (by decide +kernel)) (hts (.code Lib.Math.max.name Lib.Math.max.code 2 (some .int)) (by decide +kernel)) (Nat.le_of_ble_eq_true rfl) (Nat.le_of_ble_eq_true rfl) (Nat.zero_le _) (Nat.zero_le _) dX0_atMost_24 ?_
        refine lv_iload_n hx hb dX0_atMost_27 rfl (lv_at hl 3 rfl) ?_
        refine lv_icmp_gt (tgt := 43) hx hb dX0_atMost_28 (by decide) (fun c_3 => ?_) (fun c_3 => ?_)
        · replace h := it_p c_3 h
          exact bX0_atMost_43 (x1 := x1) (x2 := x2) (x3 := x3) (k6 := (fX0_atMost_6 x1 x2 x3 w n)) X hret ih y4 x6 _ _ _ hP hS (lv_sub hl [0, 1, 2, 3, 4, 5] rfl) h
        · replace h := it_n c_3 h
          refine lv_lload hx hb dX0_atMost_31 (lv_at hl 4 rfl) ?_
          refine lv_aload_n hx hb dX0_atMost_33 rfl (lv_at hl 0 rfl) ?_
          refine x_get (rest := [.long y4]) X hP (gC41 c3 ad w) rfl iwX0_atMost_X0 0 (by decide) lkX0_atMost_9 rfl dX0_atMost_34 ?_
          refine lv_iload hx hb dX0_atMost_37 (lv_at hl 5 rfl) ?_
          obtain ⟨g_4, h⟩ := gd_s h
          refine x_lald X hP (gC42 c3 ad w) g_4 dX0_atMost_39 ?_
          refine lv_ladd hx hb dX0_atMost_40 ?_
          refine x_nml h (fun y4_5 h => ?_)
          refine lv_lstore (lv' := [(4, .long y4_5), (0, .ref (ad 41)), (1, .int x1), (2, .int x2), (3, .int x3), (6, .int x6)]) hx hb dX0_atMost_41 hl (by decide) rfl (fun ls hl => ?_)
          exact bX0_atMost_43 (x1 := x1) (x2 := x2) (x3 := x3) (k6 := (fX0_atMost_6 x1 x2 x3 w n)) X hret ih y4_5 x6 _ _ _ hP hS (lv_sub hl [1, 2, 3, 4, 0, 5] rfl) h
def fX0_atMost_E (x1 : Int32) (x2 : Int32) (x3 : Int32) (w : Mm) : Option (Int64) := fX0_atMost_6 x1 x2 x3 w FU 0 0
set_option maxRecDepth 20000 in
theorem bX0_atMost_E {p : Program} {l : Launch} {e : Env} {s : State} {m : MethodId} {args : Array Value} {below : List Frame} {meth : Method} {c : Code} {Q : State → Prop} {D : va_G} {c3 : C3} {ad : Nat → Nat} {A : Nat → Prop} {r : Int64} {w : Mm} (X : Cx p s m args c cX0_atMost 7 RX0 wsX0_atMost D c3 (encC c3 ad) gC A) (hret : Rl p l e (rmX0_atMost) s m args below meth c Q cX0_atMost D (encC c3 ad) A r w) : ∀ (x1 : Int32) (x2 : Int32) (x3 : Int32) (H : Heap) (locs : List Loc) (ls : Array Slot), va_P D vwCl ((encC c3 ad) w) H → va_S A s.heap H locs → lv_has ls 7 [(0, .ref (ad 41)), (1, .int x1), (2, .int x2), (3, .int x3)] → fX0_atMost_E x1 x2 x3 w = some r → W p l e (rmX0_atMost) s m args below meth c H locs 0 0 Q (F0 m 0 ls []) := by
  have hx := X.1
  have hb := X.2.1
  have hml := X.2.2.1
  have hown := X.2.2.2.1
  have hts := X.2.2.2.2.1
  intro x1 x2 x3 H locs ls hP hS hl h
  unfold fX0_atMost_E at h
  refine lv_lconst (v := 0) hx hb dX0_atMost_0 (by decide) ?_
  refine lv_lstore (lv' := [(4, .long 0), (0, .ref (ad 41)), (1, .int x1), (2, .int x2), (3, .int x3)]) hx hb dX0_atMost_1 hl (by decide) rfl (fun ls hl => ?_)
  refine lv_iconst (v := 0) hx hb dX0_atMost_3 (by decide) ?_
  refine lv_istore (lv' := [(6, .int 0), (4, .long 0), (0, .ref (ad 41)), (1, .int x1), (2, .int x2), (3, .int x3)]) hx hb dX0_atMost_4 hl (by decide) rfl (fun ls hl => ?_)
  exact bX0_atMost_6 X hret x1 x2 x3 FU 0 0 _ _ _ hP hS (lv_sub hl [2, 3, 4, 5, 1, 0] rfl) h
def fX0_atMost (x1 : Int32) (x2 : Int32) (x3 : Int32) (w : Mm) : Option (Int64) := fX0_atMost_E x1 x2 x3 w
theorem ctX0_atMost (l : Launch) (D : va_G) (c3 : C3) (ad : Nat → Nat) (w : Mm) (sz : Nat) (x1 : Int32) (x2 : Int32) (x3 : Int32) (r : Int64) (h : fX0_atMost x1 x2 x3 w = some r) : Cl l yX0_atMost wsX0_atMost rmX0_atMost D c3 (encC c3 ad) gC [.ref (ad 41), .int x1, .int x2, .int x3] w sz r w := by
  refine Cl.of (cc := cX0_atMost) (maxL := 7) (encC_ok c3 ad) (by decide) rfl (Nat.le_of_ble_eq_true rfl) ?_
  intro p e s m below meth c A Q ls X hret hP hS hl
  exact bX0_atMost_E X hret x1 x2 x3 _ _ ls hP hS hl h
theorem iwX7_odds_X0 : ∀ w ∈ wsX00, w ∈ wsX7_odds := fun _ h => List.mem_cons_of_mem _ (List.mem_append_right _ h)
theorem iwX7_odds_X2 : ∀ w ∈ wsX20, w ∈ wsX7_odds := fun _ h => List.mem_cons_of_mem _ (List.mem_append_left _ (List.mem_append_right _ h))
theorem iwX7_odds_X7 : ∀ w ∈ wsX70, w ∈ wsX7_odds := fun _ h => List.mem_cons_of_mem _ (List.mem_append_left _ (List.mem_append_left _ (List.mem_append_right _ h)))
theorem lkX7_odds_27 : Cond.fieldLink RX7 27 "StuckDoor" "family" "LStuckDoor$Family;" ∈ wsX7_odds := by decide +kernel
theorem lkX7_odds_48 : Cond.fieldLink RX7 48 "StuckDoor" "chances" "LStuckDoor$Chances;" ∈ wsX7_odds := by decide +kernel
theorem lkX7_odds_161 : Cond.fieldLink RX7 161 "StuckDoor$Family" "bearing" "[I" ∈ wsX7_odds := by decide +kernel
theorem lkX7_odds_178 : Cond.fieldLink RX7 178 "StuckDoor$Family" "strain" "I" ∈ wsX7_odds := by decide +kernel
theorem lkX7_odds_277 : Cond.fieldLink RX7 277 "StuckDoor$Chances" "total" "J" ∈ wsX7_odds := by decide +kernel
def rmX7_odds : Room := { frames := 3, cells := 0, slots := 0, locals := 65 }
def fX7_odds_E (x1 : Int32) (x2 : Int32) (x3 : Int32) (x4 : Int32) (w : Mm) : Option (Int32 × Mm) := bo (fX2_hasPerson_23 x1 w) (fun r_2 => (if r_2 = 0 then some ((-1), w) else bo (fX2_hasSaying_23 x2 w) (fun r_6 => (if r_6 = 0 then some ((-1), w) else bo (fX0_fit x3 x4) (fun r_10 => (if r_10 = 0 then some ((-1), w) else bo (fX2_isAnyOver_23 w) (fun r_14 => (if r_14 = 0 then bo (fX2_isEmpty_23 w) (fun r_18 => (if r_18 = 0 then bo (fX0_spread x3 x4 w) (fun w_23 => gd (inb x1 4 = true) (bo (fX2_nearNow_23 x2 w_23) (fun r_26 => nm ((w_23.1 24 x1.toNatClampNeg) - r_26) (fun x5_28 => bo (fX0_atMost x3 (w_23.1 23 7) x5_28 w_23) (fun r_30 => bo (fX7_tellShare r_30 (w_23.2.1 41 1) w_23) (fun w_34 => some (1, w_34))))))) else some ((-4), w))) else some ((-4), w)))))))))
set_option maxRecDepth 20000 in
theorem bX7_odds_E {p : Program} {l : Launch} {e : Env} {s : State} {m : MethodId} {args : Array Value} {below : List Frame} {meth : Method} {c : Code} {Q : State → Prop} {D : va_G} {c3 : C3} {ad : Nat → Nat} {A : Nat → Prop} {r : Int32} {w' : Mm} (X : Cx p s m args c cX7_odds 6 RX7 wsX7_odds D c3 (encC c3 ad) gC A) (hret : Ri p l e (rmX7_odds) s m args below meth c Q cX7_odds D (encC c3 ad) A r w') : ∀ (x1 : Int32) (x2 : Int32) (x3 : Int32) (x4 : Int32) (w : Mm) (H : Heap) (locs : List Loc) (ls : Array Slot), va_P D vwCl ((encC c3 ad) w) H → va_S A s.heap H locs → lv_has ls 6 [(0, .ref (ad 0)), (1, .int x1), (2, .int x2), (3, .int x3), (4, .int x4)] → fX7_odds_E x1 x2 x3 x4 w = some (r, w') → W p l e (rmX7_odds) s m args below meth c H locs 0 0 Q (F0 m 0 ls []) := by
  have hx := X.1
  have hb := X.2.1
  have hml := X.2.2.1
  have hown := X.2.2.2.1
  have hts := X.2.2.2.2.1
  intro x1 x2 x3 x4 w H locs ls hP hS hl h
  unfold fX7_odds_E at h
  refine lv_aload_n hx hb dX7_odds_0 rfl (lv_at hl 0 rfl) ?_
  refine x_get (rest := []) X hP (gC0 c3 ad w) rfl iwX7_odds_X7 3 (by decide) lkX7_odds_27 rfl dX7_odds_1 ?_
  refine lv_iload_n hx hb dX7_odds_4 rfl (lv_at hl 1 rfl) ?_
  obtain ⟨r_2, e_1, h⟩ := bo_s h
  refine x_goi X hS (x_runV (As := [.int x1]) (rest := []) X gC_ok hP hS (ctX2_hasPerson_23 l D c3 ad w _ x1 _ e_1) (cwV 1 hts gX7_odds_X2_hasPerson rfl rfl rfl (by decide +kernel) ⟨by decide, by decide⟩) (gC23 c3 ad w) rfl rfl rfl hl.1 rfl (Nat.le_of_ble_eq_true rfl) dX7_odds_5) (fun H locs hP hS => ?_)
  refine lv_if_eq (tgt := 31) hx hb dX7_odds_8 (by decide) (fun c_4 => ?_) (fun c_4 => ?_)
  · replace h := it_p c_4 h
    refine lv_iconst (v := (-1)) hx hb dX7_odds_31 (by decide) ?_
    obtain ⟨rfl, rfl⟩ := Prod.mk.inj (Option.some.inj h)
    exact hret _ _ _ _ hP hS dX7_odds_32
  · replace h := it_n c_4 h
    refine lv_aload_n hx hb dX7_odds_11 rfl (lv_at hl 0 rfl) ?_
    refine x_get (rest := []) X hP (gC0 c3 ad w) rfl iwX7_odds_X7 3 (by decide) lkX7_odds_27 rfl dX7_odds_12 ?_
    refine lv_iload_n hx hb dX7_odds_15 rfl (lv_at hl 2 rfl) ?_
    obtain ⟨r_6, e_5, h⟩ := bo_s h
    refine x_goi X hS (x_runV (As := [.int x2]) (rest := []) X gC_ok hP hS (ctX2_hasSaying_23 l D c3 ad w _ x2 _ e_5) (cwV 1 hts gX7_odds_X2_hasSaying rfl rfl rfl (by decide +kernel) ⟨by decide, by decide⟩) (gC23 c3 ad w) rfl rfl rfl hl.1 rfl (Nat.le_of_ble_eq_true rfl) dX7_odds_16) (fun H locs hP hS => ?_)
    refine lv_if_eq (tgt := 31) hx hb dX7_odds_19 (by decide) (fun c_8 => ?_) (fun c_8 => ?_)
    · replace h := it_p c_8 h
      refine lv_iconst (v := (-1)) hx hb dX7_odds_31 (by decide) ?_
      obtain ⟨rfl, rfl⟩ := Prod.mk.inj (Option.some.inj h)
      exact hret _ _ _ _ hP hS dX7_odds_32
    · replace h := it_n c_8 h
      refine lv_iload_n hx hb dX7_odds_22 rfl (lv_at hl 3 rfl) ?_
      refine lv_iload hx hb dX7_odds_23 (lv_at hl 4 rfl) ?_
      obtain ⟨r_10, e_9, h⟩ := bo_s h
      refine x_goi X hS (x_runS (As := [.int x3, .int x4]) (rest := []) X gC_ok hP hS (ctX0_fit l D c3 ad w _ x3 x4 _ e_9) (va_cwS 2 hts gX7_odds_X0_fit rfl rfl rfl (by decide +kernel) ⟨by decide, by decide⟩) rfl hl.1 rfl (Nat.le_of_ble_eq_true rfl) dX7_odds_25) (fun H locs hP hS => ?_)
      refine lv_if_ne (tgt := 33) hx hb dX7_odds_28 (by decide) (fun c_12 => ?_) (fun c_12 => ?_)
      · replace h := it_n c_12 h
        refine lv_aload_n hx hb dX7_odds_33 rfl (lv_at hl 0 rfl) ?_
        refine x_get (rest := []) X hP (gC0 c3 ad w) rfl iwX7_odds_X7 3 (by decide) lkX7_odds_27 rfl dX7_odds_34 ?_
        obtain ⟨r_14, e_13, h⟩ := bo_s h
        refine x_goi X hS (x_runV (As := []) (rest := []) X gC_ok hP hS (ctX2_isAnyOver_23 l D c3 ad w _ _ e_13) (cwV 0 hts gX7_odds_X2_isAnyOver rfl rfl rfl (by decide +kernel) ⟨by decide, by decide⟩) (gC23 c3 ad w) rfl rfl rfl hl.1 rfl (Nat.le_of_ble_eq_true rfl) dX7_odds_37) (fun H locs hP hS => ?_)
        refine lv_if_ne (tgt := 53) hx hb dX7_odds_40 (by decide) (fun c_16 => ?_) (fun c_16 => ?_)
        · replace h := it_n c_16 h
          refine lv_bipush (v := (-4)) hx hb dX7_odds_53 (by decide) ?_
          obtain ⟨rfl, rfl⟩ := Prod.mk.inj (Option.some.inj h)
          exact hret _ _ _ _ hP hS dX7_odds_55
        · replace h := it_p c_16 h
          refine lv_aload_n hx hb dX7_odds_43 rfl (lv_at hl 0 rfl) ?_
          refine x_get (rest := []) X hP (gC0 c3 ad w) rfl iwX7_odds_X7 3 (by decide) lkX7_odds_27 rfl dX7_odds_44 ?_
          obtain ⟨r_18, e_17, h⟩ := bo_s h
          refine x_goi X hS (x_runV (As := []) (rest := []) X gC_ok hP hS (ctX2_isEmpty_23 l D c3 ad w _ _ e_17) (cwV 0 hts gX7_odds_X2_isEmpty rfl rfl rfl (by decide +kernel) ⟨by decide, by decide⟩) (gC23 c3 ad w) rfl rfl rfl hl.1 rfl (Nat.le_of_ble_eq_true rfl) dX7_odds_47) (fun H locs hP hS => ?_)
          refine lv_if_eq (tgt := 56) hx hb dX7_odds_50 (by decide) (fun c_20 => ?_) (fun c_20 => ?_)
          · replace h := it_p c_20 h
            refine lv_aload_n hx hb dX7_odds_56 rfl (lv_at hl 0 rfl) ?_
            refine x_get (rest := []) X hP (gC0 c3 ad w) rfl iwX7_odds_X7 6 (by decide) lkX7_odds_48 rfl dX7_odds_57 ?_
            refine lv_iload_n hx hb dX7_odds_60 rfl (lv_at hl 3 rfl) ?_
            refine lv_iload hx hb dX7_odds_61 (lv_at hl 4 rfl) ?_
            obtain ⟨w_23, e_21, h⟩ := bo_s h
            refine x_gov X hS (x_runV (As := [.int x3, .int x4]) (rest := []) X gC_ok hP hS (ctX0_spread l D c3 ad w _ x3 x4 _ e_21) (cwV 2 hts gX7_odds_X0_spread rfl rfl rfl (by decide +kernel) ⟨by decide, by decide⟩) (gC41 c3 ad w) rfl rfl rfl hl.1 rfl (Nat.le_of_ble_eq_true rfl) dX7_odds_63) (fun H locs hP hS => ?_)
            refine lv_aload_n hx hb dX7_odds_66 rfl (lv_at hl 0 rfl) ?_
            refine x_get (rest := []) X hP (gC0 c3 ad w_23) rfl iwX7_odds_X7 3 (by decide) lkX7_odds_27 rfl dX7_odds_67 ?_
            refine x_get (rest := []) X hP (gC23 c3 ad w_23) rfl iwX7_odds_X2 1 (by decide) lkX7_odds_161 rfl dX7_odds_70 ?_
            refine lv_iload_n hx hb dX7_odds_73 rfl (lv_at hl 1 rfl) ?_
            obtain ⟨g_24, h⟩ := gd_s h
            refine x_iald X hP (gC24 c3 ad w_23) g_24 dX7_odds_74 ?_
            refine lv_aload_n hx hb dX7_odds_75 rfl (lv_at hl 0 rfl) ?_
            refine x_get (rest := [.int (w_23.1 24 x1.toNatClampNeg)]) X hP (gC0 c3 ad w_23) rfl iwX7_odds_X7 3 (by decide) lkX7_odds_27 rfl dX7_odds_76 ?_
            refine lv_iload_n hx hb dX7_odds_79 rfl (lv_at hl 2 rfl) ?_
            obtain ⟨r_26, e_25, h⟩ := bo_s h
            refine x_goi X hS (x_runV (As := [.int x2]) (rest := [.int (w_23.1 24 x1.toNatClampNeg)]) X gC_ok hP hS (ctX2_nearNow_23 l D c3 ad w_23 _ x2 _ e_25) (cwV 1 hts gX7_odds_X2_nearNow rfl rfl rfl (by decide +kernel) ⟨by decide, by decide⟩) (gC23 c3 ad w_23) rfl rfl rfl hl.1 rfl (Nat.le_of_ble_eq_true rfl) dX7_odds_80) (fun H locs hP hS => ?_)
            refine lv_isub hx hb dX7_odds_83 ?_
            refine x_nmi h (fun x5_28 h => ?_)
            refine lv_istore (lv' := [(5, .int x5_28), (0, .ref (ad 0)), (1, .int x1), (2, .int x2), (3, .int x3), (4, .int x4)]) hx hb dX7_odds_84 hl (by decide) rfl (fun ls hl => ?_)
            refine lv_aload_n hx hb dX7_odds_86 rfl (lv_at hl 1 rfl) ?_
            refine lv_aload_n hx hb dX7_odds_87 rfl (lv_at hl 1 rfl) ?_
            refine x_get (rest := [.ref (ad 0)]) X hP (gC0 c3 ad w_23) rfl iwX7_odds_X7 6 (by decide) lkX7_odds_48 rfl dX7_odds_88 ?_
            refine lv_iload_n hx hb dX7_odds_91 rfl (lv_at hl 4 rfl) ?_
            refine lv_aload_n hx hb dX7_odds_92 rfl (lv_at hl 1 rfl) ?_
            refine x_get (rest := [.int x3, .ref (ad 41), .ref (ad 0)]) X hP (gC0 c3 ad w_23) rfl iwX7_odds_X7 3 (by decide) lkX7_odds_27 rfl dX7_odds_93 ?_
            refine x_get (rest := [.int x3, .ref (ad 41), .ref (ad 0)]) X hP (gC23 c3 ad w_23) rfl iwX7_odds_X2 7 (by decide) lkX7_odds_178 rfl dX7_odds_96 ?_
            refine lv_iload hx hb dX7_odds_99 (lv_at hl 0 rfl) ?_
            obtain ⟨r_30, e_29, h⟩ := bo_s h
            refine x_gol X hS (x_runV (As := [.int x3, .int (w_23.1 23 7), .int x5_28]) (rest := [.ref (ad 0)]) X gC_ok hP hS (ctX0_atMost l D c3 ad w_23 _ x3 (w_23.1 23 7) x5_28 _ e_29) (cwV 3 hts gX7_odds_X0_atMost rfl rfl rfl (by decide +kernel) ⟨by decide, by decide⟩) (gC41 c3 ad w_23) rfl rfl rfl hl.1 rfl (Nat.le_of_ble_eq_true rfl) dX7_odds_101) (fun H locs hP hS => ?_)
            refine lv_aload_n hx hb dX7_odds_104 rfl (lv_at hl 1 rfl) ?_
            refine x_get (rest := [.long r_30, .ref (ad 0)]) X hP (gC0 c3 ad w_23) rfl iwX7_odds_X7 6 (by decide) lkX7_odds_48 rfl dX7_odds_105 ?_
            refine x_get (rest := [.long r_30, .ref (ad 0)]) X hP (gC41 c3 ad w_23) rfl iwX7_odds_X0 1 (by decide) lkX7_odds_277 rfl dX7_odds_108 ?_
            obtain ⟨w_34, e_32, h⟩ := bo_s h
            refine x_gov X hS (x_runV (As := [.long r_30, .long (w_23.2.1 41 1)]) (rest := []) X gC_ok hP hS (ctX7_tellShare l D c3 ad w_23 _ r_30 (w_23.2.1 41 1) _ e_32) (cwV 2 hts gX7_odds_X7_tellShare rfl rfl rfl (by decide +kernel) ⟨by decide, by decide⟩) (gC0 c3 ad w_23) rfl rfl rfl hl.1 rfl (Nat.le_of_ble_eq_true rfl) dX7_odds_111) (fun H locs hP hS => ?_)
            refine lv_iconst (v := 1) hx hb dX7_odds_114 (by decide) ?_
            obtain ⟨rfl, rfl⟩ := Prod.mk.inj (Option.some.inj h)
            exact hret _ _ _ _ hP hS dX7_odds_115
          · replace h := it_n c_20 h
            refine lv_bipush (v := (-4)) hx hb dX7_odds_53 (by decide) ?_
            obtain ⟨rfl, rfl⟩ := Prod.mk.inj (Option.some.inj h)
            exact hret _ _ _ _ hP hS dX7_odds_55
      · replace h := it_p c_12 h
        refine lv_iconst (v := (-1)) hx hb dX7_odds_31 (by decide) ?_
        obtain ⟨rfl, rfl⟩ := Prod.mk.inj (Option.some.inj h)
        exact hret _ _ _ _ hP hS dX7_odds_32
def fX7_odds (x1 : Int32) (x2 : Int32) (x3 : Int32) (x4 : Int32) (w : Mm) : Option (Int32 × Mm) := fX7_odds_E x1 x2 x3 x4 w
theorem ctX7_odds (l : Launch) (D : va_G) (c3 : C3) (ad : Nat → Nat) (w : Mm) (sz : Nat) (x1 : Int32) (x2 : Int32) (x3 : Int32) (x4 : Int32) (r : Int32) (w' : Mm) (h : fX7_odds x1 x2 x3 x4 w = some (r, w')) : Ci l yX7_odds wsX7_odds rmX7_odds D c3 (encC c3 ad) gC [.ref (ad 0), .int x1, .int x2, .int x3, .int x4] w sz r w' := by
  refine Ci.of (cc := cX7_odds) (maxL := 6) (encC_ok c3 ad) (by decide) rfl (Nat.le_of_ble_eq_true rfl) ?_
  intro p e s m below meth c A Q ls X hret hP hS hl
  exact bX7_odds_E X hret x1 x2 x3 x4 w _ _ ls hP hS hl h
theorem iwX2_deedByLot_X2 : ∀ w ∈ wsX20, w ∈ wsX2_deedByLot := fun _ h => List.mem_cons_of_mem _ (List.mem_append_right _ h)
theorem lkX2_deedByLot_9 : Cond.fieldLink RX2 9 "StuckDoor$Family" "people" "I" ∈ wsX2_deedByLot := by decide +kernel
theorem lkX2_deedByLot_19 : Cond.fieldLink RX2 19 "StuckDoor$Family" "sayings" "I" ∈ wsX2_deedByLot := by decide +kernel
def rmX2_deedByLot_23 : Room := { frames := 4, cells := 0, slots := 0, locals := 87 }
def fX2_deedByLot_23_E (y1 : Int64) (w : Mm) : Option (Int32) := bo (fX2_isEmpty_23 w) (fun r_2 => (if r_2 = 0 then (if (lg_cmp ((y1 / 8) - (y1 / 8) / 4 * 4) 0) = 0 then some (-1) else bo (fX2_isAnyOver_23 w) (fun r_7 => (if r_7 = 0 then gd (¬ ((w.1 23 0).toInt64) = 0) (nm (((y1 / 64) - (y1 / 64) / ((w.1 23 0).toInt64) * ((w.1 23 0).toInt64)).toInt32) (fun x3_11 => gd (¬ ((w.1 23 2).toInt64) = 0) (nm ((y1 - y1 / ((w.1 23 2).toInt64) * ((w.1 23 2).toInt64)).toInt32) (fun x4_13 => bo (fX2_bearsSaying_23 x3_11 x4_13 w) (fun r_15 => (if r_15 = 0 then some (-1) else bo (fX2_deedOf x3_11 x4_13) (fun r_19 => some r_19))))))) else some (-1)))) else some (-1)))
set_option maxRecDepth 20000 in
theorem bX2_deedByLot_23_E {p : Program} {l : Launch} {e : Env} {s : State} {m : MethodId} {args : Array Value} {below : List Frame} {meth : Method} {c : Code} {Q : State → Prop} {D : va_G} {c3 : C3} {ad : Nat → Nat} {A : Nat → Prop} {r : Int32} {w : Mm} (X : Cx p s m args c cX2_deedByLot 5 RX2 wsX2_deedByLot D c3 (encC c3 ad) gC A) (hret : Ri p l e (rmX2_deedByLot_23) s m args below meth c Q cX2_deedByLot D (encC c3 ad) A r w) : ∀ (y1 : Int64) (H : Heap) (locs : List Loc) (ls : Array Slot), va_P D vwCl ((encC c3 ad) w) H → va_S A s.heap H locs → lv_has ls 5 [(0, .ref (ad 23)), (1, .long y1)] → fX2_deedByLot_23_E y1 w = some r → W p l e (rmX2_deedByLot_23) s m args below meth c H locs 0 0 Q (F0 m 0 ls []) := by
  have hx := X.1
  have hb := X.2.1
  have hml := X.2.2.1
  have hown := X.2.2.2.1
  have hts := X.2.2.2.2.1
  intro y1 H locs ls hP hS hl h
  unfold fX2_deedByLot_23_E at h
  refine lv_aload_n hx hb dX2_deedByLot_0 rfl (lv_at hl 0 rfl) ?_
  obtain ⟨r_2, e_1, h⟩ := bo_s h
  refine x_goi X hS (x_runV (As := []) (rest := []) X gC_ok hP hS (ctX2_isEmpty_23 l D c3 ad w _ _ e_1) (cwV 0 hts gX2_deedByLot_X2_isEmpty rfl rfl rfl (by decide +kernel) ⟨by decide, by decide⟩) (gC23 c3 ad w) rfl rfl rfl hl.1 rfl (Nat.le_of_ble_eq_true rfl) dX2_deedByLot_1) (fun H locs hP hS => ?_)
  refine lv_if_ne (tgt := 28) hx hb dX2_deedByLot_4 (by decide) (fun c_4 => ?_) (fun c_4 => ?_)
  · replace h := it_n c_4 h
    refine lv_iconst (v := (-1)) hx hb dX2_deedByLot_28 (by decide) ?_
    obtain rfl := Option.some.inj h
    exact hret _ _ _ _ hP hS dX2_deedByLot_29
  · replace h := it_p c_4 h
    refine lv_lload_n hx hb dX2_deedByLot_7 rfl (lv_at hl 1 rfl) ?_
    refine lv_ldc2 (v := 8) hx hb hown (hts (.constantLong RX2 114 (8)) (by decide +kernel)) dX2_deedByLot_8 ?_
    refine lv_ldiv hx hb dX2_deedByLot_11 (by decide) ?_
    refine lv_ldc2 (v := 4) hx hb hown (hts (.constantLong RX2 116 (4)) (by decide +kernel)) dX2_deedByLot_12 ?_
    refine lv_lrem hx hb dX2_deedByLot_15 (by decide) ?_
    refine lv_lconst (v := 0) hx hb dX2_deedByLot_16 (by decide) ?_
    refine W.lcmp hx hb dX2_deedByLot_17 ?_
    refine lv_if_eq (tgt := 28) hx hb dX2_deedByLot_18 (by decide) (fun c_5 => ?_) (fun c_5 => ?_)
    · replace h := it_p c_5 h
      refine lv_iconst (v := (-1)) hx hb dX2_deedByLot_28 (by decide) ?_
      obtain rfl := Option.some.inj h
      exact hret _ _ _ _ hP hS dX2_deedByLot_29
    · replace h := it_n c_5 h
      refine lv_aload_n hx hb dX2_deedByLot_21 rfl (lv_at hl 0 rfl) ?_
      obtain ⟨r_7, e_6, h⟩ := bo_s h
      refine x_goi X hS (x_runV (As := []) (rest := []) X gC_ok hP hS (ctX2_isAnyOver_23 l D c3 ad w _ _ e_6) (cwV 0 hts gX2_deedByLot_X2_isAnyOver rfl rfl rfl (by decide +kernel) ⟨by decide, by decide⟩) (gC23 c3 ad w) rfl rfl rfl hl.1 rfl (Nat.le_of_ble_eq_true rfl) dX2_deedByLot_22) (fun H locs hP hS => ?_)
      refine lv_if_eq (tgt := 30) hx hb dX2_deedByLot_25 (by decide) (fun c_9 => ?_) (fun c_9 => ?_)
      · replace h := it_p c_9 h
        refine lv_lload_n hx hb dX2_deedByLot_30 rfl (lv_at hl 1 rfl) ?_
        refine lv_ldc2 (v := 64) hx hb hown (hts (.constantLong RX2 118 (64)) (by decide +kernel)) dX2_deedByLot_31 ?_
        refine lv_ldiv hx hb dX2_deedByLot_34 (by decide) ?_
        refine lv_aload_n hx hb dX2_deedByLot_35 rfl (lv_at hl 0 rfl) ?_
        refine x_get (rest := [.long (y1 / 64)]) X hP (gC23 c3 ad w) rfl iwX2_deedByLot_X2 0 (by decide) lkX2_deedByLot_9 rfl dX2_deedByLot_36 ?_
        refine lv_i2l (v := (w.1 23 0).toInt64) hx hb dX2_deedByLot_39 rfl ?_
        obtain ⟨g_10, h⟩ := gd_s h
        refine lv_lrem hx hb dX2_deedByLot_40 g_10 ?_
        refine lv_l2i (v := ((y1 / 64) - (y1 / 64) / ((w.1 23 0).toInt64) * ((w.1 23 0).toInt64)).toInt32) hx hb dX2_deedByLot_41 rfl ?_
        refine x_nmi h (fun x3_11 h => ?_)
        refine lv_istore_n (lv' := [(3, .int x3_11), (0, .ref (ad 23)), (1, .long y1)]) hx hb dX2_deedByLot_42 rfl hl (by decide) rfl (fun ls hl => ?_)
        refine lv_lload_n hx hb dX2_deedByLot_43 rfl (lv_at hl 2 rfl) ?_
        refine lv_aload_n hx hb dX2_deedByLot_44 rfl (lv_at hl 1 rfl) ?_
        refine x_get (rest := [.long y1]) X hP (gC23 c3 ad w) rfl iwX2_deedByLot_X2 2 (by decide) lkX2_deedByLot_19 rfl dX2_deedByLot_45 ?_
        refine lv_i2l (v := (w.1 23 2).toInt64) hx hb dX2_deedByLot_48 rfl ?_
        obtain ⟨g_12, h⟩ := gd_s h
        refine lv_lrem hx hb dX2_deedByLot_49 g_12 ?_
        refine lv_l2i (v := (y1 - y1 / ((w.1 23 2).toInt64) * ((w.1 23 2).toInt64)).toInt32) hx hb dX2_deedByLot_50 rfl ?_
        refine x_nmi h (fun x4_13 h => ?_)
        refine lv_istore (lv' := [(4, .int x4_13), (3, .int x3_11), (0, .ref (ad 23)), (1, .long y1)]) hx hb dX2_deedByLot_51 hl (by decide) rfl (fun ls hl => ?_)
        refine lv_aload_n hx hb dX2_deedByLot_53 rfl (lv_at hl 2 rfl) ?_
        refine lv_iload_n hx hb dX2_deedByLot_54 rfl (lv_at hl 1 rfl) ?_
        refine lv_iload hx hb dX2_deedByLot_55 (lv_at hl 0 rfl) ?_
        obtain ⟨r_15, e_14, h⟩ := bo_s h
        refine x_goi X hS (x_runV (As := [.int x3_11, .int x4_13]) (rest := []) X gC_ok hP hS (ctX2_bearsSaying_23 l D c3 ad w _ x3_11 x4_13 _ e_14) (cwV 2 hts gX2_deedByLot_X2_bearsSaying rfl rfl rfl (by decide +kernel) ⟨by decide, by decide⟩) (gC23 c3 ad w) rfl rfl rfl hl.1 rfl (Nat.le_of_ble_eq_true rfl) dX2_deedByLot_57) (fun H locs hP hS => ?_)
        refine lv_if_eq (tgt := 72) hx hb dX2_deedByLot_60 (by decide) (fun c_17 => ?_) (fun c_17 => ?_)
        · replace h := it_p c_17 h
          refine lv_iconst (v := (-1)) hx hb dX2_deedByLot_72 (by decide) ?_
          obtain rfl := Option.some.inj h
          exact hret _ _ _ _ hP hS dX2_deedByLot_73
        · replace h := it_n c_17 h
          refine lv_iload_n hx hb dX2_deedByLot_63 rfl (lv_at hl 1 rfl) ?_
          refine lv_iload hx hb dX2_deedByLot_64 (lv_at hl 0 rfl) ?_
          obtain ⟨r_19, e_18, h⟩ := bo_s h
          refine x_goi X hS (x_runS (As := [.int x3_11, .int x4_13]) (rest := []) X gC_ok hP hS (ctX2_deedOf l D c3 ad w _ x3_11 x4_13 _ e_18) (va_cwS 2 hts gX2_deedByLot_X2_deedOf rfl rfl rfl (by decide +kernel) ⟨by decide, by decide⟩) rfl hl.1 rfl (Nat.le_of_ble_eq_true rfl) dX2_deedByLot_66) (fun H locs hP hS => ?_)
          refine lv_goto (tgt := 73) hx hb dX2_deedByLot_69 (by decide) ?_
          obtain rfl := Option.some.inj h
          exact hret _ _ _ _ hP hS dX2_deedByLot_73
      · replace h := it_n c_9 h
        refine lv_iconst (v := (-1)) hx hb dX2_deedByLot_28 (by decide) ?_
        obtain rfl := Option.some.inj h
        exact hret _ _ _ _ hP hS dX2_deedByLot_29
def fX2_deedByLot_23 (y1 : Int64) (w : Mm) : Option (Int32) := fX2_deedByLot_23_E y1 w
theorem ctX2_deedByLot_23 (l : Launch) (D : va_G) (c3 : C3) (ad : Nat → Nat) (w : Mm) (sz : Nat) (y1 : Int64) (r : Int32) (h : fX2_deedByLot_23 y1 w = some r) : Ci l yX2_deedByLot wsX2_deedByLot rmX2_deedByLot_23 D c3 (encC c3 ad) gC [.ref (ad 23), .long y1] w sz r w := by
  refine Ci.of (cc := cX2_deedByLot) (maxL := 5) (encC_ok c3 ad) (by decide) rfl (Nat.le_of_ble_eq_true rfl) ?_
  intro p e s m below meth c A Q ls X hret hP hS hl
  exact bX2_deedByLot_23_E X hret y1 _ _ ls hP hS hl h
theorem iwX7_lots_X2 : ∀ w ∈ wsX20, w ∈ wsX7_lots := fun _ h => List.mem_cons_of_mem _ (List.mem_append_right _ h)
theorem iwX7_lots_X7 : ∀ w ∈ wsX70, w ∈ wsX7_lots := fun _ h => List.mem_cons_of_mem _ (List.mem_append_left _ (List.mem_append_right _ h))
theorem lkX7_lots_27 : Cond.fieldLink RX7 27 "StuckDoor" "family" "LStuckDoor$Family;" ∈ wsX7_lots := by decide +kernel
theorem lkX7_lots_168 : Cond.fieldLink RX7 168 "StuckDoor$Family" "deeds" "I" ∈ wsX7_lots := by decide +kernel
theorem lkX7_lots_178 : Cond.fieldLink RX7 178 "StuckDoor$Family" "strain" "I" ∈ wsX7_lots := by decide +kernel
def rmX7_lots : Room := { frames := 6, cells := 0, slots := 0, locals := 131 }
def fX7_lots_63 (x1 : Int32) : Nat → Int64 → Int32 → Mm → Option (Int32 × Mm)
  | 0, _, _, _ => none
  | n + 1, y3, x5, w => (if x1 ≤ x5 then some ((w.1 23 7), w) else nm ((y3 * 48271) - (y3 * 48271) / 2147483647 * 2147483647) (fun y3_2 => bo (fX2_deedByLot_23 y3_2 w) (fun r_4 => bo (fX2_record_23 r_4 w) (fun w_8 => fX7_lots_63 x1 n y3_2 (x5 + 1) w_8))))
set_option maxRecDepth 20000 in
theorem bX7_lots_63 {p : Program} {l : Launch} {e : Env} {s : State} {m : MethodId} {args : Array Value} {below : List Frame} {meth : Method} {c : Code} {Q : State → Prop} {D : va_G} {c3 : C3} {ad : Nat → Nat} {A : Nat → Prop} {r : Int32} {w' : Mm} (X : Cx p s m args c cX7_lots 6 RX7 wsX7_lots D c3 (encC c3 ad) gC A) (hret : Ri p l e (rmX7_lots) s m args below meth c Q cX7_lots D (encC c3 ad) A r w') : ∀ (x1 : Int32) (n : Nat) (y3 : Int64) (x5 : Int32) (w : Mm) (H : Heap) (locs : List Loc) (ls : Array Slot), va_P D vwCl ((encC c3 ad) w) H → va_S A s.heap H locs → lv_has ls 6 [(0, .ref (ad 0)), (1, .int x1), (3, .long y3), (5, .int x5)] → fX7_lots_63 x1 n y3 x5 w = some (r, w') → W p l e (rmX7_lots) s m args below meth c H locs 0 0 Q (F0 m 63 ls []) := by
  have hx := X.1
  have hb := X.2.1
  have hml := X.2.2.1
  have hown := X.2.2.2.1
  have hts := X.2.2.2.2.1
  intro x1 n
  induction n with
  | zero =>
    intro y3 x5 w H locs ls hP hS hl h
    exact absurd h (by simp [fX7_lots_63])
  | succ n ih =>
    intro y3 x5 w H locs ls hP hS hl h
    rw [fX7_lots_63] at h
    refine lv_iload hx hb dX7_lots_63 (lv_at hl 3 rfl) ?_
    refine lv_iload_n hx hb dX7_lots_65 rfl (lv_at hl 1 rfl) ?_
    refine lv_icmp_ge (tgt := 100) hx hb dX7_lots_66 (by decide) (fun c_1 => ?_) (fun c_1 => ?_)
    · replace h := it_p c_1 h
      refine lv_aload_n hx hb dX7_lots_100 rfl (lv_at hl 0 rfl) ?_
      refine x_get (rest := []) X hP (gC0 c3 ad w) rfl iwX7_lots_X7 3 (by decide) lkX7_lots_27 rfl dX7_lots_101 ?_
      refine x_get (rest := []) X hP (gC23 c3 ad w) rfl iwX7_lots_X2 7 (by decide) lkX7_lots_178 rfl dX7_lots_104 ?_
      obtain ⟨rfl, rfl⟩ := Prod.mk.inj (Option.some.inj h)
      exact hret _ _ _ _ hP hS dX7_lots_107
    · replace h := it_n c_1 h
      refine lv_lload_n hx hb dX7_lots_69 rfl (lv_at hl 2 rfl) ?_
      refine lv_ldc2 (v := 48271) hx hb hown (hts (.constantLong RX7 286 (48271)) (by decide +kernel)) dX7_lots_70 ?_
      refine lv_lmul hx hb dX7_lots_73 ?_
      refine lv_ldc2 (v := 2147483647) hx hb hown (hts (.constantLong RX7 284 (2147483647)) (by decide +kernel)) dX7_lots_74 ?_
      refine lv_lrem hx hb dX7_lots_77 (by decide) ?_
      refine x_nml h (fun y3_2 h => ?_)
      refine lv_lstore_n (lv' := [(3, .long y3_2), (0, .ref (ad 0)), (1, .int x1), (5, .int x5)]) hx hb dX7_lots_78 rfl hl (by decide) rfl (fun ls hl => ?_)
      refine lv_aload_n hx hb dX7_lots_79 rfl (lv_at hl 1 rfl) ?_
      refine x_get (rest := []) X hP (gC0 c3 ad w) rfl iwX7_lots_X7 3 (by decide) lkX7_lots_27 rfl dX7_lots_80 ?_
      refine lv_aload_n hx hb dX7_lots_83 rfl (lv_at hl 1 rfl) ?_
      refine x_get (rest := [.ref (ad 23)]) X hP (gC0 c3 ad w) rfl iwX7_lots_X7 3 (by decide) lkX7_lots_27 rfl dX7_lots_84 ?_
      refine lv_lload_n hx hb dX7_lots_87 rfl (lv_at hl 0 rfl) ?_
      obtain ⟨r_4, e_3, h⟩ := bo_s h
      refine x_goi X hS (x_runV (As := [.long y3_2]) (rest := [.ref (ad 23)]) X gC_ok hP hS (ctX2_deedByLot_23 l D c3 ad w _ y3_2 _ e_3) (cwV 1 hts gX7_lots_X2_deedByLot rfl rfl rfl (by decide +kernel) ⟨by decide, by decide⟩) (gC23 c3 ad w) rfl rfl rfl hl.1 rfl (Nat.le_of_ble_eq_true rfl) dX7_lots_88) (fun H locs hP hS => ?_)
      obtain ⟨w_8, e_6, h⟩ := bo_s h
      refine x_gov X hS (x_runV (As := [.int r_4]) (rest := []) X gC_ok hP hS (ctX2_record_23 l D c3 ad w _ r_4 _ e_6) (cwV 1 hts gX7_lots_X2_record rfl rfl rfl (by decide +kernel) ⟨by decide, by decide⟩) (gC23 c3 ad w) rfl rfl rfl hl.1 rfl (Nat.le_of_ble_eq_true rfl) dX7_lots_91) (fun H locs hP hS => ?_)
      refine lv_iinc (v := (x5 + 1)) (lv' := [(5, .int (x5 + 1)), (3, .long y3_2), (0, .ref (ad 0)), (1, .int x1)]) hx hb dX7_lots_94 hl (k := 3) rfl rfl (by decide) rfl (fun ls hl => ?_)
      refine lv_goto (tgt := 63) hx hb dX7_lots_97 (by decide) ?_
      exact ih y3_2 (x5 + 1) w_8 _ _ _ hP hS (lv_sub hl [2, 3, 1, 0] rfl) h
def fX7_lots_E (x1 : Int32) (x2 : Int32) (w : Mm) : Option (Int32 × Mm) := (if x1 < 1 then some ((-1), w) else (if 20 < x1 then some ((-1), w) else (if x2 < 1 then some ((-1), w) else (if (lg_cmp x2.toInt64 2147483647) < 0 then bo (fX2_isEmpty_23 w) (fun r_14 => (if r_14 = 0 then (if ((w.1 23 11) + x1) ≤ 40 then nm x2.toInt64 (fun y3_18 => fX7_lots_63 x1 FU y3_18 0 w) else some ((-2), w)) else some ((-4), w))) else some ((-1), w)))))
set_option maxRecDepth 20000 in
theorem bX7_lots_E {p : Program} {l : Launch} {e : Env} {s : State} {m : MethodId} {args : Array Value} {below : List Frame} {meth : Method} {c : Code} {Q : State → Prop} {D : va_G} {c3 : C3} {ad : Nat → Nat} {A : Nat → Prop} {r : Int32} {w' : Mm} (X : Cx p s m args c cX7_lots 6 RX7 wsX7_lots D c3 (encC c3 ad) gC A) (hret : Ri p l e (rmX7_lots) s m args below meth c Q cX7_lots D (encC c3 ad) A r w') : ∀ (x1 : Int32) (x2 : Int32) (w : Mm) (H : Heap) (locs : List Loc) (ls : Array Slot), va_P D vwCl ((encC c3 ad) w) H → va_S A s.heap H locs → lv_has ls 6 [(0, .ref (ad 0)), (1, .int x1), (2, .int x2)] → fX7_lots_E x1 x2 w = some (r, w') → W p l e (rmX7_lots) s m args below meth c H locs 0 0 Q (F0 m 0 ls []) := by
  have hx := X.1
  have hb := X.2.1
  have hml := X.2.2.1
  have hown := X.2.2.2.1
  have hts := X.2.2.2.2.1
  intro x1 x2 w H locs ls hP hS hl h
  unfold fX7_lots_E at h
  refine lv_iload_n hx hb dX7_lots_0 rfl (lv_at hl 1 rfl) ?_
  refine lv_iconst (v := 1) hx hb dX7_lots_1 (by decide) ?_
  refine lv_icmp_lt (tgt := 25) hx hb dX7_lots_2 (by decide) (fun c_9 => ?_) (fun c_9 => ?_)
  · replace h := it_p c_9 h
    refine lv_iconst (v := (-1)) hx hb dX7_lots_25 (by decide) ?_
    obtain ⟨rfl, rfl⟩ := Prod.mk.inj (Option.some.inj h)
    exact hret _ _ _ _ hP hS dX7_lots_26
  · replace h := it_n c_9 h
    refine lv_iload_n hx hb dX7_lots_5 rfl (lv_at hl 1 rfl) ?_
    refine lv_bipush (v := 20) hx hb dX7_lots_6 (by decide) ?_
    refine lv_icmp_gt (tgt := 25) hx hb dX7_lots_8 (by decide) (fun c_10 => ?_) (fun c_10 => ?_)
    · replace h := it_p c_10 h
      refine lv_iconst (v := (-1)) hx hb dX7_lots_25 (by decide) ?_
      obtain ⟨rfl, rfl⟩ := Prod.mk.inj (Option.some.inj h)
      exact hret _ _ _ _ hP hS dX7_lots_26
    · replace h := it_n c_10 h
      refine lv_iload_n hx hb dX7_lots_11 rfl (lv_at hl 2 rfl) ?_
      refine lv_iconst (v := 1) hx hb dX7_lots_12 (by decide) ?_
      refine lv_icmp_lt (tgt := 25) hx hb dX7_lots_13 (by decide) (fun c_11 => ?_) (fun c_11 => ?_)
      · replace h := it_p c_11 h
        refine lv_iconst (v := (-1)) hx hb dX7_lots_25 (by decide) ?_
        obtain ⟨rfl, rfl⟩ := Prod.mk.inj (Option.some.inj h)
        exact hret _ _ _ _ hP hS dX7_lots_26
      · replace h := it_n c_11 h
        refine lv_iload_n hx hb dX7_lots_16 rfl (lv_at hl 2 rfl) ?_
        refine lv_i2l (v := x2.toInt64) hx hb dX7_lots_17 rfl ?_
        refine lv_ldc2 (v := 2147483647) hx hb hown (hts (.constantLong RX7 284 (2147483647)) (by decide +kernel)) dX7_lots_18 ?_
        refine W.lcmp hx hb dX7_lots_21 ?_
        refine lv_if_lt (tgt := 27) hx hb dX7_lots_22 (by decide) (fun c_12 => ?_) (fun c_12 => ?_)
        · replace h := it_p c_12 h
          refine lv_aload_n hx hb dX7_lots_27 rfl (lv_at hl 0 rfl) ?_
          refine x_get (rest := []) X hP (gC0 c3 ad w) rfl iwX7_lots_X7 3 (by decide) lkX7_lots_27 rfl dX7_lots_28 ?_
          obtain ⟨r_14, e_13, h⟩ := bo_s h
          refine x_goi X hS (x_runV (As := []) (rest := []) X gC_ok hP hS (ctX2_isEmpty_23 l D c3 ad w _ _ e_13) (cwV 0 hts gX7_lots_X2_isEmpty rfl rfl rfl (by decide +kernel) ⟨by decide, by decide⟩) (gC23 c3 ad w) rfl rfl rfl hl.1 rfl (Nat.le_of_ble_eq_true rfl) dX7_lots_31) (fun H locs hP hS => ?_)
          refine lv_if_eq (tgt := 40) hx hb dX7_lots_34 (by decide) (fun c_16 => ?_) (fun c_16 => ?_)
          · replace h := it_p c_16 h
            refine lv_aload_n hx hb dX7_lots_40 rfl (lv_at hl 0 rfl) ?_
            refine x_get (rest := []) X hP (gC0 c3 ad w) rfl iwX7_lots_X7 3 (by decide) lkX7_lots_27 rfl dX7_lots_41 ?_
            refine x_get (rest := []) X hP (gC23 c3 ad w) rfl iwX7_lots_X2 11 (by decide) lkX7_lots_168 rfl dX7_lots_44 ?_
            refine lv_iload_n hx hb dX7_lots_47 rfl (lv_at hl 1 rfl) ?_
            refine lv_iadd hx hb dX7_lots_48 ?_
            refine lv_bipush (v := 40) hx hb dX7_lots_49 (by decide) ?_
            refine lv_icmp_le (tgt := 57) hx hb dX7_lots_51 (by decide) (fun c_17 => ?_) (fun c_17 => ?_)
            · replace h := it_p c_17 h
              refine lv_iload_n hx hb dX7_lots_57 rfl (lv_at hl 2 rfl) ?_
              refine lv_i2l (v := x2.toInt64) hx hb dX7_lots_58 rfl ?_
              refine x_nml h (fun y3_18 h => ?_)
              refine lv_lstore_n (lv' := [(3, .long y3_18), (0, .ref (ad 0)), (1, .int x1), (2, .int x2)]) hx hb dX7_lots_59 rfl hl (by decide) rfl (fun ls hl => ?_)
              refine lv_iconst (v := 0) hx hb dX7_lots_60 (by decide) ?_
              refine lv_istore (lv' := [(5, .int 0), (3, .long y3_18), (0, .ref (ad 0)), (1, .int x1), (2, .int x2)]) hx hb dX7_lots_61 hl (by decide) rfl (fun ls hl => ?_)
              exact bX7_lots_63 X hret x1 FU y3_18 0 w _ _ _ hP hS (lv_sub hl [2, 3, 1, 0] rfl) h
            · replace h := it_n c_17 h
              refine lv_bipush (v := (-2)) hx hb dX7_lots_54 (by decide) ?_
              obtain ⟨rfl, rfl⟩ := Prod.mk.inj (Option.some.inj h)
              exact hret _ _ _ _ hP hS dX7_lots_56
          · replace h := it_n c_16 h
            refine lv_bipush (v := (-4)) hx hb dX7_lots_37 (by decide) ?_
            obtain ⟨rfl, rfl⟩ := Prod.mk.inj (Option.some.inj h)
            exact hret _ _ _ _ hP hS dX7_lots_39
        · replace h := it_n c_12 h
          refine lv_iconst (v := (-1)) hx hb dX7_lots_25 (by decide) ?_
          obtain ⟨rfl, rfl⟩ := Prod.mk.inj (Option.some.inj h)
          exact hret _ _ _ _ hP hS dX7_lots_26
def fX7_lots (x1 : Int32) (x2 : Int32) (w : Mm) : Option (Int32 × Mm) := fX7_lots_E x1 x2 w
theorem ctX7_lots (l : Launch) (D : va_G) (c3 : C3) (ad : Nat → Nat) (w : Mm) (sz : Nat) (x1 : Int32) (x2 : Int32) (r : Int32) (w' : Mm) (h : fX7_lots x1 x2 w = some (r, w')) : Ci l yX7_lots wsX7_lots rmX7_lots D c3 (encC c3 ad) gC [.ref (ad 0), .int x1, .int x2] w sz r w' := by
  refine Ci.of (cc := cX7_lots) (maxL := 6) (encC_ok c3 ad) (by decide) rfl (Nat.le_of_ble_eq_true rfl) ?_
  intro p e s m below meth c A Q ls X hret hP hS hl
  exact bX7_lots_E X hret x1 x2 w _ _ ls hP hS hl h
theorem iwX7_asked_X7 : ∀ w ∈ wsX70, w ∈ wsX7_asked := fun _ h => List.mem_cons_of_mem _ (List.mem_append_right _ h)
theorem lkX7_asked_60 : Cond.fieldLink RX7 60 "StuckDoor" "askedLast" "I" ∈ wsX7_asked := by decide +kernel
def rmX7_asked : Room := { frames := 0, cells := 0, slots := 0, locals := 0 }
def fX7_asked_E (w : Mm) : Option (Int32) := some (w.1 0 9)
set_option maxRecDepth 20000 in
theorem bX7_asked_E {p : Program} {l : Launch} {e : Env} {s : State} {m : MethodId} {args : Array Value} {below : List Frame} {meth : Method} {c : Code} {Q : State → Prop} {D : va_G} {c3 : C3} {ad : Nat → Nat} {A : Nat → Prop} {r : Int32} {w : Mm} (X : Cx p s m args c cX7_asked 1 RX7 wsX7_asked D c3 (encC c3 ad) gC A) (hret : Ri p l e (rmX7_asked) s m args below meth c Q cX7_asked D (encC c3 ad) A r w) : ∀ (H : Heap) (locs : List Loc) (ls : Array Slot), va_P D vwCl ((encC c3 ad) w) H → va_S A s.heap H locs → lv_has ls 1 [(0, .ref (ad 0))] → fX7_asked_E w = some r → W p l e (rmX7_asked) s m args below meth c H locs 0 0 Q (F0 m 0 ls []) := by
  have hx := X.1
  have hb := X.2.1
  have hml := X.2.2.1
  have hown := X.2.2.2.1
  have hts := X.2.2.2.2.1
  intro H locs ls hP hS hl h
  unfold fX7_asked_E at h
  refine lv_aload_n hx hb dX7_asked_0 rfl (lv_at hl 0 rfl) ?_
  refine x_get (rest := []) X hP (gC0 c3 ad w) rfl iwX7_asked_X7 9 (by decide) lkX7_asked_60 rfl dX7_asked_1 ?_
  obtain rfl := Option.some.inj h
  exact hret _ _ _ _ hP hS dX7_asked_4
def fX7_asked (w : Mm) : Option (Int32) := fX7_asked_E w
theorem ctX7_asked (l : Launch) (D : va_G) (c3 : C3) (ad : Nat → Nat) (w : Mm) (sz : Nat) (r : Int32) (h : fX7_asked w = some r) : Ci l yX7_asked wsX7_asked rmX7_asked D c3 (encC c3 ad) gC [.ref (ad 0)] w sz r w := by
  refine Ci.of (cc := cX7_asked) (maxL := 1) (encC_ok c3 ad) (by decide) rfl (Nat.le_of_ble_eq_true rfl) ?_
  intro p e s m below meth c A Q ls X hret hP hS hl
  exact bX7_asked_E X hret _ _ ls hP hS hl h
theorem iwX7_upper_X7 : ∀ w ∈ wsX70, w ∈ wsX7_upper := fun _ h => List.mem_cons_of_mem _ (List.mem_append_right _ h)
theorem lkX7_upper_63 : Cond.fieldLink RX7 63 "StuckDoor" "upperLast" "J" ∈ wsX7_upper := by decide +kernel
def rmX7_upper : Room := { frames := 0, cells := 0, slots := 0, locals := 0 }
def fX7_upper_E (w : Mm) : Option (Int64) := some (w.2.1 0 10)
set_option maxRecDepth 20000 in
theorem bX7_upper_E {p : Program} {l : Launch} {e : Env} {s : State} {m : MethodId} {args : Array Value} {below : List Frame} {meth : Method} {c : Code} {Q : State → Prop} {D : va_G} {c3 : C3} {ad : Nat → Nat} {A : Nat → Prop} {r : Int64} {w : Mm} (X : Cx p s m args c cX7_upper 1 RX7 wsX7_upper D c3 (encC c3 ad) gC A) (hret : Rl p l e (rmX7_upper) s m args below meth c Q cX7_upper D (encC c3 ad) A r w) : ∀ (H : Heap) (locs : List Loc) (ls : Array Slot), va_P D vwCl ((encC c3 ad) w) H → va_S A s.heap H locs → lv_has ls 1 [(0, .ref (ad 0))] → fX7_upper_E w = some r → W p l e (rmX7_upper) s m args below meth c H locs 0 0 Q (F0 m 0 ls []) := by
  have hx := X.1
  have hb := X.2.1
  have hml := X.2.2.1
  have hown := X.2.2.2.1
  have hts := X.2.2.2.2.1
  intro H locs ls hP hS hl h
  unfold fX7_upper_E at h
  refine lv_aload_n hx hb dX7_upper_0 rfl (lv_at hl 0 rfl) ?_
  refine x_get (rest := []) X hP (gC0 c3 ad w) rfl iwX7_upper_X7 10 (by decide) lkX7_upper_63 rfl dX7_upper_1 ?_
  obtain rfl := Option.some.inj h
  exact hret _ _ _ _ hP hS dX7_upper_4
def fX7_upper (w : Mm) : Option (Int64) := fX7_upper_E w
theorem ctX7_upper (l : Launch) (D : va_G) (c3 : C3) (ad : Nat → Nat) (w : Mm) (sz : Nat) (r : Int64) (h : fX7_upper w = some r) : Cl l yX7_upper wsX7_upper rmX7_upper D c3 (encC c3 ad) gC [.ref (ad 0)] w sz r w := by
  refine Cl.of (cc := cX7_upper) (maxL := 1) (encC_ok c3 ad) (by decide) rfl (Nat.le_of_ble_eq_true rfl) ?_
  intro p e s m below meth c A Q ls X hret hP hS hl
  exact bX7_upper_E X hret _ _ ls hP hS hl h
theorem iwX7_lower_X7 : ∀ w ∈ wsX70, w ∈ wsX7_lower := fun _ h => List.mem_cons_of_mem _ (List.mem_append_right _ h)
theorem lkX7_lower_67 : Cond.fieldLink RX7 67 "StuckDoor" "lowerLast" "J" ∈ wsX7_lower := by decide +kernel
def rmX7_lower : Room := { frames := 0, cells := 0, slots := 0, locals := 0 }
def fX7_lower_E (w : Mm) : Option (Int64) := some (w.2.1 0 11)
set_option maxRecDepth 20000 in
theorem bX7_lower_E {p : Program} {l : Launch} {e : Env} {s : State} {m : MethodId} {args : Array Value} {below : List Frame} {meth : Method} {c : Code} {Q : State → Prop} {D : va_G} {c3 : C3} {ad : Nat → Nat} {A : Nat → Prop} {r : Int64} {w : Mm} (X : Cx p s m args c cX7_lower 1 RX7 wsX7_lower D c3 (encC c3 ad) gC A) (hret : Rl p l e (rmX7_lower) s m args below meth c Q cX7_lower D (encC c3 ad) A r w) : ∀ (H : Heap) (locs : List Loc) (ls : Array Slot), va_P D vwCl ((encC c3 ad) w) H → va_S A s.heap H locs → lv_has ls 1 [(0, .ref (ad 0))] → fX7_lower_E w = some r → W p l e (rmX7_lower) s m args below meth c H locs 0 0 Q (F0 m 0 ls []) := by
  have hx := X.1
  have hb := X.2.1
  have hml := X.2.2.1
  have hown := X.2.2.2.1
  have hts := X.2.2.2.2.1
  intro H locs ls hP hS hl h
  unfold fX7_lower_E at h
  refine lv_aload_n hx hb dX7_lower_0 rfl (lv_at hl 0 rfl) ?_
  refine x_get (rest := []) X hP (gC0 c3 ad w) rfl iwX7_lower_X7 11 (by decide) lkX7_lower_67 rfl dX7_lower_1 ?_
  obtain rfl := Option.some.inj h
  exact hret _ _ _ _ hP hS dX7_lower_4
def fX7_lower (w : Mm) : Option (Int64) := fX7_lower_E w
theorem ctX7_lower (l : Launch) (D : va_G) (c3 : C3) (ad : Nat → Nat) (w : Mm) (sz : Nat) (r : Int64) (h : fX7_lower w = some r) : Cl l yX7_lower wsX7_lower rmX7_lower D c3 (encC c3 ad) gC [.ref (ad 0)] w sz r w := by
  refine Cl.of (cc := cX7_lower) (maxL := 1) (encC_ok c3 ad) (by decide) rfl (Nat.le_of_ble_eq_true rfl) ?_
  intro p e s m below meth c A Q ls X hret hP hS hl
  exact bX7_lower_E X hret _ _ ls hP hS hl h
theorem iwX2_daysGone_X2 : ∀ w ∈ wsX20, w ∈ wsX2_daysGone := fun _ h => List.mem_cons_of_mem _ (List.mem_append_right _ h)
theorem lkX2_daysGone_46 : Cond.fieldLink RX2 46 "StuckDoor$Family" "deeds" "I" ∈ wsX2_daysGone := by decide +kernel
theorem lkX2_daysGone_49 : Cond.fieldLink RX2 49 "StuckDoor$Family" "deed" "[I" ∈ wsX2_daysGone := by decide +kernel
def rmX2_daysGone_23 : Room := { frames := 0, cells := 0, slots := 0, locals := 0 }
def fX2_daysGone_23_25 (k4 : Int32 → Int32 → Option (Int32)) (x1 : Int32) (x2 : Int32) (w : Mm) : Option (Int32) := k4 x1 (x2 + 1)
set_option maxRecDepth 20000 in
theorem bX2_daysGone_23_25 {p : Program} {l : Launch} {e : Env} {s : State} {m : MethodId} {args : Array Value} {below : List Frame} {meth : Method} {c : Code} {Q : State → Prop} {D : va_G} {c3 : C3} {ad : Nat → Nat} {A : Nat → Prop} {r : Int32} {w : Mm} (X : Cx p s m args c cX2_daysGone 3 RX2 wsX2_daysGone D c3 (encC c3 ad) gC A) (hret : Ri p l e (rmX2_daysGone_23) s m args below meth c Q cX2_daysGone D (encC c3 ad) A r w) {k4 : Int32 → Int32 → Option (Int32)} (hk4 : ∀ (x1 : Int32) (x2 : Int32) (H : Heap) (locs : List Loc) (ls : Array Slot), va_P D vwCl ((encC c3 ad) w) H → va_S A s.heap H locs → lv_has ls 3 [(0, .ref (ad 23)), (1, .int x1), (2, .int x2)] → k4 x1 x2 = some r → W p l e (rmX2_daysGone_23) s m args below meth c H locs 0 0 Q (F0 m 4 ls [])) : ∀ (x1 : Int32) (x2 : Int32) (H : Heap) (locs : List Loc) (ls : Array Slot), va_P D vwCl ((encC c3 ad) w) H → va_S A s.heap H locs → lv_has ls 3 [(0, .ref (ad 23)), (1, .int x1), (2, .int x2)] → fX2_daysGone_23_25 k4 x1 x2 w = some r → W p l e (rmX2_daysGone_23) s m args below meth c H locs 0 0 Q (F0 m 25 ls []) := by
  have hx := X.1
  have hb := X.2.1
  have hml := X.2.2.1
  have hown := X.2.2.2.1
  have hts := X.2.2.2.2.1
  intro x1 x2 H locs ls hP hS hl h
  unfold fX2_daysGone_23_25 at h
  refine lv_iinc (v := (x2 + 1)) (lv' := [(2, .int (x2 + 1)), (0, .ref (ad 23)), (1, .int x1)]) hx hb dX2_daysGone_25 hl (k := 2) rfl rfl (by decide) rfl (fun ls hl => ?_)
  refine lv_goto (tgt := 4) hx hb dX2_daysGone_28 (by decide) ?_
  exact hk4 x1 (x2 + 1) _ _ _ hP hS (lv_sub hl [1, 2, 0] rfl) h
def fX2_daysGone_23_4 (w : Mm) : Nat → Int32 → Int32 → Option (Int32)
  | 0, _, _ => none
  | n + 1, x1, x2 => (if (w.1 23 11) ≤ x2 then some x1 else gd (inb x2 40 = true) ((if (w.1 29 x2.toNatClampNeg) = (-1) then fX2_daysGone_23_25 (fX2_daysGone_23_4 w n) (x1 + 1) x2 w else fX2_daysGone_23_25 (fX2_daysGone_23_4 w n) x1 x2 w)))
set_option maxRecDepth 20000 in
theorem bX2_daysGone_23_4 {p : Program} {l : Launch} {e : Env} {s : State} {m : MethodId} {args : Array Value} {below : List Frame} {meth : Method} {c : Code} {Q : State → Prop} {D : va_G} {c3 : C3} {ad : Nat → Nat} {A : Nat → Prop} {r : Int32} {w : Mm} (X : Cx p s m args c cX2_daysGone 3 RX2 wsX2_daysGone D c3 (encC c3 ad) gC A) (hret : Ri p l e (rmX2_daysGone_23) s m args below meth c Q cX2_daysGone D (encC c3 ad) A r w) : ∀ (n : Nat) (x1 : Int32) (x2 : Int32) (H : Heap) (locs : List Loc) (ls : Array Slot), va_P D vwCl ((encC c3 ad) w) H → va_S A s.heap H locs → lv_has ls 3 [(0, .ref (ad 23)), (1, .int x1), (2, .int x2)] → fX2_daysGone_23_4 w n x1 x2 = some r → W p l e (rmX2_daysGone_23) s m args below meth c H locs 0 0 Q (F0 m 4 ls []) := by
  have hx := X.1
  have hb := X.2.1
  have hml := X.2.2.1
  have hown := X.2.2.2.1
  have hts := X.2.2.2.2.1
  intro n
  induction n with
  | zero =>
    intro x1 x2 H locs ls hP hS hl h
    exact absurd h (by simp [fX2_daysGone_23_4])
  | succ n ih =>
    intro x1 x2 H locs ls hP hS hl h
    rw [fX2_daysGone_23_4] at h
    refine lv_iload_n hx hb dX2_daysGone_4 rfl (lv_at hl 2 rfl) ?_
    refine lv_aload_n hx hb dX2_daysGone_5 rfl (lv_at hl 0 rfl) ?_
    refine x_get (rest := [.int x2]) X hP (gC23 c3 ad w) rfl iwX2_daysGone_X2 11 (by decide) lkX2_daysGone_46 rfl dX2_daysGone_6 ?_
    refine lv_icmp_ge (tgt := 31) hx hb dX2_daysGone_9 (by decide) (fun c_1 => ?_) (fun c_1 => ?_)
    · replace h := it_p c_1 h
      refine lv_iload_n hx hb dX2_daysGone_31 rfl (lv_at hl 1 rfl) ?_
      obtain rfl := Option.some.inj h
      exact hret _ _ _ _ hP hS dX2_daysGone_32
    · replace h := it_n c_1 h
      refine lv_aload_n hx hb dX2_daysGone_12 rfl (lv_at hl 0 rfl) ?_
      refine x_get (rest := []) X hP (gC23 c3 ad w) rfl iwX2_daysGone_X2 12 (by decide) lkX2_daysGone_49 rfl dX2_daysGone_13 ?_
      refine lv_iload_n hx hb dX2_daysGone_16 rfl (lv_at hl 2 rfl) ?_
      obtain ⟨g_2, h⟩ := gd_s h
      refine x_iald X hP (gC29 c3 ad w) g_2 dX2_daysGone_17 ?_
      refine lv_iconst (v := (-1)) hx hb dX2_daysGone_18 (by decide) ?_
      refine lv_icmp_ne (tgt := 25) hx hb dX2_daysGone_19 (by decide) (fun c_3 => ?_) (fun c_3 => ?_)
      · replace h := it_n c_3 h
        exact bX2_daysGone_23_25 (k4 := (fX2_daysGone_23_4 w n)) X hret ih x1 x2 _ _ _ hP hS (lv_sub hl [0, 1, 2] rfl) h
      · replace h := it_p c_3 h
        refine lv_iinc (v := (x1 + 1)) (lv' := [(1, .int (x1 + 1)), (0, .ref (ad 23)), (2, .int x2)]) hx hb dX2_daysGone_22 hl (k := 1) rfl rfl (by decide) rfl (fun ls hl => ?_)
        exact bX2_daysGone_23_25 (k4 := (fX2_daysGone_23_4 w n)) X hret ih (x1 + 1) x2 _ _ _ hP hS (lv_sub hl [1, 0, 2] rfl) h
def fX2_daysGone_23_E (w : Mm) : Option (Int32) := fX2_daysGone_23_4 w FU 0 0
set_option maxRecDepth 20000 in
theorem bX2_daysGone_23_E {p : Program} {l : Launch} {e : Env} {s : State} {m : MethodId} {args : Array Value} {below : List Frame} {meth : Method} {c : Code} {Q : State → Prop} {D : va_G} {c3 : C3} {ad : Nat → Nat} {A : Nat → Prop} {r : Int32} {w : Mm} (X : Cx p s m args c cX2_daysGone 3 RX2 wsX2_daysGone D c3 (encC c3 ad) gC A) (hret : Ri p l e (rmX2_daysGone_23) s m args below meth c Q cX2_daysGone D (encC c3 ad) A r w) : ∀ (H : Heap) (locs : List Loc) (ls : Array Slot), va_P D vwCl ((encC c3 ad) w) H → va_S A s.heap H locs → lv_has ls 3 [(0, .ref (ad 23))] → fX2_daysGone_23_E w = some r → W p l e (rmX2_daysGone_23) s m args below meth c H locs 0 0 Q (F0 m 0 ls []) := by
  have hx := X.1
  have hb := X.2.1
  have hml := X.2.2.1
  have hown := X.2.2.2.1
  have hts := X.2.2.2.2.1
  intro H locs ls hP hS hl h
  unfold fX2_daysGone_23_E at h
  refine lv_iconst (v := 0) hx hb dX2_daysGone_0 (by decide) ?_
  refine lv_istore_n (lv' := [(1, .int 0), (0, .ref (ad 23))]) hx hb dX2_daysGone_1 rfl hl (by decide) rfl (fun ls hl => ?_)
  refine lv_iconst (v := 0) hx hb dX2_daysGone_2 (by decide) ?_
  refine lv_istore_n (lv' := [(2, .int 0), (1, .int 0), (0, .ref (ad 23))]) hx hb dX2_daysGone_3 rfl hl (by decide) rfl (fun ls hl => ?_)
  exact bX2_daysGone_23_4 X hret FU 0 0 _ _ _ hP hS (lv_sub hl [2, 1, 0] rfl) h
def fX2_daysGone_23 (w : Mm) : Option (Int32) := fX2_daysGone_23_E w
theorem ctX2_daysGone_23 (l : Launch) (D : va_G) (c3 : C3) (ad : Nat → Nat) (w : Mm) (sz : Nat) (r : Int32) (h : fX2_daysGone_23 w = some r) : Ci l yX2_daysGone wsX2_daysGone rmX2_daysGone_23 D c3 (encC c3 ad) gC [.ref (ad 23)] w sz r w := by
  refine Ci.of (cc := cX2_daysGone) (maxL := 3) (encC_ok c3 ad) (by decide) rfl (Nat.le_of_ble_eq_true rfl) ?_
  intro p e s m below meth c A Q ls X hret hP hS hl
  exact bX2_daysGone_23_E X hret _ _ ls hP hS hl h
theorem iwX2_howManyOfKind_X2 : ∀ w ∈ wsX20, w ∈ wsX2_howManyOfKind := fun _ h => List.mem_cons_of_mem _ (List.mem_append_right _ h)
theorem lkX2_howManyOfKind_19 : Cond.fieldLink RX2 19 "StuckDoor$Family" "sayings" "I" ∈ wsX2_howManyOfKind := by decide +kernel
def rmX2_howManyOfKind_23 : Room := { frames := 1, cells := 0, slots := 0, locals := 22 }
def fX2_howManyOfKind_23_24 (k4 : Int32 → Int32 → Option (Int32)) (x1 : Int32) (x2 : Int32) (x3 : Int32) (w : Mm) : Option (Int32) := k4 x2 (x3 + 1)
set_option maxRecDepth 20000 in
theorem bX2_howManyOfKind_23_24 {p : Program} {l : Launch} {e : Env} {s : State} {m : MethodId} {args : Array Value} {below : List Frame} {meth : Method} {c : Code} {Q : State → Prop} {D : va_G} {c3 : C3} {ad : Nat → Nat} {A : Nat → Prop} {r : Int32} {w : Mm} (X : Cx p s m args c cX2_howManyOfKind 4 RX2 wsX2_howManyOfKind D c3 (encC c3 ad) gC A) (hret : Ri p l e (rmX2_howManyOfKind_23) s m args below meth c Q cX2_howManyOfKind D (encC c3 ad) A r w) {x1 : Int32} {k4 : Int32 → Int32 → Option (Int32)} (hk4 : ∀ (x2 : Int32) (x3 : Int32) (H : Heap) (locs : List Loc) (ls : Array Slot), va_P D vwCl ((encC c3 ad) w) H → va_S A s.heap H locs → lv_has ls 4 [(0, .ref (ad 23)), (1, .int x1), (2, .int x2), (3, .int x3)] → k4 x2 x3 = some r → W p l e (rmX2_howManyOfKind_23) s m args below meth c H locs 0 0 Q (F0 m 4 ls [])) : ∀ (x2 : Int32) (x3 : Int32) (H : Heap) (locs : List Loc) (ls : Array Slot), va_P D vwCl ((encC c3 ad) w) H → va_S A s.heap H locs → lv_has ls 4 [(0, .ref (ad 23)), (1, .int x1), (2, .int x2), (3, .int x3)] → fX2_howManyOfKind_23_24 k4 x1 x2 x3 w = some r → W p l e (rmX2_howManyOfKind_23) s m args below meth c H locs 0 0 Q (F0 m 24 ls []) := by
  have hx := X.1
  have hb := X.2.1
  have hml := X.2.2.1
  have hown := X.2.2.2.1
  have hts := X.2.2.2.2.1
  intro x2 x3 H locs ls hP hS hl h
  unfold fX2_howManyOfKind_23_24 at h
  refine lv_iinc (v := (x3 + 1)) (lv' := [(3, .int (x3 + 1)), (0, .ref (ad 23)), (1, .int x1), (2, .int x2)]) hx hb dX2_howManyOfKind_24 hl (k := 3) rfl rfl (by decide) rfl (fun ls hl => ?_)
  refine lv_goto (tgt := 4) hx hb dX2_howManyOfKind_27 (by decide) ?_
  exact hk4 x2 (x3 + 1) _ _ _ hP hS (lv_sub hl [1, 2, 3, 0] rfl) h
def fX2_howManyOfKind_23_4 (x1 : Int32) (w : Mm) : Nat → Int32 → Int32 → Option (Int32)
  | 0, _, _ => none
  | n + 1, x2, x3 => (if (w.1 23 2) ≤ x3 then some x2 else bo (fX2_isOfKind_23 x3 x1 w) (fun r_3 => (if r_3 = 0 then fX2_howManyOfKind_23_24 (fX2_howManyOfKind_23_4 x1 w n) x1 x2 x3 w else fX2_howManyOfKind_23_24 (fX2_howManyOfKind_23_4 x1 w n) x1 (x2 + 1) x3 w)))
set_option maxRecDepth 20000 in
theorem bX2_howManyOfKind_23_4 {p : Program} {l : Launch} {e : Env} {s : State} {m : MethodId} {args : Array Value} {below : List Frame} {meth : Method} {c : Code} {Q : State → Prop} {D : va_G} {c3 : C3} {ad : Nat → Nat} {A : Nat → Prop} {r : Int32} {w : Mm} (X : Cx p s m args c cX2_howManyOfKind 4 RX2 wsX2_howManyOfKind D c3 (encC c3 ad) gC A) (hret : Ri p l e (rmX2_howManyOfKind_23) s m args below meth c Q cX2_howManyOfKind D (encC c3 ad) A r w) : ∀ (x1 : Int32) (n : Nat) (x2 : Int32) (x3 : Int32) (H : Heap) (locs : List Loc) (ls : Array Slot), va_P D vwCl ((encC c3 ad) w) H → va_S A s.heap H locs → lv_has ls 4 [(0, .ref (ad 23)), (1, .int x1), (2, .int x2), (3, .int x3)] → fX2_howManyOfKind_23_4 x1 w n x2 x3 = some r → W p l e (rmX2_howManyOfKind_23) s m args below meth c H locs 0 0 Q (F0 m 4 ls []) := by
  have hx := X.1
  have hb := X.2.1
  have hml := X.2.2.1
  have hown := X.2.2.2.1
  have hts := X.2.2.2.2.1
  intro x1 n
  induction n with
  | zero =>
    intro x2 x3 H locs ls hP hS hl h
    exact absurd h (by simp [fX2_howManyOfKind_23_4])
  | succ n ih =>
    intro x2 x3 H locs ls hP hS hl h
    rw [fX2_howManyOfKind_23_4] at h
    refine lv_iload_n hx hb dX2_howManyOfKind_4 rfl (lv_at hl 3 rfl) ?_
    refine lv_aload_n hx hb dX2_howManyOfKind_5 rfl (lv_at hl 0 rfl) ?_
    refine x_get (rest := [.int x3]) X hP (gC23 c3 ad w) rfl iwX2_howManyOfKind_X2 2 (by decide) lkX2_howManyOfKind_19 rfl dX2_howManyOfKind_6 ?_
    refine lv_icmp_ge (tgt := 30) hx hb dX2_howManyOfKind_9 (by decide) (fun c_1 => ?_) (fun c_1 => ?_)
    · replace h := it_p c_1 h
      refine lv_iload_n hx hb dX2_howManyOfKind_30 rfl (lv_at hl 2 rfl) ?_
      obtain rfl := Option.some.inj h
      exact hret _ _ _ _ hP hS dX2_howManyOfKind_31
    · replace h := it_n c_1 h
      refine lv_aload_n hx hb dX2_howManyOfKind_12 rfl (lv_at hl 0 rfl) ?_
      refine lv_iload_n hx hb dX2_howManyOfKind_13 rfl (lv_at hl 3 rfl) ?_
      refine lv_iload_n hx hb dX2_howManyOfKind_14 rfl (lv_at hl 1 rfl) ?_
      obtain ⟨r_3, e_2, h⟩ := bo_s h
      refine x_goi X hS (x_runV (As := [.int x3, .int x1]) (rest := []) X gC_ok hP hS (ctX2_isOfKind_23 l D c3 ad w _ x3 x1 _ e_2) (cwV 2 hts gX2_howManyOfKind_X2_isOfKind rfl rfl rfl (by decide +kernel) ⟨by decide, by decide⟩) (gC23 c3 ad w) rfl rfl rfl hl.1 rfl (Nat.le_of_ble_eq_true rfl) dX2_howManyOfKind_15) (fun H locs hP hS => ?_)
      refine lv_if_eq (tgt := 24) hx hb dX2_howManyOfKind_18 (by decide) (fun c_5 => ?_) (fun c_5 => ?_)
      · replace h := it_p c_5 h
        exact bX2_howManyOfKind_23_24 (x1 := x1) (k4 := (fX2_howManyOfKind_23_4 x1 w n)) X hret ih x2 x3 _ _ _ hP hS (lv_sub hl [0, 1, 2, 3] rfl) h
      · replace h := it_n c_5 h
        refine lv_iinc (v := (x2 + 1)) (lv' := [(2, .int (x2 + 1)), (0, .ref (ad 23)), (1, .int x1), (3, .int x3)]) hx hb dX2_howManyOfKind_21 hl (k := 2) rfl rfl (by decide) rfl (fun ls hl => ?_)
        exact bX2_howManyOfKind_23_24 (x1 := x1) (k4 := (fX2_howManyOfKind_23_4 x1 w n)) X hret ih (x2 + 1) x3 _ _ _ hP hS (lv_sub hl [1, 2, 0, 3] rfl) h
def fX2_howManyOfKind_23_E (x1 : Int32) (w : Mm) : Option (Int32) := fX2_howManyOfKind_23_4 x1 w FU 0 0
set_option maxRecDepth 20000 in
theorem bX2_howManyOfKind_23_E {p : Program} {l : Launch} {e : Env} {s : State} {m : MethodId} {args : Array Value} {below : List Frame} {meth : Method} {c : Code} {Q : State → Prop} {D : va_G} {c3 : C3} {ad : Nat → Nat} {A : Nat → Prop} {r : Int32} {w : Mm} (X : Cx p s m args c cX2_howManyOfKind 4 RX2 wsX2_howManyOfKind D c3 (encC c3 ad) gC A) (hret : Ri p l e (rmX2_howManyOfKind_23) s m args below meth c Q cX2_howManyOfKind D (encC c3 ad) A r w) : ∀ (x1 : Int32) (H : Heap) (locs : List Loc) (ls : Array Slot), va_P D vwCl ((encC c3 ad) w) H → va_S A s.heap H locs → lv_has ls 4 [(0, .ref (ad 23)), (1, .int x1)] → fX2_howManyOfKind_23_E x1 w = some r → W p l e (rmX2_howManyOfKind_23) s m args below meth c H locs 0 0 Q (F0 m 0 ls []) := by
  have hx := X.1
  have hb := X.2.1
  have hml := X.2.2.1
  have hown := X.2.2.2.1
  have hts := X.2.2.2.2.1
  intro x1 H locs ls hP hS hl h
  unfold fX2_howManyOfKind_23_E at h
  refine lv_iconst (v := 0) hx hb dX2_howManyOfKind_0 (by decide) ?_
  refine lv_istore_n (lv' := [(2, .int 0), (0, .ref (ad 23)), (1, .int x1)]) hx hb dX2_howManyOfKind_1 rfl hl (by decide) rfl (fun ls hl => ?_)
  refine lv_iconst (v := 0) hx hb dX2_howManyOfKind_2 (by decide) ?_
  refine lv_istore_n (lv' := [(3, .int 0), (2, .int 0), (0, .ref (ad 23)), (1, .int x1)]) hx hb dX2_howManyOfKind_3 rfl hl (by decide) rfl (fun ls hl => ?_)
  exact bX2_howManyOfKind_23_4 X hret x1 FU 0 0 _ _ _ hP hS (lv_sub hl [2, 3, 1, 0] rfl) h
def fX2_howManyOfKind_23 (x1 : Int32) (w : Mm) : Option (Int32) := fX2_howManyOfKind_23_E x1 w
theorem ctX2_howManyOfKind_23 (l : Launch) (D : va_G) (c3 : C3) (ad : Nat → Nat) (w : Mm) (sz : Nat) (x1 : Int32) (r : Int32) (h : fX2_howManyOfKind_23 x1 w = some r) : Ci l yX2_howManyOfKind wsX2_howManyOfKind rmX2_howManyOfKind_23 D c3 (encC c3 ad) gC [.ref (ad 23), .int x1] w sz r w := by
  refine Ci.of (cc := cX2_howManyOfKind) (maxL := 4) (encC_ok c3 ad) (by decide) rfl (Nat.le_of_ble_eq_true rfl) ?_
  intro p e s m below meth c A Q ls X hret hP hS hl
  exact bX2_howManyOfKind_23_E X hret x1 _ _ ls hP hS hl h

theorem iwX8_settle_X8 : ∀ w ∈ wsX80, w ∈ wsX8_settle := fun _ h => List.mem_cons_of_mem _ (List.mem_append_right _ h)
theorem lkX8_settle_28 : Cond.fieldLink RX8 28 "StuckDoorModel" "items" "[I" ∈ wsX8_settle := by decide +kernel
theorem lkX8_settle_167 : Cond.fieldLink RX8 167 "StuckDoorModel" "sayings" "I" ∈ wsX8_settle := by decide +kernel
def rmX8_settle : Room := { frames := 6, cells := 0, slots := 0, locals := 135 }
def fX8_settle_128 (k75 : Int32 → Mm → Option (Int32 × Mm)) (x2 : Int32) (x3 : Int32) (x4 : Int32) (x5 : Int32) (z0 : Int32) (z1 : Int32) (w : Mm) : Option (Int32 × Mm) := gd (inb z1 240 = true) (nm (sA w 7 z1.toNatClampNeg z0) (fun w_2 => k75 (x5 + 1) w_2))
set_option maxRecDepth 20000 in
theorem bX8_settle_128 {p : Program} {l : Launch} {e : Env} {s : State} {m : MethodId} {args : Array Value} {below : List Frame} {meth : Method} {c : Code} {Q : State → Prop} {D : va_G} {c3 : C3} {ad : Nat → Nat} {A : Nat → Prop} {r : Int32} {w' : Mm} (X : Cx p s m args c cX8_settle 7 RX8 wsX8_settle D c3 (encM c3 ad) gM A) (hret : Ri p l e (rmX8_settle) s m args below meth c Q cX8_settle D (encM c3 ad) A r w') {x2 : Int32} {x3 : Int32} {x4 : Int32} {k75 : Int32 → Mm → Option (Int32 × Mm)} (hk75 : ∀ (x5 : Int32) (w : Mm) (H : Heap) (locs : List Loc) (ls : Array Slot), va_P D vwCl ((encM c3 ad) w) H → va_S A s.heap H locs → lv_has ls 7 [(0, .ref (ad 0)), (2, .int x2), (3, .int x3), (4, .int x4), (5, .int x5)] → k75 x5 w = some (r, w') → W p l e (rmX8_settle) s m args below meth c H locs 0 0 Q (F0 m 75 ls [])) : ∀ (x5 : Int32) (z0 : Int32) (z1 : Int32) (w : Mm) (H : Heap) (locs : List Loc) (ls : Array Slot), va_P D vwCl ((encM c3 ad) w) H → va_S A s.heap H locs → lv_has ls 7 [(0, .ref (ad 0)), (2, .int x2), (3, .int x3), (4, .int x4), (5, .int x5)] → fX8_settle_128 k75 x2 x3 x4 x5 z0 z1 w = some (r, w') → W p l e (rmX8_settle) s m args below meth c H locs 0 0 Q (F0 m 128 ls [.int z0, .int z1, .ref (ad 7)]) := by
  have hx := X.1
  have hb := X.2.1
  have hml := X.2.2.1
  have hown := X.2.2.2.1
  have hts := X.2.2.2.2.1
  intro x5 z0 z1 w H locs ls hP hS hl h
  unfold fX8_settle_128 at h
  obtain ⟨g_1, h⟩ := gd_s h
  refine x_iast X hP hS (gM7 c3 ad w) (sM7 c3 ad w _ _) g_1 dX8_settle_128 (fun H locs hP hS => ?_)
  refine x_nmw h hP (fun w_2 h hP => ?_)
  refine lv_iinc (v := (x5 + 1)) (lv' := [(5, .int (x5 + 1)), (0, .ref (ad 0)), (2, .int x2), (3, .int x3), (4, .int x4)]) hx hb dX8_settle_129 hl (k := 4) rfl rfl (by decide) rfl (fun ls hl => ?_)
  refine lv_goto (tgt := 75) hx hb dX8_settle_132 (by decide) ?_
  exact hk75 (x5 + 1) w_2 _ _ _ hP hS (lv_sub hl [1, 2, 3, 4, 0] rfl) h
def fX8_settle_75 (x2 : Int32) (x3 : Int32) (x4 : Int32) : Nat → Int32 → Mm → Option (Int32 × Mm)
  | 0, _, _ => none
  | n + 1, x5, w => (if x3 ≤ x5 then some (x3, w) else bo (fX8_power ((x3 - 1) - x5) w) (fun r_5 => gd (¬ r_5 = 0) (gd (¬ ((w.1 0 3) + 1) = 0) (nm ((x4 / r_5) - (x4 / r_5) / ((w.1 0 3) + 1) * ((w.1 0 3) + 1)) (fun x6_9 => (if x6_9 = 0 then fX8_settle_128 (fX8_settle_75 x2 x3 x4 n) x2 x3 x4 x5 (-9) ((40 * x2) + x5) w else fX8_settle_128 (fX8_settle_75 x2 x3 x4 n) x2 x3 x4 x5 (x6_9 - 1) ((40 * x2) + x5) w))))))
set_option maxRecDepth 20000 in
theorem bX8_settle_75 {p : Program} {l : Launch} {e : Env} {s : State} {m : MethodId} {args : Array Value} {below : List Frame} {meth : Method} {c : Code} {Q : State → Prop} {D : va_G} {c3 : C3} {ad : Nat → Nat} {A : Nat → Prop} {r : Int32} {w' : Mm} (X : Cx p s m args c cX8_settle 7 RX8 wsX8_settle D c3 (encM c3 ad) gM A) (hret : Ri p l e (rmX8_settle) s m args below meth c Q cX8_settle D (encM c3 ad) A r w') : ∀ (x2 : Int32) (x3 : Int32) (x4 : Int32) (n : Nat) (x5 : Int32) (w : Mm) (H : Heap) (locs : List Loc) (ls : Array Slot), va_P D vwCl ((encM c3 ad) w) H → va_S A s.heap H locs → lv_has ls 7 [(0, .ref (ad 0)), (2, .int x2), (3, .int x3), (4, .int x4), (5, .int x5)] → fX8_settle_75 x2 x3 x4 n x5 w = some (r, w') → W p l e (rmX8_settle) s m args below meth c H locs 0 0 Q (F0 m 75 ls []) := by
  have hx := X.1
  have hb := X.2.1
  have hml := X.2.2.1
  have hown := X.2.2.2.1
  have hts := X.2.2.2.2.1
  intro x2 x3 x4 n
  induction n with
  | zero =>
    intro x5 w H locs ls hP hS hl h
    exact absurd h (by simp [fX8_settle_75])
  | succ n ih =>
    intro x5 w H locs ls hP hS hl h
    rw [fX8_settle_75] at h
    refine lv_iload hx hb dX8_settle_75 (lv_at hl 4 rfl) ?_
    refine lv_iload_n hx hb dX8_settle_77 rfl (lv_at hl 2 rfl) ?_
    refine lv_icmp_ge (tgt := 135) hx hb dX8_settle_78 (by decide) (fun c_3 => ?_) (fun c_3 => ?_)
    · replace h := it_p c_3 h
      refine lv_iload_n hx hb dX8_settle_135 rfl (lv_at hl 2 rfl) ?_
      obtain ⟨rfl, rfl⟩ := Prod.mk.inj (Option.some.inj h)
      exact hret _ _ _ _ hP hS dX8_settle_136
    · replace h := it_n c_3 h
      refine lv_iload hx hb dX8_settle_81 (lv_at hl 3 rfl) ?_
      refine lv_aload_n hx hb dX8_settle_83 rfl (lv_at hl 0 rfl) ?_
      refine lv_iload_n hx hb dX8_settle_84 rfl (lv_at hl 2 rfl) ?_
      refine lv_iconst (v := 1) hx hb dX8_settle_85 (by decide) ?_
      refine lv_isub hx hb dX8_settle_86 ?_
      refine lv_iload hx hb dX8_settle_87 (lv_at hl 4 rfl) ?_
      refine lv_isub hx hb dX8_settle_89 ?_
      obtain ⟨r_5, e_4, h⟩ := bo_s h
      refine x_goi X hS (x_runV (As := [.int ((x3 - 1) - x5)]) (rest := [.int x4]) X gM_ok hP hS (ctX8_power l D c3 ad w _ ((x3 - 1) - x5) _ e_4) (cwV 1 hts gX8_settle_X8_power rfl rfl rfl (by decide +kernel) ⟨by decide, by decide⟩) (gM0 c3 ad w) rfl rfl rfl hl.1 rfl (Nat.le_of_ble_eq_true rfl) dX8_settle_90) (fun H locs hP hS => ?_)
      obtain ⟨g_7, h⟩ := gd_s h
      refine lv_idiv hx hb dX8_settle_93 g_7 ?_
      refine lv_aload_n hx hb dX8_settle_94 rfl (lv_at hl 0 rfl) ?_
      refine x_get (rest := [.int (x4 / r_5)]) X hP (gM0 c3 ad w) rfl iwX8_settle_X8 3 (by decide) lkX8_settle_167 rfl dX8_settle_95 ?_
      refine lv_iconst (v := 1) hx hb dX8_settle_98 (by decide) ?_
      refine lv_iadd hx hb dX8_settle_99 ?_
      obtain ⟨g_8, h⟩ := gd_s h
      refine lv_irem hx hb dX8_settle_100 g_8 ?_
      refine x_nmi h (fun x6_9 h => ?_)
      refine lv_istore (lv' := [(6, .int x6_9), (0, .ref (ad 0)), (2, .int x2), (3, .int x3), (4, .int x4), (5, .int x5)]) hx hb dX8_settle_101 hl (by decide) rfl (fun ls hl => ?_)
      refine lv_aload_n hx hb dX8_settle_103 rfl (lv_at hl 1 rfl) ?_
      refine x_get (rest := []) X hP (gM0 c3 ad w) rfl iwX8_settle_X8 9 (by decide) lkX8_settle_28 rfl dX8_settle_104 ?_
      refine lv_bipush (v := 40) hx hb dX8_settle_107 (by decide) ?_
      refine lv_iload_n hx hb dX8_settle_109 rfl (lv_at hl 2 rfl) ?_
      refine lv_imul hx hb dX8_settle_110 ?_
      refine lv_iload hx hb dX8_settle_111 (lv_at hl 5 rfl) ?_
      refine lv_iadd hx hb dX8_settle_113 ?_
      refine lv_iload hx hb dX8_settle_114 (lv_at hl 0 rfl) ?_
      refine lv_if_ne (tgt := 124) hx hb dX8_settle_116 (by decide) (fun c_10 => ?_) (fun c_10 => ?_)
      · replace h := it_n c_10 h
        refine lv_iload hx hb dX8_settle_124 (lv_at hl 0 rfl) ?_
        refine lv_iconst (v := 1) hx hb dX8_settle_126 (by decide) ?_
        refine lv_isub hx hb dX8_settle_127 ?_
        exact bX8_settle_128 (x2 := x2) (x3 := x3) (x4 := x4) (k75 := (fX8_settle_75 x2 x3 x4 n)) X hret ih x5 (x6_9 - 1) ((40 * x2) + x5) w _ _ _ hP hS (lv_sub hl [1, 2, 3, 4, 5] rfl) h
      · replace h := it_p c_10 h
        refine lv_bipush (v := (-9)) hx hb dX8_settle_119 (by decide) ?_
        refine lv_goto (tgt := 128) hx hb dX8_settle_121 (by decide) ?_
        exact bX8_settle_128 (x2 := x2) (x3 := x3) (x4 := x4) (k75 := (fX8_settle_75 x2 x3 x4 n)) X hret ih x5 (-9) ((40 * x2) + x5) w _ _ _ hP hS (lv_sub hl [1, 2, 3, 4, 5] rfl) h
def fX8_settle_45 (k36 : Int32 → Mm → Option (Int32 × Mm)) (x1 : Int32) (x2 : Int32) (x3 : Int32) : Nat → Int32 → Mm → Option (Int32 × Mm)
  | 0, _, _ => none
  | n + 1, x4, w => bo (fX8_power x3 w) (fun r_12 => (if r_12 ≤ x4 then k36 (x3 + 1) w else bd (fX8_settles x1 x3 x4 w) (fun r_16 w_17 => (if r_16 = 0 then fX8_settle_45 k36 x1 x2 x3 n (x4 + 1) w_17 else bo (fX8_makeRow x2 x3 w_17) (fun w_21 => fX8_settle_75 x2 x3 x4 FU 0 w_21)))))
set_option maxRecDepth 20000 in
theorem bX8_settle_45 {p : Program} {l : Launch} {e : Env} {s : State} {m : MethodId} {args : Array Value} {below : List Frame} {meth : Method} {c : Code} {Q : State → Prop} {D : va_G} {c3 : C3} {ad : Nat → Nat} {A : Nat → Prop} {r : Int32} {w' : Mm} (X : Cx p s m args c cX8_settle 7 RX8 wsX8_settle D c3 (encM c3 ad) gM A) (hret : Ri p l e (rmX8_settle) s m args below meth c Q cX8_settle D (encM c3 ad) A r w') {x1 : Int32} {x2 : Int32} {k36 : Int32 → Mm → Option (Int32 × Mm)} (hk36 : ∀ (x3 : Int32) (w : Mm) (H : Heap) (locs : List Loc) (ls : Array Slot), va_P D vwCl ((encM c3 ad) w) H → va_S A s.heap H locs → lv_has ls 7 [(0, .ref (ad 0)), (1, .int x1), (2, .int x2), (3, .int x3)] → k36 x3 w = some (r, w') → W p l e (rmX8_settle) s m args below meth c H locs 0 0 Q (F0 m 36 ls [])) : ∀ (x3 : Int32) (n : Nat) (x4 : Int32) (w : Mm) (H : Heap) (locs : List Loc) (ls : Array Slot), va_P D vwCl ((encM c3 ad) w) H → va_S A s.heap H locs → lv_has ls 7 [(0, .ref (ad 0)), (1, .int x1), (2, .int x2), (3, .int x3), (4, .int x4)] → fX8_settle_45 k36 x1 x2 x3 n x4 w = some (r, w') → W p l e (rmX8_settle) s m args below meth c H locs 0 0 Q (F0 m 45 ls []) := by
  have hx := X.1
  have hb := X.2.1
  have hml := X.2.2.1
  have hown := X.2.2.2.1
  have hts := X.2.2.2.2.1
  intro x3 n
  induction n with
  | zero =>
    intro x4 w H locs ls hP hS hl h
    exact absurd h (by simp [fX8_settle_45])
  | succ n ih =>
    intro x4 w H locs ls hP hS hl h
    rw [fX8_settle_45] at h
    refine lv_iload hx hb dX8_settle_45 (lv_at hl 4 rfl) ?_
    refine lv_aload_n hx hb dX8_settle_47 rfl (lv_at hl 0 rfl) ?_
    refine lv_iload_n hx hb dX8_settle_48 rfl (lv_at hl 3 rfl) ?_
    obtain ⟨r_12, e_11, h⟩ := bo_s h
    refine x_goi X hS (x_runV (As := [.int x3]) (rest := [.int x4]) X gM_ok hP hS (ctX8_power l D c3 ad w _ x3 _ e_11) (cwV 1 hts gX8_settle_X8_power rfl rfl rfl (by decide +kernel) ⟨by decide, by decide⟩) (gM0 c3 ad w) rfl rfl rfl hl.1 rfl (Nat.le_of_ble_eq_true rfl) dX8_settle_49) (fun H locs hP hS => ?_)
    refine lv_icmp_ge (tgt := 143) hx hb dX8_settle_52 (by decide) (fun c_14 => ?_) (fun c_14 => ?_)
    · replace h := it_p c_14 h
      refine lv_iinc (v := (x3 + 1)) (lv' := [(3, .int (x3 + 1)), (0, .ref (ad 0)), (1, .int x1), (2, .int x2), (4, .int x4)]) hx hb dX8_settle_143 hl (k := 3) rfl rfl (by decide) rfl (fun ls hl => ?_)
      refine lv_goto (tgt := 36) hx hb dX8_settle_146 (by decide) ?_
      exact hk36 (x3 + 1) w _ _ _ hP hS (lv_sub hl [1, 2, 3, 0] rfl) h
    · replace h := it_n c_14 h
      refine lv_aload_n hx hb dX8_settle_55 rfl (lv_at hl 0 rfl) ?_
      refine lv_iload_n hx hb dX8_settle_56 rfl (lv_at hl 1 rfl) ?_
      refine lv_iload_n hx hb dX8_settle_57 rfl (lv_at hl 3 rfl) ?_
      refine lv_iload hx hb dX8_settle_58 (lv_at hl 4 rfl) ?_
      obtain ⟨r_16, w_17, e_15, h⟩ := bd_s h
      refine x_goi X hS (x_runV (As := [.int x1, .int x3, .int x4]) (rest := []) X gM_ok hP hS (ctX8_settles l D c3 ad w _ x1 x3 x4 _ _ e_15) (cwV 3 hts gX8_settle_X8_settles rfl rfl rfl (by decide +kernel) ⟨by decide, by decide⟩) (gM0 c3 ad w) rfl rfl rfl hl.1 rfl (Nat.le_of_ble_eq_true rfl) dX8_settle_60) (fun H locs hP hS => ?_)
      refine lv_if_eq (tgt := 137) hx hb dX8_settle_63 (by decide) (fun c_18 => ?_) (fun c_18 => ?_)
      · replace h := it_p c_18 h
        refine lv_iinc (v := (x4 + 1)) (lv' := [(4, .int (x4 + 1)), (0, .ref (ad 0)), (1, .int x1), (2, .int x2), (3, .int x3)]) hx hb dX8_settle_137 hl (k := 4) rfl rfl (by decide) rfl (fun ls hl => ?_)
        refine lv_goto (tgt := 45) hx hb dX8_settle_140 (by decide) ?_
        exact ih (x4 + 1) w_17 _ _ _ hP hS (lv_sub hl [1, 2, 3, 4, 0] rfl) h
      · replace h := it_n c_18 h
        refine lv_aload_n hx hb dX8_settle_66 rfl (lv_at hl 0 rfl) ?_
        refine lv_iload_n hx hb dX8_settle_67 rfl (lv_at hl 2 rfl) ?_
        refine lv_iload_n hx hb dX8_settle_68 rfl (lv_at hl 3 rfl) ?_
        obtain ⟨w_21, e_19, h⟩ := bo_s h
        refine x_gov X hS (x_runV (As := [.int x2, .int x3]) (rest := []) X gM_ok hP hS (ctX8_makeRow l D c3 ad w_17 _ x2 x3 _ e_19) (cwV 2 hts gX8_settle_X8_makeRow rfl rfl rfl (by decide +kernel) ⟨by decide, by decide⟩) (gM0 c3 ad w_17) rfl rfl rfl hl.1 rfl (Nat.le_of_ble_eq_true rfl) dX8_settle_69) (fun H locs hP hS => ?_)
        refine lv_iconst (v := 0) hx hb dX8_settle_72 (by decide) ?_
        refine lv_istore (lv' := [(5, .int 0), (0, .ref (ad 0)), (1, .int x1), (2, .int x2), (3, .int x3), (4, .int x4)]) hx hb dX8_settle_73 hl (by decide) rfl (fun ls hl => ?_)
        exact bX8_settle_75 X hret x2 x3 x4 FU 0 w_21 _ _ _ hP hS (lv_sub hl [1, 3, 4, 5, 0] rfl) h
def fX8_settle_36 (x1 : Int32) (x2 : Int32) : Nat → Int32 → Mm → Option (Int32 × Mm)
  | 0, _, _ => none
  | n + 1, x3, w => (if 6 ≤ x3 then some ((-9), w) else fX8_settle_45 (fX8_settle_36 x1 x2 n) x1 x2 x3 FU 0 w)
set_option maxRecDepth 20000 in
theorem bX8_settle_36 {p : Program} {l : Launch} {e : Env} {s : State} {m : MethodId} {args : Array Value} {below : List Frame} {meth : Method} {c : Code} {Q : State → Prop} {D : va_G} {c3 : C3} {ad : Nat → Nat} {A : Nat → Prop} {r : Int32} {w' : Mm} (X : Cx p s m args c cX8_settle 7 RX8 wsX8_settle D c3 (encM c3 ad) gM A) (hret : Ri p l e (rmX8_settle) s m args below meth c Q cX8_settle D (encM c3 ad) A r w') : ∀ (x1 : Int32) (x2 : Int32) (n : Nat) (x3 : Int32) (w : Mm) (H : Heap) (locs : List Loc) (ls : Array Slot), va_P D vwCl ((encM c3 ad) w) H → va_S A s.heap H locs → lv_has ls 7 [(0, .ref (ad 0)), (1, .int x1), (2, .int x2), (3, .int x3)] → fX8_settle_36 x1 x2 n x3 w = some (r, w') → W p l e (rmX8_settle) s m args below meth c H locs 0 0 Q (F0 m 36 ls []) := by
  have hx := X.1
  have hb := X.2.1
  have hml := X.2.2.1
  have hown := X.2.2.2.1
  have hts := X.2.2.2.2.1
  intro x1 x2 n
  induction n with
  | zero =>
    intro x3 w H locs ls hP hS hl h
    exact absurd h (by simp [fX8_settle_36])
  | succ n ih =>
    intro x3 w H locs ls hP hS hl h
    rw [fX8_settle_36] at h
    refine lv_iload_n hx hb dX8_settle_36 rfl (lv_at hl 3 rfl) ?_
    refine lv_bipush (v := 6) hx hb dX8_settle_37 (by decide) ?_
    refine lv_icmp_ge (tgt := 149) hx hb dX8_settle_39 (by decide) (fun c_22 => ?_) (fun c_22 => ?_)
    · replace h := it_p c_22 h
      refine lv_bipush (v := (-9)) hx hb dX8_settle_149 (by decide) ?_
      obtain ⟨rfl, rfl⟩ := Prod.mk.inj (Option.some.inj h)
      exact hret _ _ _ _ hP hS dX8_settle_151
    · replace h := it_n c_22 h
      refine lv_iconst (v := 0) hx hb dX8_settle_42 (by decide) ?_
      refine lv_istore (lv' := [(4, .int 0), (0, .ref (ad 0)), (1, .int x1), (2, .int x2), (3, .int x3)]) hx hb dX8_settle_43 hl (by decide) rfl (fun ls hl => ?_)
      exact bX8_settle_45 (x1 := x1) (x2 := x2) (k36 := (fX8_settle_36 x1 x2 n)) X hret ih x3 FU 0 w _ _ _ hP hS (lv_sub hl [1, 2, 3, 4, 0] rfl) h
def fX8_settle_E (x1 : Int32) (x2 : Int32) (w : Mm) : Option (Int32 × Mm) := bo (fX8_isOne x1 w) (fun r_24 => (if r_24 = 0 then some ((-1), w) else bo (fX8_isRow x2) (fun r_28 => (if r_28 = 0 then some ((-1), w) else bo (fX8_isOver w) (fun r_32 => (if r_32 = 0 then (if (w.1 0 3) = 0 then some ((-4), w) else fX8_settle_36 x1 x2 FU 0 w) else some ((-4), w)))))))
set_option maxRecDepth 20000 in
theorem bX8_settle_E {p : Program} {l : Launch} {e : Env} {s : State} {m : MethodId} {args : Array Value} {below : List Frame} {meth : Method} {c : Code} {Q : State → Prop} {D : va_G} {c3 : C3} {ad : Nat → Nat} {A : Nat → Prop} {r : Int32} {w' : Mm} (X : Cx p s m args c cX8_settle 7 RX8 wsX8_settle D c3 (encM c3 ad) gM A) (hret : Ri p l e (rmX8_settle) s m args below meth c Q cX8_settle D (encM c3 ad) A r w') : ∀ (x1 : Int32) (x2 : Int32) (w : Mm) (H : Heap) (locs : List Loc) (ls : Array Slot), va_P D vwCl ((encM c3 ad) w) H → va_S A s.heap H locs → lv_has ls 7 [(0, .ref (ad 0)), (1, .int x1), (2, .int x2)] → fX8_settle_E x1 x2 w = some (r, w') → W p l e (rmX8_settle) s m args below meth c H locs 0 0 Q (F0 m 0 ls []) := by
  have hx := X.1
  have hb := X.2.1
  have hml := X.2.2.1
  have hown := X.2.2.2.1
  have hts := X.2.2.2.2.1
  intro x1 x2 w H locs ls hP hS hl h
  unfold fX8_settle_E at h
  refine lv_aload_n hx hb dX8_settle_0 rfl (lv_at hl 0 rfl) ?_
  refine lv_iload_n hx hb dX8_settle_1 rfl (lv_at hl 1 rfl) ?_
  obtain ⟨r_24, e_23, h⟩ := bo_s h
  refine x_goi X hS (x_runV (As := [.int x1]) (rest := []) X gM_ok hP hS (ctX8_isOne l D c3 ad w _ x1 _ e_23) (cwV 1 hts gX8_settle_X8_isOne rfl rfl rfl (by decide +kernel) ⟨by decide, by decide⟩) (gM0 c3 ad w) rfl rfl rfl hl.1 rfl (Nat.le_of_ble_eq_true rfl) dX8_settle_2) (fun H locs hP hS => ?_)
  refine lv_if_eq (tgt := 15) hx hb dX8_settle_5 (by decide) (fun c_26 => ?_) (fun c_26 => ?_)
  · replace h := it_p c_26 h
    refine lv_iconst (v := (-1)) hx hb dX8_settle_15 (by decide) ?_
    obtain ⟨rfl, rfl⟩ := Prod.mk.inj (Option.some.inj h)
    exact hret _ _ _ _ hP hS dX8_settle_16
  · replace h := it_n c_26 h
    refine lv_iload_n hx hb dX8_settle_8 rfl (lv_at hl 2 rfl) ?_
    obtain ⟨r_28, e_27, h⟩ := bo_s h
    refine x_goi X hS (x_runS (As := [.int x2]) (rest := []) X gM_ok hP hS (ctX8_isRow l D c3 ad w _ x2 _ e_27) (va_cwS 1 hts gX8_settle_X8_isRow rfl rfl rfl (by decide +kernel) ⟨by decide, by decide⟩) rfl hl.1 rfl (Nat.le_of_ble_eq_true rfl) dX8_settle_9) (fun H locs hP hS => ?_)
    refine lv_if_ne (tgt := 17) hx hb dX8_settle_12 (by decide) (fun c_30 => ?_) (fun c_30 => ?_)
    · replace h := it_n c_30 h
      refine lv_aload_n hx hb dX8_settle_17 rfl (lv_at hl 0 rfl) ?_
      obtain ⟨r_32, e_31, h⟩ := bo_s h
      refine x_goi X hS (x_runV (As := []) (rest := []) X gM_ok hP hS (ctX8_isOver l D c3 ad w _ _ e_31) (cwV 0 hts gX8_settle_X8_isOver rfl rfl rfl (by decide +kernel) ⟨by decide, by decide⟩) (gM0 c3 ad w) rfl rfl rfl hl.1 rfl (Nat.le_of_ble_eq_true rfl) dX8_settle_18) (fun H locs hP hS => ?_)
      refine lv_if_ne (tgt := 31) hx hb dX8_settle_21 (by decide) (fun c_34 => ?_) (fun c_34 => ?_)
      · replace h := it_n c_34 h
        refine lv_bipush (v := (-4)) hx hb dX8_settle_31 (by decide) ?_
        obtain ⟨rfl, rfl⟩ := Prod.mk.inj (Option.some.inj h)
        exact hret _ _ _ _ hP hS dX8_settle_33
      · replace h := it_p c_34 h
        refine lv_aload_n hx hb dX8_settle_24 rfl (lv_at hl 0 rfl) ?_
        refine x_get (rest := []) X hP (gM0 c3 ad w) rfl iwX8_settle_X8 3 (by decide) lkX8_settle_167 rfl dX8_settle_25 ?_
        refine lv_if_ne (tgt := 34) hx hb dX8_settle_28 (by decide) (fun c_35 => ?_) (fun c_35 => ?_)
        · replace h := it_n c_35 h
          refine lv_iconst (v := 0) hx hb dX8_settle_34 (by decide) ?_
          refine lv_istore_n (lv' := [(3, .int 0), (0, .ref (ad 0)), (1, .int x1), (2, .int x2)]) hx hb dX8_settle_35 rfl hl (by decide) rfl (fun ls hl => ?_)
          exact bX8_settle_36 X hret x1 x2 FU 0 w _ _ _ hP hS (lv_sub hl [1, 2, 3, 0] rfl) h
        · replace h := it_p c_35 h
          refine lv_bipush (v := (-4)) hx hb dX8_settle_31 (by decide) ?_
          obtain ⟨rfl, rfl⟩ := Prod.mk.inj (Option.some.inj h)
          exact hret _ _ _ _ hP hS dX8_settle_33
    · replace h := it_p c_30 h
      refine lv_iconst (v := (-1)) hx hb dX8_settle_15 (by decide) ?_
      obtain ⟨rfl, rfl⟩ := Prod.mk.inj (Option.some.inj h)
      exact hret _ _ _ _ hP hS dX8_settle_16
def fX8_settle (x1 : Int32) (x2 : Int32) (w : Mm) : Option (Int32 × Mm) := fX8_settle_E x1 x2 w
theorem ctX8_settle (l : Launch) (D : va_G) (c3 : C3) (ad : Nat → Nat) (w : Mm) (sz : Nat) (x1 : Int32) (x2 : Int32) (r : Int32) (w' : Mm) (h : fX8_settle x1 x2 w = some (r, w')) : Ci l yX8_settle wsX8_settle rmX8_settle D c3 (encM c3 ad) gM [.ref (ad 0), .int x1, .int x2] w sz r w' := by
  refine Ci.of (cc := cX8_settle) (maxL := 7) (encM_ok c3 ad) (by decide) rfl (Nat.le_of_ble_eq_true rfl) ?_
  intro p e s m below meth c A Q ls X hret hP hS hl
  exact bX8_settle_E X hret x1 x2 w _ _ ls hP hS hl h
theorem iwX8_least_X8 : ∀ w ∈ wsX80, w ∈ wsX8_least := fun _ h => List.mem_cons_of_mem _ (List.mem_append_right _ h)
theorem lkX8_least_7 : Cond.fieldLink RX8 7 "StuckDoorModel" "row" "[I" ∈ wsX8_least := by decide +kernel
theorem lkX8_least_167 : Cond.fieldLink RX8 167 "StuckDoorModel" "sayings" "I" ∈ wsX8_least := by decide +kernel
def rmX8_least : Room := { frames := 6, cells := 0, slots := 0, locals := 135 }
def fX8_least_108 (k45 : Int32 → Int32 → Mm → Option (Int32 × Mm)) (x1 : Int32) (x2 : Int32) (x4 : Int32) (z0 : Int32) (w : Mm) : Option (Int32 × Mm) := k45 z0 (x4 + 1) w
set_option maxRecDepth 20000 in
theorem bX8_least_108 {p : Program} {l : Launch} {e : Env} {s : State} {m : MethodId} {args : Array Value} {below : List Frame} {meth : Method} {c : Code} {Q : State → Prop} {D : va_G} {c3 : C3} {ad : Nat → Nat} {A : Nat → Prop} {r : Int32} {w' : Mm} (X : Cx p s m args c cX8_least 6 RX8 wsX8_least D c3 (encM c3 ad) gM A) (hret : Ri p l e (rmX8_least) s m args below meth c Q cX8_least D (encM c3 ad) A r w') {x1 : Int32} {x2 : Int32} {k45 : Int32 → Int32 → Mm → Option (Int32 × Mm)} (hk45 : ∀ (x3 : Int32) (x4 : Int32) (w : Mm) (H : Heap) (locs : List Loc) (ls : Array Slot), va_P D vwCl ((encM c3 ad) w) H → va_S A s.heap H locs → lv_has ls 6 [(0, .ref (ad 0)), (1, .int x1), (2, .int x2), (3, .int x3), (4, .int x4)] → k45 x3 x4 w = some (r, w') → W p l e (rmX8_least) s m args below meth c H locs 0 0 Q (F0 m 45 ls [])) : ∀ (x4 : Int32) (z0 : Int32) (w : Mm) (H : Heap) (locs : List Loc) (ls : Array Slot), va_P D vwCl ((encM c3 ad) w) H → va_S A s.heap H locs → lv_has ls 6 [(0, .ref (ad 0)), (1, .int x1), (2, .int x2), (4, .int x4)] → fX8_least_108 k45 x1 x2 x4 z0 w = some (r, w') → W p l e (rmX8_least) s m args below meth c H locs 0 0 Q (F0 m 108 ls [.int z0]) := by
  have hx := X.1
  have hb := X.2.1
  have hml := X.2.2.1
  have hown := X.2.2.2.1
  have hts := X.2.2.2.2.1
  intro x4 z0 w H locs ls hP hS hl h
  unfold fX8_least_108 at h
  refine lv_istore_n (lv' := [(3, .int z0), (0, .ref (ad 0)), (1, .int x1), (2, .int x2), (4, .int x4)]) hx hb dX8_least_108 rfl hl (by decide) rfl (fun ls hl => ?_)
  refine lv_iinc (v := (x4 + 1)) (lv' := [(4, .int (x4 + 1)), (3, .int z0), (0, .ref (ad 0)), (1, .int x1), (2, .int x2)]) hx hb dX8_least_109 hl (k := 4) rfl rfl (by decide) rfl (fun ls hl => ?_)
  refine lv_goto (tgt := 45) hx hb dX8_least_112 (by decide) ?_
  exact hk45 z0 (x4 + 1) w _ _ _ hP hS (lv_sub hl [2, 3, 4, 1, 0] rfl) h
def fX8_least_89 (k45 : Int32 → Int32 → Mm → Option (Int32 × Mm)) (x1 : Int32) (x2 : Int32) (x3 : Int32) (x4 : Int32) (z0 : Int32) (w : Mm) : Option (Int32 × Mm) := (if z0 = 0 then fX8_least_108 k45 x1 x2 x4 x3 w else fX8_least_108 k45 x1 x2 x4 (w.1 1 1646) w)
set_option maxRecDepth 20000 in
theorem bX8_least_89 {p : Program} {l : Launch} {e : Env} {s : State} {m : MethodId} {args : Array Value} {below : List Frame} {meth : Method} {c : Code} {Q : State → Prop} {D : va_G} {c3 : C3} {ad : Nat → Nat} {A : Nat → Prop} {r : Int32} {w' : Mm} (X : Cx p s m args c cX8_least 6 RX8 wsX8_least D c3 (encM c3 ad) gM A) (hret : Ri p l e (rmX8_least) s m args below meth c Q cX8_least D (encM c3 ad) A r w') {x1 : Int32} {x2 : Int32} {k45 : Int32 → Int32 → Mm → Option (Int32 × Mm)} (hk45 : ∀ (x3 : Int32) (x4 : Int32) (w : Mm) (H : Heap) (locs : List Loc) (ls : Array Slot), va_P D vwCl ((encM c3 ad) w) H → va_S A s.heap H locs → lv_has ls 6 [(0, .ref (ad 0)), (1, .int x1), (2, .int x2), (3, .int x3), (4, .int x4)] → k45 x3 x4 w = some (r, w') → W p l e (rmX8_least) s m args below meth c H locs 0 0 Q (F0 m 45 ls [])) : ∀ (x3 : Int32) (x4 : Int32) (z0 : Int32) (w : Mm) (H : Heap) (locs : List Loc) (ls : Array Slot), va_P D vwCl ((encM c3 ad) w) H → va_S A s.heap H locs → lv_has ls 6 [(0, .ref (ad 0)), (1, .int x1), (2, .int x2), (3, .int x3), (4, .int x4)] → fX8_least_89 k45 x1 x2 x3 x4 z0 w = some (r, w') → W p l e (rmX8_least) s m args below meth c H locs 0 0 Q (F0 m 89 ls [.int z0]) := by
  have hx := X.1
  have hb := X.2.1
  have hml := X.2.2.1
  have hown := X.2.2.2.1
  have hts := X.2.2.2.2.1
  intro x3 x4 z0 w H locs ls hP hS hl h
  unfold fX8_least_89 at h
  refine lv_istore (lv' := [(5, .int z0), (0, .ref (ad 0)), (1, .int x1), (2, .int x2), (3, .int x3), (4, .int x4)]) hx hb dX8_least_89 hl (by decide) rfl (fun ls hl => ?_)
  refine lv_iload hx hb dX8_least_91 (lv_at hl 0 rfl) ?_
  refine lv_if_eq (tgt := 107) hx hb dX8_least_93 (by decide) (fun c_1 => ?_) (fun c_1 => ?_)
  · replace h := it_p c_1 h
    refine lv_iload_n hx hb dX8_least_107 rfl (lv_at hl 4 rfl) ?_
    exact bX8_least_108 (x1 := x1) (x2 := x2) (k45 := k45) X hret hk45 x4 x3 w _ _ _ hP hS (lv_sub hl [1, 2, 3, 5] rfl) h
  · replace h := it_n c_1 h
    refine lv_aload_n hx hb dX8_least_96 rfl (lv_at hl 1 rfl) ?_
    refine x_get (rest := []) X hP (gM0 c3 ad w) rfl iwX8_least_X8 0 (by decide) lkX8_least_7 rfl dX8_least_97 ?_
    refine lv_sipush (v := 1646) hx hb dX8_least_100 (by decide) ?_
    refine x_ialdL (j := 1646) X hP (gM1 c3 ad w) (by decide) rfl dX8_least_103 ?_
    refine lv_goto (tgt := 108) hx hb dX8_least_104 (by decide) ?_
    exact bX8_least_108 (x1 := x1) (x2 := x2) (k45 := k45) X hret hk45 x4 (w.1 1 1646) w _ _ _ hP hS (lv_sub hl [1, 2, 3, 5] rfl) h
def fX8_least_88 (k45 : Int32 → Int32 → Mm → Option (Int32 × Mm)) (x1 : Int32) (x2 : Int32) (x3 : Int32) (x4 : Int32) (w : Mm) : Option (Int32 × Mm) := fX8_least_89 k45 x1 x2 x3 x4 0 w
set_option maxRecDepth 20000 in
theorem bX8_least_88 {p : Program} {l : Launch} {e : Env} {s : State} {m : MethodId} {args : Array Value} {below : List Frame} {meth : Method} {c : Code} {Q : State → Prop} {D : va_G} {c3 : C3} {ad : Nat → Nat} {A : Nat → Prop} {r : Int32} {w' : Mm} (X : Cx p s m args c cX8_least 6 RX8 wsX8_least D c3 (encM c3 ad) gM A) (hret : Ri p l e (rmX8_least) s m args below meth c Q cX8_least D (encM c3 ad) A r w') {x1 : Int32} {x2 : Int32} {k45 : Int32 → Int32 → Mm → Option (Int32 × Mm)} (hk45 : ∀ (x3 : Int32) (x4 : Int32) (w : Mm) (H : Heap) (locs : List Loc) (ls : Array Slot), va_P D vwCl ((encM c3 ad) w) H → va_S A s.heap H locs → lv_has ls 6 [(0, .ref (ad 0)), (1, .int x1), (2, .int x2), (3, .int x3), (4, .int x4)] → k45 x3 x4 w = some (r, w') → W p l e (rmX8_least) s m args below meth c H locs 0 0 Q (F0 m 45 ls [])) : ∀ (x3 : Int32) (x4 : Int32) (w : Mm) (H : Heap) (locs : List Loc) (ls : Array Slot), va_P D vwCl ((encM c3 ad) w) H → va_S A s.heap H locs → lv_has ls 6 [(0, .ref (ad 0)), (1, .int x1), (2, .int x2), (3, .int x3), (4, .int x4)] → fX8_least_88 k45 x1 x2 x3 x4 w = some (r, w') → W p l e (rmX8_least) s m args below meth c H locs 0 0 Q (F0 m 88 ls []) := by
  have hx := X.1
  have hb := X.2.1
  have hml := X.2.2.1
  have hown := X.2.2.2.1
  have hts := X.2.2.2.2.1
  intro x3 x4 w H locs ls hP hS hl h
  unfold fX8_least_88 at h
  refine lv_iconst (v := 0) hx hb dX8_least_88 (by decide) ?_
  exact bX8_least_89 (x1 := x1) (x2 := x2) (k45 := k45) X hret hk45 x3 x4 0 w _ _ _ hP hS (lv_sub hl [0, 1, 2, 3, 4] rfl) h
def fX8_least_84 (k45 : Int32 → Int32 → Mm → Option (Int32 × Mm)) (x1 : Int32) (x2 : Int32) (x3 : Int32) (x4 : Int32) (w : Mm) : Option (Int32 × Mm) := fX8_least_89 k45 x1 x2 x3 x4 1 w
set_option maxRecDepth 20000 in
theorem bX8_least_84 {p : Program} {l : Launch} {e : Env} {s : State} {m : MethodId} {args : Array Value} {below : List Frame} {meth : Method} {c : Code} {Q : State → Prop} {D : va_G} {c3 : C3} {ad : Nat → Nat} {A : Nat → Prop} {r : Int32} {w' : Mm} (X : Cx p s m args c cX8_least 6 RX8 wsX8_least D c3 (encM c3 ad) gM A) (hret : Ri p l e (rmX8_least) s m args below meth c Q cX8_least D (encM c3 ad) A r w') {x1 : Int32} {x2 : Int32} {k45 : Int32 → Int32 → Mm → Option (Int32 × Mm)} (hk45 : ∀ (x3 : Int32) (x4 : Int32) (w : Mm) (H : Heap) (locs : List Loc) (ls : Array Slot), va_P D vwCl ((encM c3 ad) w) H → va_S A s.heap H locs → lv_has ls 6 [(0, .ref (ad 0)), (1, .int x1), (2, .int x2), (3, .int x3), (4, .int x4)] → k45 x3 x4 w = some (r, w') → W p l e (rmX8_least) s m args below meth c H locs 0 0 Q (F0 m 45 ls [])) : ∀ (x3 : Int32) (x4 : Int32) (w : Mm) (H : Heap) (locs : List Loc) (ls : Array Slot), va_P D vwCl ((encM c3 ad) w) H → va_S A s.heap H locs → lv_has ls 6 [(0, .ref (ad 0)), (1, .int x1), (2, .int x2), (3, .int x3), (4, .int x4)] → fX8_least_84 k45 x1 x2 x3 x4 w = some (r, w') → W p l e (rmX8_least) s m args below meth c H locs 0 0 Q (F0 m 84 ls []) := by
  have hx := X.1
  have hb := X.2.1
  have hml := X.2.2.1
  have hown := X.2.2.2.1
  have hts := X.2.2.2.2.1
  intro x3 x4 w H locs ls hP hS hl h
  unfold fX8_least_84 at h
  refine lv_iconst (v := 1) hx hb dX8_least_84 (by decide) ?_
  refine lv_goto (tgt := 89) hx hb dX8_least_85 (by decide) ?_
  exact bX8_least_89 (x1 := x1) (x2 := x2) (k45 := k45) X hret hk45 x3 x4 1 w _ _ _ hP hS (lv_sub hl [0, 1, 2, 3, 4] rfl) h
def fX8_least_45 (x1 : Int32) (x2 : Int32) : Nat → Int32 → Int32 → Mm → Option (Int32 × Mm)
  | 0, _, _, _ => none
  | n + 1, x3, x4, w => bo (fX8_power x2 w) (fun r_3 => (if r_3 ≤ x4 then some (x3, w) else bd (fX8_settles x1 x2 x4 w) (fun r_7 w_8 => (if r_7 = 0 then fX8_least_88 (fX8_least_45 x1 x2 n) x1 x2 x3 x4 w_8 else (if x3 = (-9) then fX8_least_84 (fX8_least_45 x1 x2 n) x1 x2 x3 x4 w_8 else (if x3 ≤ (w_8.1 1 1646) then fX8_least_88 (fX8_least_45 x1 x2 n) x1 x2 x3 x4 w_8 else fX8_least_84 (fX8_least_45 x1 x2 n) x1 x2 x3 x4 w_8))))))
set_option maxRecDepth 20000 in
theorem bX8_least_45 {p : Program} {l : Launch} {e : Env} {s : State} {m : MethodId} {args : Array Value} {below : List Frame} {meth : Method} {c : Code} {Q : State → Prop} {D : va_G} {c3 : C3} {ad : Nat → Nat} {A : Nat → Prop} {r : Int32} {w' : Mm} (X : Cx p s m args c cX8_least 6 RX8 wsX8_least D c3 (encM c3 ad) gM A) (hret : Ri p l e (rmX8_least) s m args below meth c Q cX8_least D (encM c3 ad) A r w') : ∀ (x1 : Int32) (x2 : Int32) (n : Nat) (x3 : Int32) (x4 : Int32) (w : Mm) (H : Heap) (locs : List Loc) (ls : Array Slot), va_P D vwCl ((encM c3 ad) w) H → va_S A s.heap H locs → lv_has ls 6 [(0, .ref (ad 0)), (1, .int x1), (2, .int x2), (3, .int x3), (4, .int x4)] → fX8_least_45 x1 x2 n x3 x4 w = some (r, w') → W p l e (rmX8_least) s m args below meth c H locs 0 0 Q (F0 m 45 ls []) := by
  have hx := X.1
  have hb := X.2.1
  have hml := X.2.2.1
  have hown := X.2.2.2.1
  have hts := X.2.2.2.2.1
  intro x1 x2 n
  induction n with
  | zero =>
    intro x3 x4 w H locs ls hP hS hl h
    exact absurd h (by simp [fX8_least_45])
  | succ n ih =>
    intro x3 x4 w H locs ls hP hS hl h
    rw [fX8_least_45] at h
    refine lv_iload hx hb dX8_least_45 (lv_at hl 4 rfl) ?_
    refine lv_aload_n hx hb dX8_least_47 rfl (lv_at hl 0 rfl) ?_
    refine lv_iload_n hx hb dX8_least_48 rfl (lv_at hl 2 rfl) ?_
    obtain ⟨r_3, e_2, h⟩ := bo_s h
    refine x_goi X hS (x_runV (As := [.int x2]) (rest := [.int x4]) X gM_ok hP hS (ctX8_power l D c3 ad w _ x2 _ e_2) (cwV 1 hts gX8_least_X8_power rfl rfl rfl (by decide +kernel) ⟨by decide, by decide⟩) (gM0 c3 ad w) rfl rfl rfl hl.1 rfl (Nat.le_of_ble_eq_true rfl) dX8_least_49) (fun H locs hP hS => ?_)
    refine lv_icmp_ge (tgt := 115) hx hb dX8_least_52 (by decide) (fun c_5 => ?_) (fun c_5 => ?_)
    · replace h := it_p c_5 h
      refine lv_iload_n hx hb dX8_least_115 rfl (lv_at hl 3 rfl) ?_
      obtain ⟨rfl, rfl⟩ := Prod.mk.inj (Option.some.inj h)
      exact hret _ _ _ _ hP hS dX8_least_116
    · replace h := it_n c_5 h
      refine lv_aload_n hx hb dX8_least_55 rfl (lv_at hl 0 rfl) ?_
      refine lv_iload_n hx hb dX8_least_56 rfl (lv_at hl 1 rfl) ?_
      refine lv_iload_n hx hb dX8_least_57 rfl (lv_at hl 2 rfl) ?_
      refine lv_iload hx hb dX8_least_58 (lv_at hl 4 rfl) ?_
      obtain ⟨r_7, w_8, e_6, h⟩ := bd_s h
      refine x_goi X hS (x_runV (As := [.int x1, .int x2, .int x4]) (rest := []) X gM_ok hP hS (ctX8_settles l D c3 ad w _ x1 x2 x4 _ _ e_6) (cwV 3 hts gX8_least_X8_settles rfl rfl rfl (by decide +kernel) ⟨by decide, by decide⟩) (gM0 c3 ad w) rfl rfl rfl hl.1 rfl (Nat.le_of_ble_eq_true rfl) dX8_least_60) (fun H locs hP hS => ?_)
      refine lv_if_eq (tgt := 88) hx hb dX8_least_63 (by decide) (fun c_9 => ?_) (fun c_9 => ?_)
      · replace h := it_p c_9 h
        exact bX8_least_88 (x1 := x1) (x2 := x2) (k45 := (fX8_least_45 x1 x2 n)) X hret ih x3 x4 w_8 _ _ _ hP hS (lv_sub hl [0, 1, 2, 3, 4] rfl) h
      · replace h := it_n c_9 h
        refine lv_iload_n hx hb dX8_least_66 rfl (lv_at hl 3 rfl) ?_
        refine lv_bipush (v := (-9)) hx hb dX8_least_67 (by decide) ?_
        refine lv_icmp_eq (tgt := 84) hx hb dX8_least_69 (by decide) (fun c_10 => ?_) (fun c_10 => ?_)
        · replace h := it_p c_10 h
          exact bX8_least_84 (x1 := x1) (x2 := x2) (k45 := (fX8_least_45 x1 x2 n)) X hret ih x3 x4 w_8 _ _ _ hP hS (lv_sub hl [0, 1, 2, 3, 4] rfl) h
        · replace h := it_n c_10 h
          refine lv_aload_n hx hb dX8_least_72 rfl (lv_at hl 0 rfl) ?_
          refine x_get (rest := []) X hP (gM0 c3 ad w_8) rfl iwX8_least_X8 0 (by decide) lkX8_least_7 rfl dX8_least_73 ?_
          refine lv_sipush (v := 1646) hx hb dX8_least_76 (by decide) ?_
          refine x_ialdL (j := 1646) X hP (gM1 c3 ad w_8) (by decide) rfl dX8_least_79 ?_
          refine lv_iload_n hx hb dX8_least_80 rfl (lv_at hl 3 rfl) ?_
          refine lv_icmp_ge (tgt := 88) hx hb dX8_least_81 (by decide) (fun c_11 => ?_) (fun c_11 => ?_)
          · replace h := it_p c_11 h
            exact bX8_least_88 (x1 := x1) (x2 := x2) (k45 := (fX8_least_45 x1 x2 n)) X hret ih x3 x4 w_8 _ _ _ hP hS (lv_sub hl [0, 1, 2, 3, 4] rfl) h
          · replace h := it_n c_11 h
            exact bX8_least_84 (x1 := x1) (x2 := x2) (k45 := (fX8_least_45 x1 x2 n)) X hret ih x3 x4 w_8 _ _ _ hP hS (lv_sub hl [0, 1, 2, 3, 4] rfl) h
def fX8_least_E (x1 : Int32) (x2 : Int32) (w : Mm) : Option (Int32 × Mm) := bo (fX8_isOne x1 w) (fun r_13 => (if r_13 = 0 then some ((-1), w) else bo (fX8_in x2.toInt64 0 5) (fun r_17 => (if r_17 = 0 then some ((-1), w) else bo (fX8_isOver w) (fun r_21 => (if r_21 = 0 then (if (w.1 0 3) = 0 then some ((-4), w) else fX8_least_45 x1 x2 FU (-9) 0 w) else some ((-4), w)))))))
set_option maxRecDepth 20000 in
theorem bX8_least_E {p : Program} {l : Launch} {e : Env} {s : State} {m : MethodId} {args : Array Value} {below : List Frame} {meth : Method} {c : Code} {Q : State → Prop} {D : va_G} {c3 : C3} {ad : Nat → Nat} {A : Nat → Prop} {r : Int32} {w' : Mm} (X : Cx p s m args c cX8_least 6 RX8 wsX8_least D c3 (encM c3 ad) gM A) (hret : Ri p l e (rmX8_least) s m args below meth c Q cX8_least D (encM c3 ad) A r w') : ∀ (x1 : Int32) (x2 : Int32) (w : Mm) (H : Heap) (locs : List Loc) (ls : Array Slot), va_P D vwCl ((encM c3 ad) w) H → va_S A s.heap H locs → lv_has ls 6 [(0, .ref (ad 0)), (1, .int x1), (2, .int x2)] → fX8_least_E x1 x2 w = some (r, w') → W p l e (rmX8_least) s m args below meth c H locs 0 0 Q (F0 m 0 ls []) := by
  have hx := X.1
  have hb := X.2.1
  have hml := X.2.2.1
  have hown := X.2.2.2.1
  have hts := X.2.2.2.2.1
  intro x1 x2 w H locs ls hP hS hl h
  unfold fX8_least_E at h
  refine lv_aload_n hx hb dX8_least_0 rfl (lv_at hl 0 rfl) ?_
  refine lv_iload_n hx hb dX8_least_1 rfl (lv_at hl 1 rfl) ?_
  obtain ⟨r_13, e_12, h⟩ := bo_s h
  refine x_goi X hS (x_runV (As := [.int x1]) (rest := []) X gM_ok hP hS (ctX8_isOne l D c3 ad w _ x1 _ e_12) (cwV 1 hts gX8_least_X8_isOne rfl rfl rfl (by decide +kernel) ⟨by decide, by decide⟩) (gM0 c3 ad w) rfl rfl rfl hl.1 rfl (Nat.le_of_ble_eq_true rfl) dX8_least_2) (fun H locs hP hS => ?_)
  refine lv_if_eq (tgt := 20) hx hb dX8_least_5 (by decide) (fun c_15 => ?_) (fun c_15 => ?_)
  · replace h := it_p c_15 h
    refine lv_iconst (v := (-1)) hx hb dX8_least_20 (by decide) ?_
    obtain ⟨rfl, rfl⟩ := Prod.mk.inj (Option.some.inj h)
    exact hret _ _ _ _ hP hS dX8_least_21
  · replace h := it_n c_15 h
    refine lv_iload_n hx hb dX8_least_8 rfl (lv_at hl 2 rfl) ?_
    refine lv_i2l (v := x2.toInt64) hx hb dX8_least_9 rfl ?_
    refine lv_lconst (v := 0) hx hb dX8_least_10 (by decide) ?_
    refine lv_ldc2 (v := 5) hx hb hown (hts (.constantLong RX8 79 (5)) (by decide +kernel)) dX8_least_11 ?_
    obtain ⟨r_17, e_16, h⟩ := bo_s h
    refine x_goi X hS (x_runS (As := [.long x2.toInt64, .long 0, .long 5]) (rest := []) X gM_ok hP hS (ctX8_in l D c3 ad w _ x2.toInt64 0 5 _ e_16) (va_cwS 3 hts gX8_least_X8_in rfl rfl rfl (by decide +kernel) ⟨by decide, by decide⟩) rfl hl.1 rfl (Nat.le_of_ble_eq_true rfl) dX8_least_14) (fun H locs hP hS => ?_)
    refine lv_if_ne (tgt := 22) hx hb dX8_least_17 (by decide) (fun c_19 => ?_) (fun c_19 => ?_)
    · replace h := it_n c_19 h
      refine lv_aload_n hx hb dX8_least_22 rfl (lv_at hl 0 rfl) ?_
      obtain ⟨r_21, e_20, h⟩ := bo_s h
      refine x_goi X hS (x_runV (As := []) (rest := []) X gM_ok hP hS (ctX8_isOver l D c3 ad w _ _ e_20) (cwV 0 hts gX8_least_X8_isOver rfl rfl rfl (by decide +kernel) ⟨by decide, by decide⟩) (gM0 c3 ad w) rfl rfl rfl hl.1 rfl (Nat.le_of_ble_eq_true rfl) dX8_least_23) (fun H locs hP hS => ?_)
      refine lv_if_ne (tgt := 36) hx hb dX8_least_26 (by decide) (fun c_23 => ?_) (fun c_23 => ?_)
      · replace h := it_n c_23 h
        refine lv_bipush (v := (-4)) hx hb dX8_least_36 (by decide) ?_
        obtain ⟨rfl, rfl⟩ := Prod.mk.inj (Option.some.inj h)
        exact hret _ _ _ _ hP hS dX8_least_38
      · replace h := it_p c_23 h
        refine lv_aload_n hx hb dX8_least_29 rfl (lv_at hl 0 rfl) ?_
        refine x_get (rest := []) X hP (gM0 c3 ad w) rfl iwX8_least_X8 3 (by decide) lkX8_least_167 rfl dX8_least_30 ?_
        refine lv_if_ne (tgt := 39) hx hb dX8_least_33 (by decide) (fun c_24 => ?_) (fun c_24 => ?_)
        · replace h := it_n c_24 h
          refine lv_bipush (v := (-9)) hx hb dX8_least_39 (by decide) ?_
          refine lv_istore_n (lv' := [(3, .int (-9)), (0, .ref (ad 0)), (1, .int x1), (2, .int x2)]) hx hb dX8_least_41 rfl hl (by decide) rfl (fun ls hl => ?_)
          refine lv_iconst (v := 0) hx hb dX8_least_42 (by decide) ?_
          refine lv_istore (lv' := [(4, .int 0), (3, .int (-9)), (0, .ref (ad 0)), (1, .int x1), (2, .int x2)]) hx hb dX8_least_43 hl (by decide) rfl (fun ls hl => ?_)
          exact bX8_least_45 X hret x1 x2 FU (-9) 0 w _ _ _ hP hS (lv_sub hl [2, 3, 4, 1, 0] rfl) h
        · replace h := it_p c_24 h
          refine lv_bipush (v := (-4)) hx hb dX8_least_36 (by decide) ?_
          obtain ⟨rfl, rfl⟩ := Prod.mk.inj (Option.some.inj h)
          exact hret _ _ _ _ hP hS dX8_least_38
    · replace h := it_p c_19 h
      refine lv_iconst (v := (-1)) hx hb dX8_least_20 (by decide) ?_
      obtain ⟨rfl, rfl⟩ := Prod.mk.inj (Option.some.inj h)
      exact hret _ _ _ _ hP hS dX8_least_21
def fX8_least (x1 : Int32) (x2 : Int32) (w : Mm) : Option (Int32 × Mm) := fX8_least_E x1 x2 w
theorem ctX8_least (l : Launch) (D : va_G) (c3 : C3) (ad : Nat → Nat) (w : Mm) (sz : Nat) (x1 : Int32) (x2 : Int32) (r : Int32) (w' : Mm) (h : fX8_least x1 x2 w = some (r, w')) : Ci l yX8_least wsX8_least rmX8_least D c3 (encM c3 ad) gM [.ref (ad 0), .int x1, .int x2] w sz r w' := by
  refine Ci.of (cc := cX8_least) (maxL := 6) (encM_ok c3 ad) (by decide) rfl (Nat.le_of_ble_eq_true rfl) ?_
  intro p e s m below meth c A Q ls X hret hP hS hl
  exact bX8_least_E X hret x1 x2 w _ _ ls hP hS hl h
theorem iwX8_rows_X8 : ∀ w ∈ wsX80, w ∈ wsX8_rows := fun _ h => List.mem_cons_of_mem _ (List.mem_append_right _ h)
theorem lkX8_rows_7 : Cond.fieldLink RX8 7 "StuckDoorModel" "row" "[I" ∈ wsX8_rows := by decide +kernel
theorem lkX8_rows_37 : Cond.fieldLink RX8 37 "StuckDoorModel" "lower" "J" ∈ wsX8_rows := by decide +kernel
theorem lkX8_rows_76 : Cond.fieldLink RX8 76 "StuckDoorModel" "asked" "I" ∈ wsX8_rows := by decide +kernel
theorem lkX8_rows_167 : Cond.fieldLink RX8 167 "StuckDoorModel" "sayings" "I" ∈ wsX8_rows := by decide +kernel
theorem lkX8_rows_240 : Cond.fieldLink RX8 240 "StuckDoorModel" "upper" "J" ∈ wsX8_rows := by decide +kernel
def rmX8_rows : Room := { frames := 5, cells := 0, slots := 0, locals := 112 }
def fX8_rows_102 (k56 : Int32 → Mm → Option (Int32 × Mm)) (x1 : Int32) (x2 : Int32) (x3 : Int32) (w : Mm) : Option (Int32 × Mm) := k56 (x3 + 1) w
set_option maxRecDepth 20000 in
theorem bX8_rows_102 {p : Program} {l : Launch} {e : Env} {s : State} {m : MethodId} {args : Array Value} {below : List Frame} {meth : Method} {c : Code} {Q : State → Prop} {D : va_G} {c3 : C3} {ad : Nat → Nat} {A : Nat → Prop} {r : Int32} {w' : Mm} (X : Cx p s m args c cX8_rows 4 RX8 wsX8_rows D c3 (encM c3 ad) gM A) (hret : Ri p l e (rmX8_rows) s m args below meth c Q cX8_rows D (encM c3 ad) A r w') {x1 : Int32} {x2 : Int32} {k56 : Int32 → Mm → Option (Int32 × Mm)} (hk56 : ∀ (x3 : Int32) (w : Mm) (H : Heap) (locs : List Loc) (ls : Array Slot), va_P D vwCl ((encM c3 ad) w) H → va_S A s.heap H locs → lv_has ls 4 [(0, .ref (ad 0)), (1, .int x1), (2, .int x2), (3, .int x3)] → k56 x3 w = some (r, w') → W p l e (rmX8_rows) s m args below meth c H locs 0 0 Q (F0 m 56 ls [])) : ∀ (x3 : Int32) (w : Mm) (H : Heap) (locs : List Loc) (ls : Array Slot), va_P D vwCl ((encM c3 ad) w) H → va_S A s.heap H locs → lv_has ls 4 [(0, .ref (ad 0)), (1, .int x1), (2, .int x2), (3, .int x3)] → fX8_rows_102 k56 x1 x2 x3 w = some (r, w') → W p l e (rmX8_rows) s m args below meth c H locs 0 0 Q (F0 m 102 ls []) := by
  have hx := X.1
  have hb := X.2.1
  have hml := X.2.2.1
  have hown := X.2.2.2.1
  have hts := X.2.2.2.2.1
  intro x3 w H locs ls hP hS hl h
  unfold fX8_rows_102 at h
  refine lv_iinc (v := (x3 + 1)) (lv' := [(3, .int (x3 + 1)), (0, .ref (ad 0)), (1, .int x1), (2, .int x2)]) hx hb dX8_rows_102 hl (k := 3) rfl rfl (by decide) rfl (fun ls hl => ?_)
  refine lv_goto (tgt := 56) hx hb dX8_rows_105 (by decide) ?_
  exact hk56 (x3 + 1) w _ _ _ hP hS (lv_sub hl [1, 2, 3, 0] rfl) h
def fX8_rows_56 (x1 : Int32) (x2 : Int32) : Nat → Int32 → Mm → Option (Int32 × Mm)
  | 0, _, _ => none
  | n + 1, x3, w => bo (fX8_power x2 w) (fun r_2 => (if r_2 ≤ x3 then some (1, w) else bd (fX8_isWell x1 x2 x3 w) (fun r_6 w_7 => (if r_6 = 0 then fX8_rows_102 (fX8_rows_56 x1 x2 n) x1 x2 x3 w_7 else nm (sL w_7 0 13 ((w_7.2.1 0 13) + 1)) (fun w_9 => nm (sA w_9 0 12 ((w_9.1 0 12) ||| (w_9.1 1 1647))) (fun w_10 => fX8_rows_102 (fX8_rows_56 x1 x2 n) x1 x2 x3 w_10))))))
set_option maxRecDepth 20000 in
theorem bX8_rows_56 {p : Program} {l : Launch} {e : Env} {s : State} {m : MethodId} {args : Array Value} {below : List Frame} {meth : Method} {c : Code} {Q : State → Prop} {D : va_G} {c3 : C3} {ad : Nat → Nat} {A : Nat → Prop} {r : Int32} {w' : Mm} (X : Cx p s m args c cX8_rows 4 RX8 wsX8_rows D c3 (encM c3 ad) gM A) (hret : Ri p l e (rmX8_rows) s m args below meth c Q cX8_rows D (encM c3 ad) A r w') : ∀ (x1 : Int32) (x2 : Int32) (n : Nat) (x3 : Int32) (w : Mm) (H : Heap) (locs : List Loc) (ls : Array Slot), va_P D vwCl ((encM c3 ad) w) H → va_S A s.heap H locs → lv_has ls 4 [(0, .ref (ad 0)), (1, .int x1), (2, .int x2), (3, .int x3)] → fX8_rows_56 x1 x2 n x3 w = some (r, w') → W p l e (rmX8_rows) s m args below meth c H locs 0 0 Q (F0 m 56 ls []) := by
  have hx := X.1
  have hb := X.2.1
  have hml := X.2.2.1
  have hown := X.2.2.2.1
  have hts := X.2.2.2.2.1
  intro x1 x2 n
  induction n with
  | zero =>
    intro x3 w H locs ls hP hS hl h
    exact absurd h (by simp [fX8_rows_56])
  | succ n ih =>
    intro x3 w H locs ls hP hS hl h
    rw [fX8_rows_56] at h
    refine lv_iload_n hx hb dX8_rows_56 rfl (lv_at hl 3 rfl) ?_
    refine lv_aload_n hx hb dX8_rows_57 rfl (lv_at hl 0 rfl) ?_
    refine lv_iload_n hx hb dX8_rows_58 rfl (lv_at hl 2 rfl) ?_
    obtain ⟨r_2, e_1, h⟩ := bo_s h
    refine x_goi X hS (x_runV (As := [.int x2]) (rest := [.int x3]) X gM_ok hP hS (ctX8_power l D c3 ad w _ x2 _ e_1) (cwV 1 hts gX8_rows_X8_power rfl rfl rfl (by decide +kernel) ⟨by decide, by decide⟩) (gM0 c3 ad w) rfl rfl rfl hl.1 rfl (Nat.le_of_ble_eq_true rfl) dX8_rows_59) (fun H locs hP hS => ?_)
    refine lv_icmp_ge (tgt := 108) hx hb dX8_rows_62 (by decide) (fun c_4 => ?_) (fun c_4 => ?_)
    · replace h := it_p c_4 h
      refine lv_iconst (v := 1) hx hb dX8_rows_108 (by decide) ?_
      obtain ⟨rfl, rfl⟩ := Prod.mk.inj (Option.some.inj h)
      exact hret _ _ _ _ hP hS dX8_rows_109
    · replace h := it_n c_4 h
      refine lv_aload_n hx hb dX8_rows_65 rfl (lv_at hl 0 rfl) ?_
      refine lv_iload_n hx hb dX8_rows_66 rfl (lv_at hl 1 rfl) ?_
      refine lv_iload_n hx hb dX8_rows_67 rfl (lv_at hl 2 rfl) ?_
      refine lv_iload_n hx hb dX8_rows_68 rfl (lv_at hl 3 rfl) ?_
      obtain ⟨r_6, w_7, e_5, h⟩ := bd_s h
      refine x_goi X hS (x_runV (As := [.int x1, .int x2, .int x3]) (rest := []) X gM_ok hP hS (ctX8_isWell l D c3 ad w _ x1 x2 x3 _ _ e_5) (cwV 3 hts gX8_rows_X8_isWell rfl rfl rfl (by decide +kernel) ⟨by decide, by decide⟩) (gM0 c3 ad w) rfl rfl rfl hl.1 rfl (Nat.le_of_ble_eq_true rfl) dX8_rows_69) (fun H locs hP hS => ?_)
      refine lv_if_eq (tgt := 102) hx hb dX8_rows_72 (by decide) (fun c_8 => ?_) (fun c_8 => ?_)
      · replace h := it_p c_8 h
        exact bX8_rows_102 (x1 := x1) (x2 := x2) (k56 := (fX8_rows_56 x1 x2 n)) X hret ih x3 w_7 _ _ _ hP hS (lv_sub hl [0, 1, 2, 3] rfl) h
      · replace h := it_n c_8 h
        refine lv_aload_n hx hb dX8_rows_75 rfl (lv_at hl 0 rfl) ?_
        refine lv_dup hx hb dX8_rows_76 rfl ?_
        refine x_get (rest := [.ref (ad 0)]) X hP (gM0 c3 ad w_7) rfl iwX8_rows_X8 13 (by decide) lkX8_rows_240 rfl dX8_rows_77 ?_
        refine lv_lconst (v := 1) hx hb dX8_rows_80 (by decide) ?_
        refine lv_ladd hx hb dX8_rows_81 ?_
        refine x_put (v := .long ((w_7.2.1 0 13) + 1)) X hP hS (gM0 c3 ad w_7) rfl iwX8_rows_X8 tyX8 tyX8_ok nmX8 13 (by decide) lkX8_rows_240 rfl rfl rfl (Nat.le_of_ble_eq_true rfl) (pM0_13 c3 ad w_7 ((w_7.2.1 0 13) + 1)) dX8_rows_82 (fun H locs hP hS => ?_)
        refine x_nmw h hP (fun w_9 h hP => ?_)
        refine lv_aload_n hx hb dX8_rows_85 rfl (lv_at hl 0 rfl) ?_
        refine lv_dup hx hb dX8_rows_86 rfl ?_
        refine x_get (rest := [.ref (ad 0)]) X hP (gM0 c3 ad w_9) rfl iwX8_rows_X8 12 (by decide) lkX8_rows_76 rfl dX8_rows_87 ?_
        refine lv_aload_n hx hb dX8_rows_90 rfl (lv_at hl 0 rfl) ?_
        refine x_get (rest := [.int (w_9.1 0 12), .ref (ad 0)]) X hP (gM0 c3 ad w_9) rfl iwX8_rows_X8 0 (by decide) lkX8_rows_7 rfl dX8_rows_91 ?_
        refine lv_sipush (v := 1647) hx hb dX8_rows_94 (by decide) ?_
        refine x_ialdL (j := 1647) X hP (gM1 c3 ad w_9) (by decide) rfl dX8_rows_97 ?_
        refine lv_ior hx hb dX8_rows_98 ?_
        refine x_put (v := .int ((w_9.1 0 12) ||| (w_9.1 1 1647))) X hP hS (gM0 c3 ad w_9) rfl iwX8_rows_X8 tyX8 tyX8_ok nmX8 12 (by decide) lkX8_rows_76 rfl rfl rfl (Nat.le_of_ble_eq_true rfl) (pM0_12 c3 ad w_9 ((w_9.1 0 12) ||| (w_9.1 1 1647))) dX8_rows_99 (fun H locs hP hS => ?_)
        refine x_nmw h hP (fun w_10 h hP => ?_)
        exact bX8_rows_102 (x1 := x1) (x2 := x2) (k56 := (fX8_rows_56 x1 x2 n)) X hret ih x3 w_10 _ _ _ hP hS (lv_sub hl [0, 1, 2, 3] rfl) h
def fX8_rows_E (x1 : Int32) (x2 : Int32) (w : Mm) : Option (Int32 × Mm) := bo (fX8_isOne x1 w) (fun r_12 => (if r_12 = 0 then some ((-1), w) else bo (fX8_in x2.toInt64 0 5) (fun r_16 => (if r_16 = 0 then some ((-1), w) else bo (fX8_isOver w) (fun r_20 => (if r_20 = 0 then (if (w.1 0 3) = 0 then some ((-4), w) else nm (sL w 0 13 0) (fun w_24 => nm (sL w_24 0 14 1) (fun w_25 => nm (sA w_25 0 12 0) (fun w_26 => fX8_rows_56 x1 x2 FU 0 w_26)))) else some ((-4), w)))))))
set_option maxRecDepth 20000 in
theorem bX8_rows_E {p : Program} {l : Launch} {e : Env} {s : State} {m : MethodId} {args : Array Value} {below : List Frame} {meth : Method} {c : Code} {Q : State → Prop} {D : va_G} {c3 : C3} {ad : Nat → Nat} {A : Nat → Prop} {r : Int32} {w' : Mm} (X : Cx p s m args c cX8_rows 4 RX8 wsX8_rows D c3 (encM c3 ad) gM A) (hret : Ri p l e (rmX8_rows) s m args below meth c Q cX8_rows D (encM c3 ad) A r w') : ∀ (x1 : Int32) (x2 : Int32) (w : Mm) (H : Heap) (locs : List Loc) (ls : Array Slot), va_P D vwCl ((encM c3 ad) w) H → va_S A s.heap H locs → lv_has ls 4 [(0, .ref (ad 0)), (1, .int x1), (2, .int x2)] → fX8_rows_E x1 x2 w = some (r, w') → W p l e (rmX8_rows) s m args below meth c H locs 0 0 Q (F0 m 0 ls []) := by
  have hx := X.1
  have hb := X.2.1
  have hml := X.2.2.1
  have hown := X.2.2.2.1
  have hts := X.2.2.2.2.1
  intro x1 x2 w H locs ls hP hS hl h
  unfold fX8_rows_E at h
  refine lv_aload_n hx hb dX8_rows_0 rfl (lv_at hl 0 rfl) ?_
  refine lv_iload_n hx hb dX8_rows_1 rfl (lv_at hl 1 rfl) ?_
  obtain ⟨r_12, e_11, h⟩ := bo_s h
  refine x_goi X hS (x_runV (As := [.int x1]) (rest := []) X gM_ok hP hS (ctX8_isOne l D c3 ad w _ x1 _ e_11) (cwV 1 hts gX8_rows_X8_isOne rfl rfl rfl (by decide +kernel) ⟨by decide, by decide⟩) (gM0 c3 ad w) rfl rfl rfl hl.1 rfl (Nat.le_of_ble_eq_true rfl) dX8_rows_2) (fun H locs hP hS => ?_)
  refine lv_if_eq (tgt := 20) hx hb dX8_rows_5 (by decide) (fun c_14 => ?_) (fun c_14 => ?_)
  · replace h := it_p c_14 h
    refine lv_iconst (v := (-1)) hx hb dX8_rows_20 (by decide) ?_
    obtain ⟨rfl, rfl⟩ := Prod.mk.inj (Option.some.inj h)
    exact hret _ _ _ _ hP hS dX8_rows_21
  · replace h := it_n c_14 h
    refine lv_iload_n hx hb dX8_rows_8 rfl (lv_at hl 2 rfl) ?_
    refine lv_i2l (v := x2.toInt64) hx hb dX8_rows_9 rfl ?_
    refine lv_lconst (v := 0) hx hb dX8_rows_10 (by decide) ?_
    refine lv_ldc2 (v := 5) hx hb hown (hts (.constantLong RX8 79 (5)) (by decide +kernel)) dX8_rows_11 ?_
    obtain ⟨r_16, e_15, h⟩ := bo_s h
    refine x_goi X hS (x_runS (As := [.long x2.toInt64, .long 0, .long 5]) (rest := []) X gM_ok hP hS (ctX8_in l D c3 ad w _ x2.toInt64 0 5 _ e_15) (va_cwS 3 hts gX8_rows_X8_in rfl rfl rfl (by decide +kernel) ⟨by decide, by decide⟩) rfl hl.1 rfl (Nat.le_of_ble_eq_true rfl) dX8_rows_14) (fun H locs hP hS => ?_)
    refine lv_if_ne (tgt := 22) hx hb dX8_rows_17 (by decide) (fun c_18 => ?_) (fun c_18 => ?_)
    · replace h := it_n c_18 h
      refine lv_aload_n hx hb dX8_rows_22 rfl (lv_at hl 0 rfl) ?_
      obtain ⟨r_20, e_19, h⟩ := bo_s h
      refine x_goi X hS (x_runV (As := []) (rest := []) X gM_ok hP hS (ctX8_isOver l D c3 ad w _ _ e_19) (cwV 0 hts gX8_rows_X8_isOver rfl rfl rfl (by decide +kernel) ⟨by decide, by decide⟩) (gM0 c3 ad w) rfl rfl rfl hl.1 rfl (Nat.le_of_ble_eq_true rfl) dX8_rows_23) (fun H locs hP hS => ?_)
      refine lv_if_ne (tgt := 36) hx hb dX8_rows_26 (by decide) (fun c_22 => ?_) (fun c_22 => ?_)
      · replace h := it_n c_22 h
        refine lv_bipush (v := (-4)) hx hb dX8_rows_36 (by decide) ?_
        obtain ⟨rfl, rfl⟩ := Prod.mk.inj (Option.some.inj h)
        exact hret _ _ _ _ hP hS dX8_rows_38
      · replace h := it_p c_22 h
        refine lv_aload_n hx hb dX8_rows_29 rfl (lv_at hl 0 rfl) ?_
        refine x_get (rest := []) X hP (gM0 c3 ad w) rfl iwX8_rows_X8 3 (by decide) lkX8_rows_167 rfl dX8_rows_30 ?_
        refine lv_if_ne (tgt := 39) hx hb dX8_rows_33 (by decide) (fun c_23 => ?_) (fun c_23 => ?_)
        · replace h := it_n c_23 h
          refine lv_aload_n hx hb dX8_rows_39 rfl (lv_at hl 0 rfl) ?_
          refine lv_lconst (v := 0) hx hb dX8_rows_40 (by decide) ?_
          refine x_put (v := .long 0) X hP hS (gM0 c3 ad w) rfl iwX8_rows_X8 tyX8 tyX8_ok nmX8 13 (by decide) lkX8_rows_240 rfl rfl rfl (Nat.le_of_ble_eq_true rfl) (pM0_13 c3 ad w 0) dX8_rows_41 (fun H locs hP hS => ?_)
          refine x_nmw h hP (fun w_24 h hP => ?_)
          refine lv_aload_n hx hb dX8_rows_44 rfl (lv_at hl 0 rfl) ?_
          refine lv_lconst (v := 1) hx hb dX8_rows_45 (by decide) ?_
          refine x_put (v := .long 1) X hP hS (gM0 c3 ad w_24) rfl iwX8_rows_X8 tyX8 tyX8_ok nmX8 14 (by decide) lkX8_rows_37 rfl rfl rfl (Nat.le_of_ble_eq_true rfl) (pM0_14 c3 ad w_24 1) dX8_rows_46 (fun H locs hP hS => ?_)
          refine x_nmw h hP (fun w_25 h hP => ?_)
          refine lv_aload_n hx hb dX8_rows_49 rfl (lv_at hl 0 rfl) ?_
          refine lv_iconst (v := 0) hx hb dX8_rows_50 (by decide) ?_
          refine x_put (v := .int 0) X hP hS (gM0 c3 ad w_25) rfl iwX8_rows_X8 tyX8 tyX8_ok nmX8 12 (by decide) lkX8_rows_76 rfl rfl rfl (Nat.le_of_ble_eq_true rfl) (pM0_12 c3 ad w_25 0) dX8_rows_51 (fun H locs hP hS => ?_)
          refine x_nmw h hP (fun w_26 h hP => ?_)
          refine lv_iconst (v := 0) hx hb dX8_rows_54 (by decide) ?_
          refine lv_istore_n (lv' := [(3, .int 0), (0, .ref (ad 0)), (1, .int x1), (2, .int x2)]) hx hb dX8_rows_55 rfl hl (by decide) rfl (fun ls hl => ?_)
          exact bX8_rows_56 X hret x1 x2 FU 0 w_26 _ _ _ hP hS (lv_sub hl [1, 2, 3, 0] rfl) h
        · replace h := it_p c_23 h
          refine lv_bipush (v := (-4)) hx hb dX8_rows_36 (by decide) ?_
          obtain ⟨rfl, rfl⟩ := Prod.mk.inj (Option.some.inj h)
          exact hret _ _ _ _ hP hS dX8_rows_38
    · replace h := it_p c_18 h
      refine lv_iconst (v := (-1)) hx hb dX8_rows_20 (by decide) ?_
      obtain ⟨rfl, rfl⟩ := Prod.mk.inj (Option.some.inj h)
      exact hret _ _ _ _ hP hS dX8_rows_21
def fX8_rows (x1 : Int32) (x2 : Int32) (w : Mm) : Option (Int32 × Mm) := fX8_rows_E x1 x2 w
theorem ctX8_rows (l : Launch) (D : va_G) (c3 : C3) (ad : Nat → Nat) (w : Mm) (sz : Nat) (x1 : Int32) (x2 : Int32) (r : Int32) (w' : Mm) (h : fX8_rows x1 x2 w = some (r, w')) : Ci l yX8_rows wsX8_rows rmX8_rows D c3 (encM c3 ad) gM [.ref (ad 0), .int x1, .int x2] w sz r w' := by
  refine Ci.of (cc := cX8_rows) (maxL := 4) (encM_ok c3 ad) (by decide) rfl (Nat.le_of_ble_eq_true rfl) ?_
  intro p e s m below meth c A Q ls X hret hP hS hl
  exact bX8_rows_E X hret x1 x2 w _ _ ls hP hS hl h
theorem iwX8_stuck_X8 : ∀ w ∈ wsX80, w ∈ wsX8_stuck := fun _ h => List.mem_cons_of_mem _ (List.mem_append_right _ h)
theorem lkX8_stuck_170 : Cond.fieldLink RX8 170 "StuckDoorModel" "stuck" "I" ∈ wsX8_stuck := by decide +kernel
def rmX8_stuck : Room := { frames := 0, cells := 0, slots := 0, locals := 0 }
def fX8_stuck_E (w : Mm) : Option (Int32) := some (w.1 0 7)
set_option maxRecDepth 20000 in
theorem bX8_stuck_E {p : Program} {l : Launch} {e : Env} {s : State} {m : MethodId} {args : Array Value} {below : List Frame} {meth : Method} {c : Code} {Q : State → Prop} {D : va_G} {c3 : C3} {ad : Nat → Nat} {A : Nat → Prop} {r : Int32} {w : Mm} (X : Cx p s m args c cX8_stuck 1 RX8 wsX8_stuck D c3 (encM c3 ad) gM A) (hret : Ri p l e (rmX8_stuck) s m args below meth c Q cX8_stuck D (encM c3 ad) A r w) : ∀ (H : Heap) (locs : List Loc) (ls : Array Slot), va_P D vwCl ((encM c3 ad) w) H → va_S A s.heap H locs → lv_has ls 1 [(0, .ref (ad 0))] → fX8_stuck_E w = some r → W p l e (rmX8_stuck) s m args below meth c H locs 0 0 Q (F0 m 0 ls []) := by
  have hx := X.1
  have hb := X.2.1
  have hml := X.2.2.1
  have hown := X.2.2.2.1
  have hts := X.2.2.2.2.1
  intro H locs ls hP hS hl h
  unfold fX8_stuck_E at h
  refine lv_aload_n hx hb dX8_stuck_0 rfl (lv_at hl 0 rfl) ?_
  refine x_get (rest := []) X hP (gM0 c3 ad w) rfl iwX8_stuck_X8 7 (by decide) lkX8_stuck_170 rfl dX8_stuck_1 ?_
  obtain rfl := Option.some.inj h
  exact hret _ _ _ _ hP hS dX8_stuck_4
def fX8_stuck (w : Mm) : Option (Int32) := fX8_stuck_E w
theorem ctX8_stuck (l : Launch) (D : va_G) (c3 : C3) (ad : Nat → Nat) (w : Mm) (sz : Nat) (r : Int32) (h : fX8_stuck w = some r) : Ci l yX8_stuck wsX8_stuck rmX8_stuck D c3 (encM c3 ad) gM [.ref (ad 0)] w sz r w := by
  refine Ci.of (cc := cX8_stuck) (maxL := 1) (encM_ok c3 ad) (by decide) rfl (Nat.le_of_ble_eq_true rfl) ?_
  intro p e s m below meth c A Q ls X hret hP hS hl
  exact bX8_stuck_E X hret _ _ ls hP hS hl h
def rmX8_isRoom : Room := { frames := 1, cells := 0, slots := 0, locals := 25 }
def fX8_isRoom_E (x0 : Int32) : Option (Int32) := bo (fX8_in x0.toInt64 0 11) (fun r_2 => gd (r_2 = 0 ∨ r_2 = 1) (some r_2))
set_option maxRecDepth 20000 in
theorem bX8_isRoom_E {p : Program} {l : Launch} {e : Env} {s : State} {m : MethodId} {args : Array Value} {below : List Frame} {meth : Method} {c : Code} {Q : State → Prop} {D : va_G} {c3 : C3} {ad : Nat → Nat} {A : Nat → Prop} {r : Int32} {w : Mm} (X : Cx p s m args c cX8_isRoom 1 RX8 wsX8_isRoom D c3 (encM c3 ad) gM A) (hret : Rz p l e (rmX8_isRoom) s m args below meth c Q cX8_isRoom D (encM c3 ad) A r w) : ∀ (x0 : Int32) (H : Heap) (locs : List Loc) (ls : Array Slot), va_P D vwCl ((encM c3 ad) w) H → va_S A s.heap H locs → lv_has ls 1 [(0, .int x0)] → fX8_isRoom_E x0 = some r → W p l e (rmX8_isRoom) s m args below meth c H locs 0 0 Q (F0 m 0 ls []) := by
  have hx := X.1
  have hb := X.2.1
  have hml := X.2.2.1
  have hown := X.2.2.2.1
  have hts := X.2.2.2.2.1
  intro x0 H locs ls hP hS hl h
  unfold fX8_isRoom_E at h
  refine lv_iload_n hx hb dX8_isRoom_0 rfl (lv_at hl 0 rfl) ?_
  refine lv_i2l (v := x0.toInt64) hx hb dX8_isRoom_1 rfl ?_
  refine lv_lconst (v := 0) hx hb dX8_isRoom_2 (by decide) ?_
  refine lv_ldc2 (v := 11) hx hb hown (hts (.constantLong RX8 243 (11)) (by decide +kernel)) dX8_isRoom_3 ?_
  obtain ⟨r_2, e_1, h⟩ := bo_s h
  refine x_goi X hS (x_runS (As := [.long x0.toInt64, .long 0, .long 11]) (rest := []) X gM_ok hP hS (ctX8_in l D c3 ad w _ x0.toInt64 0 11 _ e_1) (va_cwS 3 hts gX8_isRoom_X8_in rfl rfl rfl (by decide +kernel) ⟨by decide, by decide⟩) rfl hl.1 rfl (Nat.le_of_ble_eq_true rfl) dX8_isRoom_6) (fun H locs hP hS => ?_)
  obtain ⟨g_4, h⟩ := gd_s h
  obtain rfl := Option.some.inj h
  exact hret g_4 _ _ _ _ hP hS dX8_isRoom_9
def fX8_isRoom (x0 : Int32) : Option (Int32) := fX8_isRoom_E x0
theorem ctX8_isRoom (l : Launch) (D : va_G) (c3 : C3) (ad : Nat → Nat) (w : Mm) (sz : Nat) (x0 : Int32) (r : Int32) (h : fX8_isRoom x0 = some r) : Ci l yX8_isRoom wsX8_isRoom rmX8_isRoom D c3 (encM c3 ad) gM [.int x0] w sz r w := by
  refine Ci.ofz (cc := cX8_isRoom) (maxL := 1) (encM_ok c3 ad) (by decide) rfl (Nat.le_of_ble_eq_true rfl) ?_
  intro p e s m below meth c A Q ls X hret hP hS hl
  exact bX8_isRoom_E X hret x0 _ _ ls hP hS hl h
def rmX8_areBeside : Room := { frames := 0, cells := 0, slots := 0, locals := 0 }
def fX8_areBeside_E (x0 : Int32) (x1 : Int32) : Option (Int32) := nm ((x0 / 4) - (x1 / 4)) (fun x2_1 => nm ((x0 - x0 / 4 * 4) - (x1 - x1 / 4 * 4)) (fun x3_2 => (if ((x2_1 * x2_1) + (x3_2 * x3_2)) = 1 then some 1 else some 0)))
set_option maxRecDepth 20000 in
theorem bX8_areBeside_E {p : Program} {l : Launch} {e : Env} {s : State} {m : MethodId} {args : Array Value} {below : List Frame} {meth : Method} {c : Code} {Q : State → Prop} {D : va_G} {c3 : C3} {ad : Nat → Nat} {A : Nat → Prop} {r : Int32} {w : Mm} (X : Cx p s m args c cX8_areBeside 4 RX8 wsX8_areBeside D c3 (encM c3 ad) gM A) (hret : Rz p l e (rmX8_areBeside) s m args below meth c Q cX8_areBeside D (encM c3 ad) A r w) : ∀ (x0 : Int32) (x1 : Int32) (H : Heap) (locs : List Loc) (ls : Array Slot), va_P D vwCl ((encM c3 ad) w) H → va_S A s.heap H locs → lv_has ls 4 [(0, .int x0), (1, .int x1)] → fX8_areBeside_E x0 x1 = some r → W p l e (rmX8_areBeside) s m args below meth c H locs 0 0 Q (F0 m 0 ls []) := by
  have hx := X.1
  have hb := X.2.1
  have hml := X.2.2.1
  have hown := X.2.2.2.1
  have hts := X.2.2.2.2.1
  intro x0 x1 H locs ls hP hS hl h
  unfold fX8_areBeside_E at h
  refine lv_iload_n hx hb dX8_areBeside_0 rfl (lv_at hl 0 rfl) ?_
  refine lv_iconst (v := 4) hx hb dX8_areBeside_1 (by decide) ?_
  refine lv_idiv hx hb dX8_areBeside_2 (by decide) ?_
  refine lv_iload_n hx hb dX8_areBeside_3 rfl (lv_at hl 1 rfl) ?_
  refine lv_iconst (v := 4) hx hb dX8_areBeside_4 (by decide) ?_
  refine lv_idiv hx hb dX8_areBeside_5 (by decide) ?_
  refine lv_isub hx hb dX8_areBeside_6 ?_
  refine x_nmi h (fun x2_1 h => ?_)
  refine lv_istore_n (lv' := [(2, .int x2_1), (0, .int x0), (1, .int x1)]) hx hb dX8_areBeside_7 rfl hl (by decide) rfl (fun ls hl => ?_)
  refine lv_iload_n hx hb dX8_areBeside_8 rfl (lv_at hl 1 rfl) ?_
  refine lv_iconst (v := 4) hx hb dX8_areBeside_9 (by decide) ?_
  refine lv_irem hx hb dX8_areBeside_10 (by decide) ?_
  refine lv_iload_n hx hb dX8_areBeside_11 rfl (lv_at hl 2 rfl) ?_
  refine lv_iconst (v := 4) hx hb dX8_areBeside_12 (by decide) ?_
  refine lv_irem hx hb dX8_areBeside_13 (by decide) ?_
  refine lv_isub hx hb dX8_areBeside_14 ?_
  refine x_nmi h (fun x3_2 h => ?_)
  refine lv_istore_n (lv' := [(3, .int x3_2), (2, .int x2_1), (0, .int x0), (1, .int x1)]) hx hb dX8_areBeside_15 rfl hl (by decide) rfl (fun ls hl => ?_)
  refine lv_iload_n hx hb dX8_areBeside_16 rfl (lv_at hl 1 rfl) ?_
  refine lv_iload_n hx hb dX8_areBeside_17 rfl (lv_at hl 1 rfl) ?_
  refine lv_imul hx hb dX8_areBeside_18 ?_
  refine lv_iload_n hx hb dX8_areBeside_19 rfl (lv_at hl 0 rfl) ?_
  refine lv_iload_n hx hb dX8_areBeside_20 rfl (lv_at hl 0 rfl) ?_
  refine lv_imul hx hb dX8_areBeside_21 ?_
  refine lv_iadd hx hb dX8_areBeside_22 ?_
  refine lv_iconst (v := 1) hx hb dX8_areBeside_23 (by decide) ?_
  refine lv_icmp_ne (tgt := 31) hx hb dX8_areBeside_24 (by decide) (fun c_3 => ?_) (fun c_3 => ?_)
  · replace h := it_n c_3 h
    refine lv_iconst (v := 0) hx hb dX8_areBeside_31 (by decide) ?_
    obtain rfl := Option.some.inj h
    exact hret (Or.inl rfl) _ _ _ _ hP hS dX8_areBeside_32
  · replace h := it_p c_3 h
    refine lv_iconst (v := 1) hx hb dX8_areBeside_27 (by decide) ?_
    refine lv_goto (tgt := 32) hx hb dX8_areBeside_28 (by decide) ?_
    obtain rfl := Option.some.inj h
    exact hret (Or.inr rfl) _ _ _ _ hP hS dX8_areBeside_32
def fX8_areBeside (x0 : Int32) (x1 : Int32) : Option (Int32) := fX8_areBeside_E x0 x1
theorem ctX8_areBeside (l : Launch) (D : va_G) (c3 : C3) (ad : Nat → Nat) (w : Mm) (sz : Nat) (x0 : Int32) (x1 : Int32) (r : Int32) (h : fX8_areBeside x0 x1 = some r) : Ci l yX8_areBeside wsX8_areBeside rmX8_areBeside D c3 (encM c3 ad) gM [.int x0, .int x1] w sz r w := by
  refine Ci.ofz (cc := cX8_areBeside) (maxL := 4) (encM_ok c3 ad) (by decide) rfl (Nat.le_of_ble_eq_true rfl) ?_
  intro p e s m below meth c A Q ls X hret hP hS hl
  exact bX8_areBeside_E X hret x0 x1 _ _ ls hP hS hl h
theorem iwX8_wayBut_X8 : ∀ w ∈ wsX80, w ∈ wsX8_wayBut := fun _ h => List.mem_cons_of_mem _ (List.mem_append_right _ h)
theorem lkX8_wayBut_50 : Cond.fieldLink RX8 50 "StuckDoorModel" "steps" "[I" ∈ wsX8_wayBut := by decide +kernel
def rmX8_wayBut : Room := { frames := 1, cells := 0, slots := 0, locals := 23 }
def fX8_wayBut_132 (k46 : Int32 → Mm → Option (Int32 × Mm)) (k56 : Int32 → Mm → Option (Int32 × Mm)) (x2 : Int32) (x3 : Int32) (x4 : Int32) (x5 : Int32) (w : Mm) : Option (Int32 × Mm) := k56 (x5 + 1) w
set_option maxRecDepth 20000 in
theorem bX8_wayBut_132 {p : Program} {l : Launch} {e : Env} {s : State} {m : MethodId} {args : Array Value} {below : List Frame} {meth : Method} {c : Code} {Q : State → Prop} {D : va_G} {c3 : C3} {ad : Nat → Nat} {A : Nat → Prop} {r : Int32} {w' : Mm} (X : Cx p s m args c cX8_wayBut 8 RX8 wsX8_wayBut D c3 (encM c3 ad) gM A) (hret : Ri p l e (rmX8_wayBut) s m args below meth c Q cX8_wayBut D (encM c3 ad) A r w') {x2 : Int32} {x3 : Int32} {x4 : Int32} {k46 : Int32 → Mm → Option (Int32 × Mm)} {k56 : Int32 → Mm → Option (Int32 × Mm)} (hk46 : ∀ (x4 : Int32) (w : Mm) (H : Heap) (locs : List Loc) (ls : Array Slot), va_P D vwCl ((encM c3 ad) w) H → va_S A s.heap H locs → lv_has ls 8 [(0, .ref (ad 0)), (2, .int x2), (3, .int x3), (4, .int x4)] → k46 x4 w = some (r, w') → W p l e (rmX8_wayBut) s m args below meth c H locs 0 0 Q (F0 m 46 ls [])) (hk56 : ∀ (x5 : Int32) (w : Mm) (H : Heap) (locs : List Loc) (ls : Array Slot), va_P D vwCl ((encM c3 ad) w) H → va_S A s.heap H locs → lv_has ls 8 [(0, .ref (ad 0)), (2, .int x2), (3, .int x3), (4, .int x4), (5, .int x5)] → k56 x5 w = some (r, w') → W p l e (rmX8_wayBut) s m args below meth c H locs 0 0 Q (F0 m 56 ls [])) : ∀ (x5 : Int32) (w : Mm) (H : Heap) (locs : List Loc) (ls : Array Slot), va_P D vwCl ((encM c3 ad) w) H → va_S A s.heap H locs → lv_has ls 8 [(0, .ref (ad 0)), (2, .int x2), (3, .int x3), (4, .int x4), (5, .int x5)] → fX8_wayBut_132 k46 k56 x2 x3 x4 x5 w = some (r, w') → W p l e (rmX8_wayBut) s m args below meth c H locs 0 0 Q (F0 m 132 ls []) := by
  have hx := X.1
  have hb := X.2.1
  have hml := X.2.2.1
  have hown := X.2.2.2.1
  have hts := X.2.2.2.2.1
  intro x5 w H locs ls hP hS hl h
  unfold fX8_wayBut_132 at h
  refine lv_iinc (v := (x5 + 1)) (lv' := [(5, .int (x5 + 1)), (0, .ref (ad 0)), (2, .int x2), (3, .int x3), (4, .int x4)]) hx hb dX8_wayBut_132 hl (k := 4) rfl rfl (by decide) rfl (fun ls hl => ?_)
  refine lv_goto (tgt := 56) hx hb dX8_wayBut_135 (by decide) ?_
  exact hk56 (x5 + 1) w _ _ _ hP hS (lv_sub hl [1, 2, 3, 4, 0] rfl) h
def fX8_wayBut_56 (k46 : Int32 → Mm → Option (Int32 × Mm)) (x2 : Int32) (x3 : Int32) (x4 : Int32) : Nat → Int32 → Mm → Option (Int32 × Mm)
  | 0, _, _ => none
  | n + 1, x5, w => (if 144 ≤ x5 then k46 (x4 + 1) w else nm (x5 / 12) (fun x6_2 => nm (x5 - x5 / 12 * 12) (fun x7_3 => gd (inb x6_2 12 = true) ((if (w.1 13 x6_2.toNatClampNeg) = x4 then gd (inb x7_3 12 = true) ((if (w.1 13 x7_3.toNatClampNeg) = (-9) then bo (fX8_areBeside x6_2 x7_3) (fun r_9 => (if r_9 = 0 then fX8_wayBut_132 k46 (fX8_wayBut_56 k46 x2 x3 x4 n) x2 x3 x4 x5 w else bo (fX8_has x3 x7_3) (fun r_13 => (if r_13 = 0 then nm (sA w 13 x7_3.toNatClampNeg (x4 + 1)) (fun w_16 => fX8_wayBut_132 k46 (fX8_wayBut_56 k46 x2 x3 x4 n) x2 x3 x4 x5 w_16) else fX8_wayBut_132 k46 (fX8_wayBut_56 k46 x2 x3 x4 n) x2 x3 x4 x5 w)))) else fX8_wayBut_132 k46 (fX8_wayBut_56 k46 x2 x3 x4 n) x2 x3 x4 x5 w)) else fX8_wayBut_132 k46 (fX8_wayBut_56 k46 x2 x3 x4 n) x2 x3 x4 x5 w)))))
set_option maxRecDepth 20000 in
theorem bX8_wayBut_56 {p : Program} {l : Launch} {e : Env} {s : State} {m : MethodId} {args : Array Value} {below : List Frame} {meth : Method} {c : Code} {Q : State → Prop} {D : va_G} {c3 : C3} {ad : Nat → Nat} {A : Nat → Prop} {r : Int32} {w' : Mm} (X : Cx p s m args c cX8_wayBut 8 RX8 wsX8_wayBut D c3 (encM c3 ad) gM A) (hret : Ri p l e (rmX8_wayBut) s m args below meth c Q cX8_wayBut D (encM c3 ad) A r w') {x2 : Int32} {x3 : Int32} {k46 : Int32 → Mm → Option (Int32 × Mm)} (hk46 : ∀ (x4 : Int32) (w : Mm) (H : Heap) (locs : List Loc) (ls : Array Slot), va_P D vwCl ((encM c3 ad) w) H → va_S A s.heap H locs → lv_has ls 8 [(0, .ref (ad 0)), (2, .int x2), (3, .int x3), (4, .int x4)] → k46 x4 w = some (r, w') → W p l e (rmX8_wayBut) s m args below meth c H locs 0 0 Q (F0 m 46 ls [])) : ∀ (x4 : Int32) (n : Nat) (x5 : Int32) (w : Mm) (H : Heap) (locs : List Loc) (ls : Array Slot), va_P D vwCl ((encM c3 ad) w) H → va_S A s.heap H locs → lv_has ls 8 [(0, .ref (ad 0)), (2, .int x2), (3, .int x3), (4, .int x4), (5, .int x5)] → fX8_wayBut_56 k46 x2 x3 x4 n x5 w = some (r, w') → W p l e (rmX8_wayBut) s m args below meth c H locs 0 0 Q (F0 m 56 ls []) := by
  have hx := X.1
  have hb := X.2.1
  have hml := X.2.2.1
  have hown := X.2.2.2.1
  have hts := X.2.2.2.2.1
  intro x4 n
  induction n with
  | zero =>
    intro x5 w H locs ls hP hS hl h
    exact absurd h (by simp [fX8_wayBut_56])
  | succ n ih =>
    intro x5 w H locs ls hP hS hl h
    rw [fX8_wayBut_56] at h
    refine lv_iload hx hb dX8_wayBut_56 (lv_at hl 4 rfl) ?_
    refine lv_sipush (v := 144) hx hb dX8_wayBut_58 (by decide) ?_
    refine lv_icmp_ge (tgt := 138) hx hb dX8_wayBut_61 (by decide) (fun c_1 => ?_) (fun c_1 => ?_)
    · replace h := it_p c_1 h
      refine lv_iinc (v := (x4 + 1)) (lv' := [(4, .int (x4 + 1)), (0, .ref (ad 0)), (2, .int x2), (3, .int x3), (5, .int x5)]) hx hb dX8_wayBut_138 hl (k := 3) rfl rfl (by decide) rfl (fun ls hl => ?_)
      refine lv_goto (tgt := 46) hx hb dX8_wayBut_141 (by decide) ?_
      exact hk46 (x4 + 1) w _ _ _ hP hS (lv_sub hl [1, 2, 3, 0] rfl) h
    · replace h := it_n c_1 h
      refine lv_iload hx hb dX8_wayBut_64 (lv_at hl 4 rfl) ?_
      refine lv_bipush (v := 12) hx hb dX8_wayBut_66 (by decide) ?_
      refine lv_idiv hx hb dX8_wayBut_68 (by decide) ?_
      refine x_nmi h (fun x6_2 h => ?_)
      refine lv_istore (lv' := [(6, .int x6_2), (0, .ref (ad 0)), (2, .int x2), (3, .int x3), (4, .int x4), (5, .int x5)]) hx hb dX8_wayBut_69 hl (by decide) rfl (fun ls hl => ?_)
      refine lv_iload hx hb dX8_wayBut_71 (lv_at hl 5 rfl) ?_
      refine lv_bipush (v := 12) hx hb dX8_wayBut_73 (by decide) ?_
      refine lv_irem hx hb dX8_wayBut_75 (by decide) ?_
      refine x_nmi h (fun x7_3 h => ?_)
      refine lv_istore (lv' := [(7, .int x7_3), (6, .int x6_2), (0, .ref (ad 0)), (2, .int x2), (3, .int x3), (4, .int x4), (5, .int x5)]) hx hb dX8_wayBut_76 hl (by decide) rfl (fun ls hl => ?_)
      refine lv_aload_n hx hb dX8_wayBut_78 rfl (lv_at hl 2 rfl) ?_
      refine x_get (rest := []) X hP (gM0 c3 ad w) rfl iwX8_wayBut_X8 25 (by decide) lkX8_wayBut_50 rfl dX8_wayBut_79 ?_
      refine lv_iload hx hb dX8_wayBut_82 (lv_at hl 1 rfl) ?_
      obtain ⟨g_4, h⟩ := gd_s h
      refine x_iald X hP (gM13 c3 ad w) g_4 dX8_wayBut_84 ?_
      refine lv_iload hx hb dX8_wayBut_85 (lv_at hl 5 rfl) ?_
      refine lv_icmp_ne (tgt := 132) hx hb dX8_wayBut_87 (by decide) (fun c_5 => ?_) (fun c_5 => ?_)
      · replace h := it_n c_5 h
        exact bX8_wayBut_132 (x2 := x2) (x3 := x3) (x4 := x4) (k46 := k46) (k56 := (fX8_wayBut_56 k46 x2 x3 x4 n)) X hret hk46 ih x5 w _ _ _ hP hS (lv_sub hl [2, 3, 4, 5, 6] rfl) h
      · replace h := it_p c_5 h
        refine lv_aload_n hx hb dX8_wayBut_90 rfl (lv_at hl 2 rfl) ?_
        refine x_get (rest := []) X hP (gM0 c3 ad w) rfl iwX8_wayBut_X8 25 (by decide) lkX8_wayBut_50 rfl dX8_wayBut_91 ?_
        refine lv_iload hx hb dX8_wayBut_94 (lv_at hl 0 rfl) ?_
        obtain ⟨g_6, h⟩ := gd_s h
        refine x_iald X hP (gM13 c3 ad w) g_6 dX8_wayBut_96 ?_
        refine lv_bipush (v := (-9)) hx hb dX8_wayBut_97 (by decide) ?_
        refine lv_icmp_ne (tgt := 132) hx hb dX8_wayBut_99 (by decide) (fun c_7 => ?_) (fun c_7 => ?_)
        · replace h := it_n c_7 h
          exact bX8_wayBut_132 (x2 := x2) (x3 := x3) (x4 := x4) (k46 := k46) (k56 := (fX8_wayBut_56 k46 x2 x3 x4 n)) X hret hk46 ih x5 w _ _ _ hP hS (lv_sub hl [2, 3, 4, 5, 6] rfl) h
        · replace h := it_p c_7 h
          refine lv_iload hx hb dX8_wayBut_102 (lv_at hl 1 rfl) ?_
          refine lv_iload hx hb dX8_wayBut_104 (lv_at hl 0 rfl) ?_
          obtain ⟨r_9, e_8, h⟩ := bo_s h
          refine x_goi X hS (x_runS (As := [.int x6_2, .int x7_3]) (rest := []) X gM_ok hP hS (ctX8_areBeside l D c3 ad w _ x6_2 x7_3 _ e_8) (va_cwS 2 hts gX8_wayBut_X8_areBeside rfl rfl rfl (by decide +kernel) ⟨by decide, by decide⟩) rfl hl.1 rfl (Nat.le_of_ble_eq_true rfl) dX8_wayBut_106) (fun H locs hP hS => ?_)
          refine lv_if_eq (tgt := 132) hx hb dX8_wayBut_109 (by decide) (fun c_11 => ?_) (fun c_11 => ?_)
          · replace h := it_p c_11 h
            exact bX8_wayBut_132 (x2 := x2) (x3 := x3) (x4 := x4) (k46 := k46) (k56 := (fX8_wayBut_56 k46 x2 x3 x4 n)) X hret hk46 ih x5 w _ _ _ hP hS (lv_sub hl [2, 3, 4, 5, 6] rfl) h
          · replace h := it_n c_11 h
            refine lv_iload_n hx hb dX8_wayBut_112 rfl (lv_at hl 4 rfl) ?_
            refine lv_iload hx hb dX8_wayBut_113 (lv_at hl 0 rfl) ?_
            obtain ⟨r_13, e_12, h⟩ := bo_s h
            refine x_goi X hS (x_runS (As := [.int x3, .int x7_3]) (rest := []) X gM_ok hP hS (ctX8_has l D c3 ad w _ x3 x7_3 _ e_12) (va_cwS 2 hts gX8_wayBut_X8_has rfl rfl rfl (by decide +kernel) ⟨by decide, by decide⟩) rfl hl.1 rfl (Nat.le_of_ble_eq_true rfl) dX8_wayBut_115) (fun H locs hP hS => ?_)
            refine lv_if_ne (tgt := 132) hx hb dX8_wayBut_118 (by decide) (fun c_15 => ?_) (fun c_15 => ?_)
            · replace h := it_n c_15 h
              exact bX8_wayBut_132 (x2 := x2) (x3 := x3) (x4 := x4) (k46 := k46) (k56 := (fX8_wayBut_56 k46 x2 x3 x4 n)) X hret hk46 ih x5 w _ _ _ hP hS (lv_sub hl [2, 3, 4, 5, 6] rfl) h
            · replace h := it_p c_15 h
              refine lv_aload_n hx hb dX8_wayBut_121 rfl (lv_at hl 2 rfl) ?_
              refine x_get (rest := []) X hP (gM0 c3 ad w) rfl iwX8_wayBut_X8 25 (by decide) lkX8_wayBut_50 rfl dX8_wayBut_122 ?_
              refine lv_iload hx hb dX8_wayBut_125 (lv_at hl 0 rfl) ?_
              refine lv_iload hx hb dX8_wayBut_127 (lv_at hl 5 rfl) ?_
              refine lv_iconst (v := 1) hx hb dX8_wayBut_129 (by decide) ?_
              refine lv_iadd hx hb dX8_wayBut_130 ?_
              refine x_iast X hP hS (gM13 c3 ad w) (sM13 c3 ad w _ _) g_6 dX8_wayBut_131 (fun H locs hP hS => ?_)
              refine x_nmw h hP (fun w_16 h hP => ?_)
              exact bX8_wayBut_132 (x2 := x2) (x3 := x3) (x4 := x4) (k46 := k46) (k56 := (fX8_wayBut_56 k46 x2 x3 x4 n)) X hret hk46 ih x5 w_16 _ _ _ hP hS (lv_sub hl [2, 3, 4, 5, 6] rfl) h
def fX8_wayBut_46 (x2 : Int32) (x3 : Int32) : Nat → Int32 → Mm → Option (Int32 × Mm)
  | 0, _, _ => none
  | n + 1, x4, w => (if 12 ≤ x4 then gd (inb x2 12 = true) (some ((w.1 13 x2.toNatClampNeg), w)) else fX8_wayBut_56 (fX8_wayBut_46 x2 x3 n) x2 x3 x4 FU 0 w)
set_option maxRecDepth 20000 in
theorem bX8_wayBut_46 {p : Program} {l : Launch} {e : Env} {s : State} {m : MethodId} {args : Array Value} {below : List Frame} {meth : Method} {c : Code} {Q : State → Prop} {D : va_G} {c3 : C3} {ad : Nat → Nat} {A : Nat → Prop} {r : Int32} {w' : Mm} (X : Cx p s m args c cX8_wayBut 8 RX8 wsX8_wayBut D c3 (encM c3 ad) gM A) (hret : Ri p l e (rmX8_wayBut) s m args below meth c Q cX8_wayBut D (encM c3 ad) A r w') : ∀ (x2 : Int32) (x3 : Int32) (n : Nat) (x4 : Int32) (w : Mm) (H : Heap) (locs : List Loc) (ls : Array Slot), va_P D vwCl ((encM c3 ad) w) H → va_S A s.heap H locs → lv_has ls 8 [(0, .ref (ad 0)), (2, .int x2), (3, .int x3), (4, .int x4)] → fX8_wayBut_46 x2 x3 n x4 w = some (r, w') → W p l e (rmX8_wayBut) s m args below meth c H locs 0 0 Q (F0 m 46 ls []) := by
  have hx := X.1
  have hb := X.2.1
  have hml := X.2.2.1
  have hown := X.2.2.2.1
  have hts := X.2.2.2.2.1
  intro x2 x3 n
  induction n with
  | zero =>
    intro x4 w H locs ls hP hS hl h
    exact absurd h (by simp [fX8_wayBut_46])
  | succ n ih =>
    intro x4 w H locs ls hP hS hl h
    rw [fX8_wayBut_46] at h
    refine lv_iload hx hb dX8_wayBut_46 (lv_at hl 3 rfl) ?_
    refine lv_bipush (v := 12) hx hb dX8_wayBut_48 (by decide) ?_
    refine lv_icmp_ge (tgt := 144) hx hb dX8_wayBut_50 (by decide) (fun c_17 => ?_) (fun c_17 => ?_)
    · replace h := it_p c_17 h
      refine lv_aload_n hx hb dX8_wayBut_144 rfl (lv_at hl 0 rfl) ?_
      refine x_get (rest := []) X hP (gM0 c3 ad w) rfl iwX8_wayBut_X8 25 (by decide) lkX8_wayBut_50 rfl dX8_wayBut_145 ?_
      refine lv_iload_n hx hb dX8_wayBut_148 rfl (lv_at hl 1 rfl) ?_
      obtain ⟨g_18, h⟩ := gd_s h
      refine x_iald X hP (gM13 c3 ad w) g_18 dX8_wayBut_149 ?_
      obtain ⟨rfl, rfl⟩ := Prod.mk.inj (Option.some.inj h)
      exact hret _ _ _ _ hP hS dX8_wayBut_150
    · replace h := it_n c_17 h
      refine lv_iconst (v := 0) hx hb dX8_wayBut_53 (by decide) ?_
      refine lv_istore (lv' := [(5, .int 0), (0, .ref (ad 0)), (2, .int x2), (3, .int x3), (4, .int x4)]) hx hb dX8_wayBut_54 hl (by decide) rfl (fun ls hl => ?_)
      exact bX8_wayBut_56 (x2 := x2) (x3 := x3) (k46 := (fX8_wayBut_46 x2 x3 n)) X hret ih x4 FU 0 w _ _ _ hP hS (lv_sub hl [1, 2, 3, 4, 0] rfl) h
def fX8_wayBut_36 (k3 : Int32 → Mm → Option (Int32 × Mm)) (x1 : Int32) (x2 : Int32) (x3 : Int32) (x4 : Int32) (z0 : Int32) (z1 : Int32) (w : Mm) : Option (Int32 × Mm) := gd (inb z1 12 = true) (nm (sA w 13 z1.toNatClampNeg z0) (fun w_20 => k3 (x4 + 1) w_20))
set_option maxRecDepth 20000 in
theorem bX8_wayBut_36 {p : Program} {l : Launch} {e : Env} {s : State} {m : MethodId} {args : Array Value} {below : List Frame} {meth : Method} {c : Code} {Q : State → Prop} {D : va_G} {c3 : C3} {ad : Nat → Nat} {A : Nat → Prop} {r : Int32} {w' : Mm} (X : Cx p s m args c cX8_wayBut 8 RX8 wsX8_wayBut D c3 (encM c3 ad) gM A) (hret : Ri p l e (rmX8_wayBut) s m args below meth c Q cX8_wayBut D (encM c3 ad) A r w') {x1 : Int32} {x2 : Int32} {x3 : Int32} {k3 : Int32 → Mm → Option (Int32 × Mm)} (hk3 : ∀ (x4 : Int32) (w : Mm) (H : Heap) (locs : List Loc) (ls : Array Slot), va_P D vwCl ((encM c3 ad) w) H → va_S A s.heap H locs → lv_has ls 8 [(0, .ref (ad 0)), (1, .int x1), (2, .int x2), (3, .int x3), (4, .int x4)] → k3 x4 w = some (r, w') → W p l e (rmX8_wayBut) s m args below meth c H locs 0 0 Q (F0 m 3 ls [])) : ∀ (x4 : Int32) (z0 : Int32) (z1 : Int32) (w : Mm) (H : Heap) (locs : List Loc) (ls : Array Slot), va_P D vwCl ((encM c3 ad) w) H → va_S A s.heap H locs → lv_has ls 8 [(0, .ref (ad 0)), (1, .int x1), (2, .int x2), (3, .int x3), (4, .int x4)] → fX8_wayBut_36 k3 x1 x2 x3 x4 z0 z1 w = some (r, w') → W p l e (rmX8_wayBut) s m args below meth c H locs 0 0 Q (F0 m 36 ls [.int z0, .int z1, .ref (ad 13)]) := by
  have hx := X.1
  have hb := X.2.1
  have hml := X.2.2.1
  have hown := X.2.2.2.1
  have hts := X.2.2.2.2.1
  intro x4 z0 z1 w H locs ls hP hS hl h
  unfold fX8_wayBut_36 at h
  obtain ⟨g_19, h⟩ := gd_s h
  refine x_iast X hP hS (gM13 c3 ad w) (sM13 c3 ad w _ _) g_19 dX8_wayBut_36 (fun H locs hP hS => ?_)
  refine x_nmw h hP (fun w_20 h hP => ?_)
  refine lv_iinc (v := (x4 + 1)) (lv' := [(4, .int (x4 + 1)), (0, .ref (ad 0)), (1, .int x1), (2, .int x2), (3, .int x3)]) hx hb dX8_wayBut_37 hl (k := 4) rfl rfl (by decide) rfl (fun ls hl => ?_)
  refine lv_goto (tgt := 3) hx hb dX8_wayBut_40 (by decide) ?_
  exact hk3 (x4 + 1) w_20 _ _ _ hP hS (lv_sub hl [1, 2, 3, 4, 0] rfl) h
def fX8_wayBut_34 (k3 : Int32 → Mm → Option (Int32 × Mm)) (x1 : Int32) (x2 : Int32) (x3 : Int32) (x4 : Int32) (z0 : Int32) (w : Mm) : Option (Int32 × Mm) := fX8_wayBut_36 k3 x1 x2 x3 x4 (-9) z0 w
set_option maxRecDepth 20000 in
theorem bX8_wayBut_34 {p : Program} {l : Launch} {e : Env} {s : State} {m : MethodId} {args : Array Value} {below : List Frame} {meth : Method} {c : Code} {Q : State → Prop} {D : va_G} {c3 : C3} {ad : Nat → Nat} {A : Nat → Prop} {r : Int32} {w' : Mm} (X : Cx p s m args c cX8_wayBut 8 RX8 wsX8_wayBut D c3 (encM c3 ad) gM A) (hret : Ri p l e (rmX8_wayBut) s m args below meth c Q cX8_wayBut D (encM c3 ad) A r w') {x1 : Int32} {x2 : Int32} {x3 : Int32} {k3 : Int32 → Mm → Option (Int32 × Mm)} (hk3 : ∀ (x4 : Int32) (w : Mm) (H : Heap) (locs : List Loc) (ls : Array Slot), va_P D vwCl ((encM c3 ad) w) H → va_S A s.heap H locs → lv_has ls 8 [(0, .ref (ad 0)), (1, .int x1), (2, .int x2), (3, .int x3), (4, .int x4)] → k3 x4 w = some (r, w') → W p l e (rmX8_wayBut) s m args below meth c H locs 0 0 Q (F0 m 3 ls [])) : ∀ (x4 : Int32) (z0 : Int32) (w : Mm) (H : Heap) (locs : List Loc) (ls : Array Slot), va_P D vwCl ((encM c3 ad) w) H → va_S A s.heap H locs → lv_has ls 8 [(0, .ref (ad 0)), (1, .int x1), (2, .int x2), (3, .int x3), (4, .int x4)] → fX8_wayBut_34 k3 x1 x2 x3 x4 z0 w = some (r, w') → W p l e (rmX8_wayBut) s m args below meth c H locs 0 0 Q (F0 m 34 ls [.int z0, .ref (ad 13)]) := by
  have hx := X.1
  have hb := X.2.1
  have hml := X.2.2.1
  have hown := X.2.2.2.1
  have hts := X.2.2.2.2.1
  intro x4 z0 w H locs ls hP hS hl h
  unfold fX8_wayBut_34 at h
  refine lv_bipush (v := (-9)) hx hb dX8_wayBut_34 (by decide) ?_
  exact bX8_wayBut_36 (x1 := x1) (x2 := x2) (x3 := x3) (k3 := k3) X hret hk3 x4 (-9) z0 w _ _ _ hP hS (lv_sub hl [0, 1, 2, 3, 4] rfl) h
def fX8_wayBut_3 (x1 : Int32) (x2 : Int32) (x3 : Int32) : Nat → Int32 → Mm → Option (Int32 × Mm)
  | 0, _, _ => none
  | n + 1, x4, w => (if 12 ≤ x4 then fX8_wayBut_46 x2 x3 FU 0 w else (if x4 = x1 then bo (fX8_has x3 x1) (fun r_24 => (if r_24 = 0 then fX8_wayBut_36 (fX8_wayBut_3 x1 x2 x3 n) x1 x2 x3 x4 0 x4 w else fX8_wayBut_34 (fX8_wayBut_3 x1 x2 x3 n) x1 x2 x3 x4 x4 w)) else fX8_wayBut_34 (fX8_wayBut_3 x1 x2 x3 n) x1 x2 x3 x4 x4 w))
set_option maxRecDepth 20000 in
theorem bX8_wayBut_3 {p : Program} {l : Launch} {e : Env} {s : State} {m : MethodId} {args : Array Value} {below : List Frame} {meth : Method} {c : Code} {Q : State → Prop} {D : va_G} {c3 : C3} {ad : Nat → Nat} {A : Nat → Prop} {r : Int32} {w' : Mm} (X : Cx p s m args c cX8_wayBut 8 RX8 wsX8_wayBut D c3 (encM c3 ad) gM A) (hret : Ri p l e (rmX8_wayBut) s m args below meth c Q cX8_wayBut D (encM c3 ad) A r w') : ∀ (x1 : Int32) (x2 : Int32) (x3 : Int32) (n : Nat) (x4 : Int32) (w : Mm) (H : Heap) (locs : List Loc) (ls : Array Slot), va_P D vwCl ((encM c3 ad) w) H → va_S A s.heap H locs → lv_has ls 8 [(0, .ref (ad 0)), (1, .int x1), (2, .int x2), (3, .int x3), (4, .int x4)] → fX8_wayBut_3 x1 x2 x3 n x4 w = some (r, w') → W p l e (rmX8_wayBut) s m args below meth c H locs 0 0 Q (F0 m 3 ls []) := by
  have hx := X.1
  have hb := X.2.1
  have hml := X.2.2.1
  have hown := X.2.2.2.1
  have hts := X.2.2.2.2.1
  intro x1 x2 x3 n
  induction n with
  | zero =>
    intro x4 w H locs ls hP hS hl h
    exact absurd h (by simp [fX8_wayBut_3])
  | succ n ih =>
    intro x4 w H locs ls hP hS hl h
    rw [fX8_wayBut_3] at h
    refine lv_iload hx hb dX8_wayBut_3 (lv_at hl 4 rfl) ?_
    refine lv_bipush (v := 12) hx hb dX8_wayBut_5 (by decide) ?_
    refine lv_icmp_ge (tgt := 43) hx hb dX8_wayBut_7 (by decide) (fun c_21 => ?_) (fun c_21 => ?_)
    · replace h := it_p c_21 h
      refine lv_iconst (v := 0) hx hb dX8_wayBut_43 (by decide) ?_
      refine lv_istore (lv' := [(4, .int 0), (0, .ref (ad 0)), (1, .int x1), (2, .int x2), (3, .int x3)]) hx hb dX8_wayBut_44 hl (by decide) rfl (fun ls hl => ?_)
      exact bX8_wayBut_46 X hret x2 x3 FU 0 w _ _ _ hP hS (lv_sub hl [1, 3, 4, 0] rfl) h
    · replace h := it_n c_21 h
      refine lv_aload_n hx hb dX8_wayBut_10 rfl (lv_at hl 0 rfl) ?_
      refine x_get (rest := []) X hP (gM0 c3 ad w) rfl iwX8_wayBut_X8 25 (by decide) lkX8_wayBut_50 rfl dX8_wayBut_11 ?_
      refine lv_iload hx hb dX8_wayBut_14 (lv_at hl 4 rfl) ?_
      refine lv_iload hx hb dX8_wayBut_16 (lv_at hl 4 rfl) ?_
      refine lv_iload_n hx hb dX8_wayBut_18 rfl (lv_at hl 1 rfl) ?_
      refine lv_icmp_ne (tgt := 34) hx hb dX8_wayBut_19 (by decide) (fun c_22 => ?_) (fun c_22 => ?_)
      · replace h := it_n c_22 h
        exact bX8_wayBut_34 (x1 := x1) (x2 := x2) (x3 := x3) (k3 := (fX8_wayBut_3 x1 x2 x3 n)) X hret ih x4 x4 w _ _ _ hP hS (lv_sub hl [0, 1, 2, 3, 4] rfl) h
      · replace h := it_p c_22 h
        refine lv_iload_n hx hb dX8_wayBut_22 rfl (lv_at hl 3 rfl) ?_
        refine lv_iload_n hx hb dX8_wayBut_23 rfl (lv_at hl 1 rfl) ?_
        obtain ⟨r_24, e_23, h⟩ := bo_s h
        refine x_goi X hS (x_runS (As := [.int x3, .int x1]) (rest := [.int x4, .ref (ad 13)]) X gM_ok hP hS (ctX8_has l D c3 ad w _ x3 x1 _ e_23) (va_cwS 2 hts gX8_wayBut_X8_has rfl rfl rfl (by decide +kernel) ⟨by decide, by decide⟩) rfl hl.1 rfl (Nat.le_of_ble_eq_true rfl) dX8_wayBut_24) (fun H locs hP hS => ?_)
        refine lv_if_ne (tgt := 34) hx hb dX8_wayBut_27 (by decide) (fun c_26 => ?_) (fun c_26 => ?_)
        · replace h := it_n c_26 h
          exact bX8_wayBut_34 (x1 := x1) (x2 := x2) (x3 := x3) (k3 := (fX8_wayBut_3 x1 x2 x3 n)) X hret ih x4 x4 w _ _ _ hP hS (lv_sub hl [0, 1, 2, 3, 4] rfl) h
        · replace h := it_p c_26 h
          refine lv_iconst (v := 0) hx hb dX8_wayBut_30 (by decide) ?_
          refine lv_goto (tgt := 36) hx hb dX8_wayBut_31 (by decide) ?_
          exact bX8_wayBut_36 (x1 := x1) (x2 := x2) (x3 := x3) (k3 := (fX8_wayBut_3 x1 x2 x3 n)) X hret ih x4 0 x4 w _ _ _ hP hS (lv_sub hl [0, 1, 2, 3, 4] rfl) h
def fX8_wayBut_E (x1 : Int32) (x2 : Int32) (x3 : Int32) (w : Mm) : Option (Int32 × Mm) := fX8_wayBut_3 x1 x2 x3 FU 0 w
set_option maxRecDepth 20000 in
theorem bX8_wayBut_E {p : Program} {l : Launch} {e : Env} {s : State} {m : MethodId} {args : Array Value} {below : List Frame} {meth : Method} {c : Code} {Q : State → Prop} {D : va_G} {c3 : C3} {ad : Nat → Nat} {A : Nat → Prop} {r : Int32} {w' : Mm} (X : Cx p s m args c cX8_wayBut 8 RX8 wsX8_wayBut D c3 (encM c3 ad) gM A) (hret : Ri p l e (rmX8_wayBut) s m args below meth c Q cX8_wayBut D (encM c3 ad) A r w') : ∀ (x1 : Int32) (x2 : Int32) (x3 : Int32) (w : Mm) (H : Heap) (locs : List Loc) (ls : Array Slot), va_P D vwCl ((encM c3 ad) w) H → va_S A s.heap H locs → lv_has ls 8 [(0, .ref (ad 0)), (1, .int x1), (2, .int x2), (3, .int x3)] → fX8_wayBut_E x1 x2 x3 w = some (r, w') → W p l e (rmX8_wayBut) s m args below meth c H locs 0 0 Q (F0 m 0 ls []) := by
  have hx := X.1
  have hb := X.2.1
  have hml := X.2.2.1
  have hown := X.2.2.2.1
  have hts := X.2.2.2.2.1
  intro x1 x2 x3 w H locs ls hP hS hl h
  unfold fX8_wayBut_E at h
  refine lv_iconst (v := 0) hx hb dX8_wayBut_0 (by decide) ?_
  refine lv_istore (lv' := [(4, .int 0), (0, .ref (ad 0)), (1, .int x1), (2, .int x2), (3, .int x3)]) hx hb dX8_wayBut_1 hl (by decide) rfl (fun ls hl => ?_)
  exact bX8_wayBut_3 X hret x1 x2 x3 FU 0 w _ _ _ hP hS (lv_sub hl [1, 2, 3, 4, 0] rfl) h
def fX8_wayBut (x1 : Int32) (x2 : Int32) (x3 : Int32) (w : Mm) : Option (Int32 × Mm) := fX8_wayBut_E x1 x2 x3 w
theorem ctX8_wayBut (l : Launch) (D : va_G) (c3 : C3) (ad : Nat → Nat) (w : Mm) (sz : Nat) (x1 : Int32) (x2 : Int32) (x3 : Int32) (r : Int32) (w' : Mm) (h : fX8_wayBut x1 x2 x3 w = some (r, w')) : Ci l yX8_wayBut wsX8_wayBut rmX8_wayBut D c3 (encM c3 ad) gM [.ref (ad 0), .int x1, .int x2, .int x3] w sz r w' := by
  refine Ci.of (cc := cX8_wayBut) (maxL := 8) (encM_ok c3 ad) (by decide) rfl (Nat.le_of_ble_eq_true rfl) ?_
  intro p e s m below meth c A Q ls X hret hP hS hl
  exact bX8_wayBut_E X hret x1 x2 x3 w _ _ ls hP hS hl h
theorem iwX8_way_X8 : ∀ w ∈ wsX80, w ∈ wsX8_way := fun _ h => List.mem_cons_of_mem _ (List.mem_append_right _ h)
theorem lkX8_way_170 : Cond.fieldLink RX8 170 "StuckDoorModel" "stuck" "I" ∈ wsX8_way := by decide +kernel
def rmX8_way : Room := { frames := 2, cells := 0, slots := 0, locals := 50 }
def fX8_way_E (x1 : Int32) (x2 : Int32) (w : Mm) : Option (Int32 × Mm) := bo (fX8_isRoom x1) (fun r_2 => (if r_2 = 0 then some ((-1), w) else bo (fX8_isRoom x2) (fun r_6 => (if r_6 = 0 then some ((-1), w) else bd (fX8_wayBut x1 x2 (w.1 0 7) w) (fun r_10 w_11 => some (r_10, w_11))))))
set_option maxRecDepth 20000 in
theorem bX8_way_E {p : Program} {l : Launch} {e : Env} {s : State} {m : MethodId} {args : Array Value} {below : List Frame} {meth : Method} {c : Code} {Q : State → Prop} {D : va_G} {c3 : C3} {ad : Nat → Nat} {A : Nat → Prop} {r : Int32} {w' : Mm} (X : Cx p s m args c cX8_way 3 RX8 wsX8_way D c3 (encM c3 ad) gM A) (hret : Ri p l e (rmX8_way) s m args below meth c Q cX8_way D (encM c3 ad) A r w') : ∀ (x1 : Int32) (x2 : Int32) (w : Mm) (H : Heap) (locs : List Loc) (ls : Array Slot), va_P D vwCl ((encM c3 ad) w) H → va_S A s.heap H locs → lv_has ls 3 [(0, .ref (ad 0)), (1, .int x1), (2, .int x2)] → fX8_way_E x1 x2 w = some (r, w') → W p l e (rmX8_way) s m args below meth c H locs 0 0 Q (F0 m 0 ls []) := by
  have hx := X.1
  have hb := X.2.1
  have hml := X.2.2.1
  have hown := X.2.2.2.1
  have hts := X.2.2.2.2.1
  intro x1 x2 w H locs ls hP hS hl h
  unfold fX8_way_E at h
  refine lv_iload_n hx hb dX8_way_0 rfl (lv_at hl 1 rfl) ?_
  obtain ⟨r_2, e_1, h⟩ := bo_s h
  refine x_goi X hS (x_runS (As := [.int x1]) (rest := []) X gM_ok hP hS (ctX8_isRoom l D c3 ad w _ x1 _ e_1) (va_cwS 1 hts gX8_way_X8_isRoom rfl rfl rfl (by decide +kernel) ⟨by decide, by decide⟩) rfl hl.1 rfl (Nat.le_of_ble_eq_true rfl) dX8_way_1) (fun H locs hP hS => ?_)
  refine lv_if_eq (tgt := 27) hx hb dX8_way_4 (by decide) (fun c_4 => ?_) (fun c_4 => ?_)
  · replace h := it_p c_4 h
    refine lv_iconst (v := (-1)) hx hb dX8_way_27 (by decide) ?_
    obtain ⟨rfl, rfl⟩ := Prod.mk.inj (Option.some.inj h)
    exact hret _ _ _ _ hP hS dX8_way_28
  · replace h := it_n c_4 h
    refine lv_iload_n hx hb dX8_way_7 rfl (lv_at hl 2 rfl) ?_
    obtain ⟨r_6, e_5, h⟩ := bo_s h
    refine x_goi X hS (x_runS (As := [.int x2]) (rest := []) X gM_ok hP hS (ctX8_isRoom l D c3 ad w _ x2 _ e_5) (va_cwS 1 hts gX8_way_X8_isRoom rfl rfl rfl (by decide +kernel) ⟨by decide, by decide⟩) rfl hl.1 rfl (Nat.le_of_ble_eq_true rfl) dX8_way_8) (fun H locs hP hS => ?_)
    refine lv_if_eq (tgt := 27) hx hb dX8_way_11 (by decide) (fun c_8 => ?_) (fun c_8 => ?_)
    · replace h := it_p c_8 h
      refine lv_iconst (v := (-1)) hx hb dX8_way_27 (by decide) ?_
      obtain ⟨rfl, rfl⟩ := Prod.mk.inj (Option.some.inj h)
      exact hret _ _ _ _ hP hS dX8_way_28
    · replace h := it_n c_8 h
      refine lv_aload_n hx hb dX8_way_14 rfl (lv_at hl 0 rfl) ?_
      refine lv_iload_n hx hb dX8_way_15 rfl (lv_at hl 1 rfl) ?_
      refine lv_iload_n hx hb dX8_way_16 rfl (lv_at hl 2 rfl) ?_
      refine lv_aload_n hx hb dX8_way_17 rfl (lv_at hl 0 rfl) ?_
      refine x_get (rest := [.int x2, .int x1, .ref (ad 0)]) X hP (gM0 c3 ad w) rfl iwX8_way_X8 7 (by decide) lkX8_way_170 rfl dX8_way_18 ?_
      obtain ⟨r_10, w_11, e_9, h⟩ := bd_s h
      refine x_goi X hS (x_runV (As := [.int x1, .int x2, .int (w.1 0 7)]) (rest := []) X gM_ok hP hS (ctX8_wayBut l D c3 ad w _ x1 x2 (w.1 0 7) _ _ e_9) (cwV 3 hts gX8_way_X8_wayBut rfl rfl rfl (by decide +kernel) ⟨by decide, by decide⟩) (gM0 c3 ad w) rfl rfl rfl hl.1 rfl (Nat.le_of_ble_eq_true rfl) dX8_way_21) (fun H locs hP hS => ?_)
      refine lv_goto (tgt := 28) hx hb dX8_way_24 (by decide) ?_
      obtain ⟨rfl, rfl⟩ := Prod.mk.inj (Option.some.inj h)
      exact hret _ _ _ _ hP hS dX8_way_28
def fX8_way (x1 : Int32) (x2 : Int32) (w : Mm) : Option (Int32 × Mm) := fX8_way_E x1 x2 w
theorem ctX8_way (l : Launch) (D : va_G) (c3 : C3) (ad : Nat → Nat) (w : Mm) (sz : Nat) (x1 : Int32) (x2 : Int32) (r : Int32) (w' : Mm) (h : fX8_way x1 x2 w = some (r, w')) : Ci l yX8_way wsX8_way rmX8_way D c3 (encM c3 ad) gM [.ref (ad 0), .int x1, .int x2] w sz r w' := by
  refine Ci.of (cc := cX8_way) (maxL := 3) (encM_ok c3 ad) (by decide) rfl (Nat.le_of_ble_eq_true rfl) ?_
  intro p e s m below meth c A Q ls X hret hP hS hl
  exact bX8_way_E X hret x1 x2 w _ _ ls hP hS hl h

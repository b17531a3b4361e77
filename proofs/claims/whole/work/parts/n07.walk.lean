theorem iwX7_settle_X5 : ∀ w ∈ wsX50, w ∈ wsX7_settle := fun _ h => List.mem_cons_of_mem _ (List.mem_append_left _ (List.mem_append_left _ (List.mem_append_right _ h)))
theorem iwX7_settle_X6 : ∀ w ∈ wsX60, w ∈ wsX7_settle := fun _ h => List.mem_cons_of_mem _ (List.mem_append_left _ (List.mem_append_right _ h))
theorem iwX7_settle_X7 : ∀ w ∈ wsX70, w ∈ wsX7_settle := fun _ h => List.mem_cons_of_mem _ (List.mem_append_left _ (List.mem_append_left _ (List.mem_append_left _ (List.mem_append_right _ h))))
theorem lkX7_settle_14 : Cond.fieldLink RX7 14 "StuckDoor" "ints" "LStuckDoor$Rows;" ∈ wsX7_settle := by decide +kernel
theorem lkX7_settle_27 : Cond.fieldLink RX7 27 "StuckDoor" "family" "LStuckDoor$Family;" ∈ wsX7_settle := by decide +kernel
theorem lkX7_settle_41 : Cond.fieldLink RX7 41 "StuckDoor" "turns" "LStuckDoor$Turns;" ∈ wsX7_settle := by decide +kernel
theorem lkX7_settle_86 : Cond.fieldLink RX7 86 "StuckDoor$Rows" "places" "[[I" ∈ wsX7_settle := by decide +kernel
theorem lkX7_settle_203 : Cond.fieldLink RX7 203 "StuckDoor$Turns" "trial" "[I" ∈ wsX7_settle := by decide +kernel
def rmX7_settle : Room := { frames := 52, cells := 0, slots := 0, locals := 1143 }
def fX7_settle_129 (k83 : Int32 → Mm → Option (Int32 × Mm)) (x2 : Int32) (x3 : Int32) (x4 : Int32) (z0 : Int32) (z1 : Int32) (p2 : Nat) (w : Mm) : Option (Int32 × Mm) := gd (4 ≤ p2 ∧ p2 < 10) (gd (inb z1 40 = true) (nm (sA w p2 z1.toNatClampNeg z0) (fun w_3 => k83 (x4 + 1) w_3)))
set_option maxRecDepth 20000 in
theorem bX7_settle_129 {p : Program} {l : Launch} {e : Env} {s : State} {m : MethodId} {args : Array Value} {below : List Frame} {meth : Method} {c : Code} {Q : State → Prop} {D : va_G} {c3 : C3} {ad : Nat → Nat} {A : Nat → Prop} {r : Int32} {w' : Mm} (X : Cx p s m args c cX7_settle 5 RX7 wsX7_settle D c3 (encC c3 ad) gC A) (hret : Ri p l e (rmX7_settle) s m args below meth c Q cX7_settle D (encC c3 ad) A r w') {x2 : Int32} {x3 : Int32} {k83 : Int32 → Mm → Option (Int32 × Mm)} (hk83 : ∀ (x4 : Int32) (w : Mm) (H : Heap) (locs : List Loc) (ls : Array Slot), va_P D vwCl ((encC c3 ad) w) H → va_S A s.heap H locs → lv_has ls 5 [(0, .ref (ad 0)), (2, .int x2), (3, .int x3), (4, .int x4)] → k83 x4 w = some (r, w') → W p l e (rmX7_settle) s m args below meth c H locs 0 0 Q (F0 m 83 ls [])) : ∀ (x4 : Int32) (z0 : Int32) (z1 : Int32) (p2 : Nat) (w : Mm) (H : Heap) (locs : List Loc) (ls : Array Slot), va_P D vwCl ((encC c3 ad) w) H → va_S A s.heap H locs → lv_has ls 5 [(0, .ref (ad 0)), (2, .int x2), (3, .int x3), (4, .int x4)] → fX7_settle_129 k83 x2 x3 x4 z0 z1 p2 w = some (r, w') → W p l e (rmX7_settle) s m args below meth c H locs 0 0 Q (F0 m 129 ls [.int z0, .int z1, .ref (ad p2)]) := by
  have hx := X.1
  have hb := X.2.1
  have hml := X.2.2.1
  have hown := X.2.2.2.1
  have hts := X.2.2.2.2.1
  intro x4 z0 z1 p2 w H locs ls hP hS hl h
  unfold fX7_settle_129 at h
  obtain ⟨g_1, h⟩ := gd_s h
  obtain ⟨g_2, h⟩ := gd_s h
  refine x_iast X hP hS (gCrI c3 ad w g_1) (sCrI c3 ad w g_1 _ _) g_2 dX7_settle_129 (fun H locs hP hS => ?_)
  refine x_nmw h hP (fun w_3 h hP => ?_)
  refine lv_iinc (v := (x4 + 1)) (lv' := [(4, .int (x4 + 1)), (0, .ref (ad 0)), (2, .int x2), (3, .int x3)]) hx hb dX7_settle_130 hl (k := 3) rfl rfl (by decide) rfl (fun ls hl => ?_)
  refine lv_goto (tgt := 83) hx hb dX7_settle_133 (by decide) ?_
  exact hk83 (x4 + 1) w_3 _ _ _ hP hS (lv_sub hl [1, 2, 3, 0] rfl) h
def fX7_settle_83 (x2 : Int32) (x3 : Int32) : Nat → Int32 → Mm → Option (Int32 × Mm)
  | 0, _, _ => none
  | n + 1, x4, w => (if x3 ≤ x4 then some (x3, w) else gd (inb x2 6 = true) (gd (inb x4 5 = true) ((if (w.1 40 x4.toNatClampNeg) = (-1) then fX7_settle_129 (fX7_settle_83 x2 x3 n) x2 x3 x4 (-9) x4 (4 + x2.toNatClampNeg) w else fX7_settle_129 (fX7_settle_83 x2 x3 n) x2 x3 x4 (w.1 40 x4.toNatClampNeg) x4 (4 + x2.toNatClampNeg) w))))
set_option maxRecDepth 20000 in
theorem bX7_settle_83 {p : Program} {l : Launch} {e : Env} {s : State} {m : MethodId} {args : Array Value} {below : List Frame} {meth : Method} {c : Code} {Q : State → Prop} {D : va_G} {c3 : C3} {ad : Nat → Nat} {A : Nat → Prop} {r : Int32} {w' : Mm} (X : Cx p s m args c cX7_settle 5 RX7 wsX7_settle D c3 (encC c3 ad) gC A) (hret : Ri p l e (rmX7_settle) s m args below meth c Q cX7_settle D (encC c3 ad) A r w') : ∀ (x2 : Int32) (x3 : Int32) (n : Nat) (x4 : Int32) (w : Mm) (H : Heap) (locs : List Loc) (ls : Array Slot), va_P D vwCl ((encC c3 ad) w) H → va_S A s.heap H locs → lv_has ls 5 [(0, .ref (ad 0)), (2, .int x2), (3, .int x3), (4, .int x4)] → fX7_settle_83 x2 x3 n x4 w = some (r, w') → W p l e (rmX7_settle) s m args below meth c H locs 0 0 Q (F0 m 83 ls []) := by
  have hx := X.1
  have hb := X.2.1
  have hml := X.2.2.1
  have hown := X.2.2.2.1
  have hts := X.2.2.2.2.1
  intro x2 x3 n
  induction n with
  | zero =>
    intro x4 w H locs ls hP hS hl h
    exact absurd h (by simp [fX7_settle_83])
  | succ n ih =>
    intro x4 w H locs ls hP hS hl h
    rw [fX7_settle_83] at h
    refine lv_iload hx hb dX7_settle_83 (lv_at hl 3 rfl) ?_
    refine lv_iload_n hx hb dX7_settle_85 rfl (lv_at hl 2 rfl) ?_
    refine lv_icmp_ge (tgt := 136) hx hb dX7_settle_86 (by decide) (fun c_4 => ?_) (fun c_4 => ?_)
    · replace h := it_p c_4 h
      refine lv_iload_n hx hb dX7_settle_136 rfl (lv_at hl 2 rfl) ?_
      obtain ⟨rfl, rfl⟩ := Prod.mk.inj (Option.some.inj h)
      exact hret _ _ _ _ hP hS dX7_settle_137
    · replace h := it_n c_4 h
      refine lv_aload_n hx hb dX7_settle_89 rfl (lv_at hl 0 rfl) ?_
      refine x_get (rest := []) X hP (gC0 c3 ad w) rfl iwX7_settle_X7 0 (by decide) lkX7_settle_14 rfl dX7_settle_90 ?_
      refine x_get (rest := []) X hP (gC1 c3 ad w) rfl iwX7_settle_X5 0 (by decide) lkX7_settle_86 rfl dX7_settle_93 ?_
      refine lv_iload_n hx hb dX7_settle_96 rfl (lv_at hl 1 rfl) ?_
      obtain ⟨g_5, h⟩ := gd_s h
      have q_6 := rgn 4 g_5
      refine x_aald (z := ad (4 + x2.toNatClampNeg)) X hP (gC2 c3 ad w) g_5 rfl dX7_settle_97 ?_
      refine lv_iload hx hb dX7_settle_98 (lv_at hl 3 rfl) ?_
      refine lv_aload_n hx hb dX7_settle_100 rfl (lv_at hl 0 rfl) ?_
      refine x_get (rest := [.int x4, .ref (ad (4 + x2.toNatClampNeg))]) X hP (gC0 c3 ad w) rfl iwX7_settle_X7 5 (by decide) lkX7_settle_41 rfl dX7_settle_101 ?_
      refine x_get (rest := [.int x4, .ref (ad (4 + x2.toNatClampNeg))]) X hP (gC39 c3 ad w) rfl iwX7_settle_X6 0 (by decide) lkX7_settle_203 rfl dX7_settle_104 ?_
      refine lv_iload hx hb dX7_settle_107 (lv_at hl 3 rfl) ?_
      obtain ⟨g_7, h⟩ := gd_s h
      refine x_iald X hP (gC40 c3 ad w) g_7 dX7_settle_109 ?_
      refine lv_iconst (v := (-1)) hx hb dX7_settle_110 (by decide) ?_
      refine lv_icmp_ne (tgt := 119) hx hb dX7_settle_111 (by decide) (fun c_8 => ?_) (fun c_8 => ?_)
      · replace h := it_n c_8 h
        refine lv_aload_n hx hb dX7_settle_119 rfl (lv_at hl 0 rfl) ?_
        refine x_get (rest := [.int x4, .ref (ad (4 + x2.toNatClampNeg))]) X hP (gC0 c3 ad w) rfl iwX7_settle_X7 5 (by decide) lkX7_settle_41 rfl dX7_settle_120 ?_
        refine x_get (rest := [.int x4, .ref (ad (4 + x2.toNatClampNeg))]) X hP (gC39 c3 ad w) rfl iwX7_settle_X6 0 (by decide) lkX7_settle_203 rfl dX7_settle_123 ?_
        refine lv_iload hx hb dX7_settle_126 (lv_at hl 3 rfl) ?_
        refine x_iald X hP (gC40 c3 ad w) g_7 dX7_settle_128 ?_
        exact bX7_settle_129 (x2 := x2) (x3 := x3) (k83 := (fX7_settle_83 x2 x3 n)) X hret ih x4 (w.1 40 x4.toNatClampNeg) x4 (4 + x2.toNatClampNeg) w _ _ _ hP hS (lv_sub hl [0, 1, 2, 3] rfl) h
      · replace h := it_p c_8 h
        refine lv_bipush (v := (-9)) hx hb dX7_settle_114 (by decide) ?_
        refine lv_goto (tgt := 129) hx hb dX7_settle_116 (by decide) ?_
        exact bX7_settle_129 (x2 := x2) (x3 := x3) (k83 := (fX7_settle_83 x2 x3 n)) X hret ih x4 (-9) x4 (4 + x2.toNatClampNeg) w _ _ _ hP hS (lv_sub hl [0, 1, 2, 3] rfl) h
def fX7_settle_49 (x1 : Int32) (x2 : Int32) : Nat → Int32 → Mm → Option (Int32 × Mm)
  | 0, _, _ => none
  | n + 1, x3, w => (if 5 < x3 then some ((-9), w) else bd (fX6_findFirst x1 x3 w) (fun r_11 w_12 => (if r_11 = 0 then fX7_settle_49 x1 x2 n (x3 + 1) w_12 else bo (fX5_make_1 x2 x3 0 w_12) (fun w_16 => fX7_settle_83 x2 x3 FU 0 w_16))))
set_option maxRecDepth 20000 in
theorem bX7_settle_49 {p : Program} {l : Launch} {e : Env} {s : State} {m : MethodId} {args : Array Value} {below : List Frame} {meth : Method} {c : Code} {Q : State → Prop} {D : va_G} {c3 : C3} {ad : Nat → Nat} {A : Nat → Prop} {r : Int32} {w' : Mm} (X : Cx p s m args c cX7_settle 5 RX7 wsX7_settle D c3 (encC c3 ad) gC A) (hret : Ri p l e (rmX7_settle) s m args below meth c Q cX7_settle D (encC c3 ad) A r w') : ∀ (x1 : Int32) (x2 : Int32) (n : Nat) (x3 : Int32) (w : Mm) (H : Heap) (locs : List Loc) (ls : Array Slot), va_P D vwCl ((encC c3 ad) w) H → va_S A s.heap H locs → lv_has ls 5 [(0, .ref (ad 0)), (1, .int x1), (2, .int x2), (3, .int x3)] → fX7_settle_49 x1 x2 n x3 w = some (r, w') → W p l e (rmX7_settle) s m args below meth c H locs 0 0 Q (F0 m 49 ls []) := by
  have hx := X.1
  have hb := X.2.1
  have hml := X.2.2.1
  have hown := X.2.2.2.1
  have hts := X.2.2.2.2.1
  intro x1 x2 n
  induction n with
  | zero =>
    intro x3 w H locs ls hP hS hl h
    exact absurd h (by simp [fX7_settle_49])
  | succ n ih =>
    intro x3 w H locs ls hP hS hl h
    rw [fX7_settle_49] at h
    refine lv_iload_n hx hb dX7_settle_49 rfl (lv_at hl 3 rfl) ?_
    refine lv_iconst (v := 5) hx hb dX7_settle_50 (by decide) ?_
    refine lv_icmp_gt (tgt := 144) hx hb dX7_settle_51 (by decide) (fun c_9 => ?_) (fun c_9 => ?_)
    · replace h := it_p c_9 h
      refine lv_bipush (v := (-9)) hx hb dX7_settle_144 (by decide) ?_
      obtain ⟨rfl, rfl⟩ := Prod.mk.inj (Option.some.inj h)
      exact hret _ _ _ _ hP hS dX7_settle_146
    · replace h := it_n c_9 h
      refine lv_aload_n hx hb dX7_settle_54 rfl (lv_at hl 0 rfl) ?_
      refine x_get (rest := []) X hP (gC0 c3 ad w) rfl iwX7_settle_X7 5 (by decide) lkX7_settle_41 rfl dX7_settle_55 ?_
      refine lv_aload_n hx hb dX7_settle_58 rfl (lv_at hl 0 rfl) ?_
      refine x_get (rest := [.ref (ad 39)]) X hP (gC0 c3 ad w) rfl iwX7_settle_X7 3 (by decide) lkX7_settle_27 rfl dX7_settle_59 ?_
      refine lv_iload_n hx hb dX7_settle_62 rfl (lv_at hl 1 rfl) ?_
      refine lv_iload_n hx hb dX7_settle_63 rfl (lv_at hl 3 rfl) ?_
      obtain ⟨r_11, w_12, e_10, h⟩ := bd_s h
      refine x_goi X hS (x_runV (As := [.ref (ad 23), .int x1, .int x3]) (rest := []) X gC_ok hP hS (ctX6_findFirst l D c3 ad w _ x1 x3 _ _ e_10) (cwV 3 hts gX7_settle_X6_findFirst rfl rfl rfl (by decide +kernel) ⟨by decide, by decide⟩) (gC39 c3 ad w) rfl rfl rfl hl.1 rfl (Nat.le_of_ble_eq_true rfl) dX7_settle_64) (fun H locs hP hS => ?_)
      refine lv_if_eq (tgt := 138) hx hb dX7_settle_67 (by decide) (fun c_13 => ?_) (fun c_13 => ?_)
      · replace h := it_p c_13 h
        refine lv_iinc (v := (x3 + 1)) (lv' := [(3, .int (x3 + 1)), (0, .ref (ad 0)), (1, .int x1), (2, .int x2)]) hx hb dX7_settle_138 hl (k := 3) rfl rfl (by decide) rfl (fun ls hl => ?_)
        refine lv_goto (tgt := 49) hx hb dX7_settle_141 (by decide) ?_
        exact ih (x3 + 1) w_12 _ _ _ hP hS (lv_sub hl [1, 2, 3, 0] rfl) h
      · replace h := it_n c_13 h
        refine lv_aload_n hx hb dX7_settle_70 rfl (lv_at hl 0 rfl) ?_
        refine x_get (rest := []) X hP (gC0 c3 ad w_12) rfl iwX7_settle_X7 0 (by decide) lkX7_settle_14 rfl dX7_settle_71 ?_
        refine lv_iload_n hx hb dX7_settle_74 rfl (lv_at hl 2 rfl) ?_
        refine lv_iload_n hx hb dX7_settle_75 rfl (lv_at hl 3 rfl) ?_
        refine lv_iconst (v := 0) hx hb dX7_settle_76 (by decide) ?_
        obtain ⟨w_16, e_14, h⟩ := bo_s h
        refine x_gov X hS (x_runV (As := [.int x2, .int x3, .int 0]) (rest := []) X gC_ok hP hS (ctX5_make_1 l D c3 ad w_12 _ x2 x3 0 _ e_14) (cwV 3 hts gX7_settle_X5_make rfl rfl rfl (by decide +kernel) ⟨by decide, by decide⟩) (gC1 c3 ad w_12) rfl rfl rfl hl.1 rfl (Nat.le_of_ble_eq_true rfl) dX7_settle_77) (fun H locs hP hS => ?_)
        refine lv_iconst (v := 0) hx hb dX7_settle_80 (by decide) ?_
        refine lv_istore (lv' := [(4, .int 0), (0, .ref (ad 0)), (1, .int x1), (2, .int x2), (3, .int x3)]) hx hb dX7_settle_81 hl (by decide) rfl (fun ls hl => ?_)
        exact bX7_settle_83 X hret x2 x3 FU 0 w_16 _ _ _ hP hS (lv_sub hl [1, 3, 4, 0] rfl) h
def fX7_settle_E (x1 : Int32) (x2 : Int32) (w : Mm) : Option (Int32 × Mm) := bo (fX2_hasPerson_23 x1 w) (fun r_18 => (if r_18 = 0 then some ((-1), w) else bo (fX5_isNumber_1 x2 w) (fun r_22 => (if r_22 = 0 then some ((-1), w) else bo (fX2_isAnyOver_23 w) (fun r_26 => (if r_26 = 0 then bo (fX2_isEmpty_23 w) (fun r_30 => (if r_30 = 0 then fX7_settle_49 x1 x2 FU 0 w else some ((-4), w))) else some ((-4), w)))))))
set_option maxRecDepth 20000 in
theorem bX7_settle_E {p : Program} {l : Launch} {e : Env} {s : State} {m : MethodId} {args : Array Value} {below : List Frame} {meth : Method} {c : Code} {Q : State → Prop} {D : va_G} {c3 : C3} {ad : Nat → Nat} {A : Nat → Prop} {r : Int32} {w' : Mm} (X : Cx p s m args c cX7_settle 5 RX7 wsX7_settle D c3 (encC c3 ad) gC A) (hret : Ri p l e (rmX7_settle) s m args below meth c Q cX7_settle D (encC c3 ad) A r w') : ∀ (x1 : Int32) (x2 : Int32) (w : Mm) (H : Heap) (locs : List Loc) (ls : Array Slot), va_P D vwCl ((encC c3 ad) w) H → va_S A s.heap H locs → lv_has ls 5 [(0, .ref (ad 0)), (1, .int x1), (2, .int x2)] → fX7_settle_E x1 x2 w = some (r, w') → W p l e (rmX7_settle) s m args below meth c H locs 0 0 Q (F0 m 0 ls []) := by
  have hx := X.1
  have hb := X.2.1
  have hml := X.2.2.1
  have hown := X.2.2.2.1
  have hts := X.2.2.2.2.1
  intro x1 x2 w H locs ls hP hS hl h
  unfold fX7_settle_E at h
  refine lv_aload_n hx hb dX7_settle_0 rfl (lv_at hl 0 rfl) ?_
  refine x_get (rest := []) X hP (gC0 c3 ad w) rfl iwX7_settle_X7 3 (by decide) lkX7_settle_27 rfl dX7_settle_1 ?_
  refine lv_iload_n hx hb dX7_settle_4 rfl (lv_at hl 1 rfl) ?_
  obtain ⟨r_18, e_17, h⟩ := bo_s h
  refine x_goi X hS (x_runV (As := [.int x1]) (rest := []) X gC_ok hP hS (ctX2_hasPerson_23 l D c3 ad w _ x1 _ e_17) (cwV 1 hts gX7_settle_X2_hasPerson rfl rfl rfl (by decide +kernel) ⟨by decide, by decide⟩) (gC23 c3 ad w) rfl rfl rfl hl.1 rfl (Nat.le_of_ble_eq_true rfl) dX7_settle_5) (fun H locs hP hS => ?_)
  refine lv_if_eq (tgt := 22) hx hb dX7_settle_8 (by decide) (fun c_20 => ?_) (fun c_20 => ?_)
  · replace h := it_p c_20 h
    refine lv_iconst (v := (-1)) hx hb dX7_settle_22 (by decide) ?_
    obtain ⟨rfl, rfl⟩ := Prod.mk.inj (Option.some.inj h)
    exact hret _ _ _ _ hP hS dX7_settle_23
  · replace h := it_n c_20 h
    refine lv_aload_n hx hb dX7_settle_11 rfl (lv_at hl 0 rfl) ?_
    refine x_get (rest := []) X hP (gC0 c3 ad w) rfl iwX7_settle_X7 0 (by decide) lkX7_settle_14 rfl dX7_settle_12 ?_
    refine lv_iload_n hx hb dX7_settle_15 rfl (lv_at hl 2 rfl) ?_
    obtain ⟨r_22, e_21, h⟩ := bo_s h
    refine x_goi X hS (x_runV (As := [.int x2]) (rest := []) X gC_ok hP hS (ctX5_isNumber_1 l D c3 ad w _ x2 _ e_21) (cwV 1 hts gX7_settle_X5_isNumber rfl rfl rfl (by decide +kernel) ⟨by decide, by decide⟩) (gC1 c3 ad w) rfl rfl rfl hl.1 rfl (Nat.le_of_ble_eq_true rfl) dX7_settle_16) (fun H locs hP hS => ?_)
    refine lv_if_ne (tgt := 24) hx hb dX7_settle_19 (by decide) (fun c_24 => ?_) (fun c_24 => ?_)
    · replace h := it_n c_24 h
      refine lv_aload_n hx hb dX7_settle_24 rfl (lv_at hl 0 rfl) ?_
      refine x_get (rest := []) X hP (gC0 c3 ad w) rfl iwX7_settle_X7 3 (by decide) lkX7_settle_27 rfl dX7_settle_25 ?_
      obtain ⟨r_26, e_25, h⟩ := bo_s h
      refine x_goi X hS (x_runV (As := []) (rest := []) X gC_ok hP hS (ctX2_isAnyOver_23 l D c3 ad w _ _ e_25) (cwV 0 hts gX7_settle_X2_isAnyOver rfl rfl rfl (by decide +kernel) ⟨by decide, by decide⟩) (gC23 c3 ad w) rfl rfl rfl hl.1 rfl (Nat.le_of_ble_eq_true rfl) dX7_settle_28) (fun H locs hP hS => ?_)
      refine lv_if_ne (tgt := 44) hx hb dX7_settle_31 (by decide) (fun c_28 => ?_) (fun c_28 => ?_)
      · replace h := it_n c_28 h
        refine lv_bipush (v := (-4)) hx hb dX7_settle_44 (by decide) ?_
        obtain ⟨rfl, rfl⟩ := Prod.mk.inj (Option.some.inj h)
        exact hret _ _ _ _ hP hS dX7_settle_46
      · replace h := it_p c_28 h
        refine lv_aload_n hx hb dX7_settle_34 rfl (lv_at hl 0 rfl) ?_
        refine x_get (rest := []) X hP (gC0 c3 ad w) rfl iwX7_settle_X7 3 (by decide) lkX7_settle_27 rfl dX7_settle_35 ?_
        obtain ⟨r_30, e_29, h⟩ := bo_s h
        refine x_goi X hS (x_runV (As := []) (rest := []) X gC_ok hP hS (ctX2_isEmpty_23 l D c3 ad w _ _ e_29) (cwV 0 hts gX7_settle_X2_isEmpty rfl rfl rfl (by decide +kernel) ⟨by decide, by decide⟩) (gC23 c3 ad w) rfl rfl rfl hl.1 rfl (Nat.le_of_ble_eq_true rfl) dX7_settle_38) (fun H locs hP hS => ?_)
        refine lv_if_eq (tgt := 47) hx hb dX7_settle_41 (by decide) (fun c_32 => ?_) (fun c_32 => ?_)
        · replace h := it_p c_32 h
          refine lv_iconst (v := 0) hx hb dX7_settle_47 (by decide) ?_
          refine lv_istore_n (lv' := [(3, .int 0), (0, .ref (ad 0)), (1, .int x1), (2, .int x2)]) hx hb dX7_settle_48 rfl hl (by decide) rfl (fun ls hl => ?_)
          exact bX7_settle_49 X hret x1 x2 FU 0 w _ _ _ hP hS (lv_sub hl [1, 2, 3, 0] rfl) h
        · replace h := it_n c_32 h
          refine lv_bipush (v := (-4)) hx hb dX7_settle_44 (by decide) ?_
          obtain ⟨rfl, rfl⟩ := Prod.mk.inj (Option.some.inj h)
          exact hret _ _ _ _ hP hS dX7_settle_46
    · replace h := it_p c_24 h
      refine lv_iconst (v := (-1)) hx hb dX7_settle_22 (by decide) ?_
      obtain ⟨rfl, rfl⟩ := Prod.mk.inj (Option.some.inj h)
      exact hret _ _ _ _ hP hS dX7_settle_23
def fX7_settle (x1 : Int32) (x2 : Int32) (w : Mm) : Option (Int32 × Mm) := fX7_settle_E x1 x2 w
theorem ctX7_settle (l : Launch) (D : va_G) (c3 : C3) (ad : Nat → Nat) (w : Mm) (sz : Nat) (x1 : Int32) (x2 : Int32) (r : Int32) (w' : Mm) (h : fX7_settle x1 x2 w = some (r, w')) : Ci l yX7_settle wsX7_settle rmX7_settle D c3 (encC c3 ad) gC [.ref (ad 0), .int x1, .int x2] w sz r w' := by
  refine Ci.of (cc := cX7_settle) (maxL := 5) (encC_ok c3 ad) (by decide) rfl (Nat.le_of_ble_eq_true rfl) ?_
  intro p e s m below meth c A Q ls X hret hP hS hl
  exact bX7_settle_E X hret x1 x2 w _ _ ls hP hS hl h
theorem iwX7_refusalOfTurns_X7 : ∀ w ∈ wsX70, w ∈ wsX7_refusalOfTurns := fun _ h => List.mem_cons_of_mem _ (List.mem_append_left _ (List.mem_append_right _ h))
theorem lkX7_refusalOfTurns_27 : Cond.fieldLink RX7 27 "StuckDoor" "family" "LStuckDoor$Family;" ∈ wsX7_refusalOfTurns := by decide +kernel
def rmX7_refusalOfTurns : Room := { frames := 1, cells := 0, slots := 0, locals := 21 }
def fX7_refusalOfTurns_42 (w : Mm) : Option (Int32) := some (-4)
set_option maxRecDepth 20000 in
theorem bX7_refusalOfTurns_42 {p : Program} {l : Launch} {e : Env} {s : State} {m : MethodId} {args : Array Value} {below : List Frame} {meth : Method} {c : Code} {Q : State → Prop} {D : va_G} {c3 : C3} {ad : Nat → Nat} {A : Nat → Prop} {r : Int32} {w : Mm} (X : Cx p s m args c cX7_refusalOfTurns 3 RX7 wsX7_refusalOfTurns D c3 (encC c3 ad) gC A) (hret : Ri p l e (rmX7_refusalOfTurns) s m args below meth c Q cX7_refusalOfTurns D (encC c3 ad) A r w) : ∀ (H : Heap) (locs : List Loc) (ls : Array Slot), va_P D vwCl ((encC c3 ad) w) H → va_S A s.heap H locs → lv_has ls 3 [] → fX7_refusalOfTurns_42 w = some r → W p l e (rmX7_refusalOfTurns) s m args below meth c H locs 0 0 Q (F0 m 42 ls []) := by
  have hx := X.1
  have hb := X.2.1
  have hml := X.2.2.1
  have hown := X.2.2.2.1
  have hts := X.2.2.2.2.1
  intro H locs ls hP hS hl h
  unfold fX7_refusalOfTurns_42 at h
  refine lv_bipush (v := (-4)) hx hb dX7_refusalOfTurns_42 (by decide) ?_
  refine lv_goto (tgt := 48) hx hb dX7_refusalOfTurns_44 (by decide) ?_
  obtain rfl := Option.some.inj h
  exact hret _ _ _ _ hP hS dX7_refusalOfTurns_48
def fX7_refusalOfTurns_E (x1 : Int32) (x2 : Int32) (w : Mm) : Option (Int32) := bo (fX2_hasPerson_23 x1 w) (fun r_2 => (if r_2 = 0 then some (-1) else (if x2 < 0 then some (-1) else (if x2 ≤ 5 then bo (fX2_isAnyOver_23 w) (fun r_8 => (if r_8 = 0 then bo (fX2_isEmpty_23 w) (fun r_12 => (if r_12 = 0 then some 0 else fX7_refusalOfTurns_42 w)) else fX7_refusalOfTurns_42 w)) else some (-1)))))
set_option maxRecDepth 20000 in
theorem bX7_refusalOfTurns_E {p : Program} {l : Launch} {e : Env} {s : State} {m : MethodId} {args : Array Value} {below : List Frame} {meth : Method} {c : Code} {Q : State → Prop} {D : va_G} {c3 : C3} {ad : Nat → Nat} {A : Nat → Prop} {r : Int32} {w : Mm} (X : Cx p s m args c cX7_refusalOfTurns 3 RX7 wsX7_refusalOfTurns D c3 (encC c3 ad) gC A) (hret : Ri p l e (rmX7_refusalOfTurns) s m args below meth c Q cX7_refusalOfTurns D (encC c3 ad) A r w) : ∀ (x1 : Int32) (x2 : Int32) (H : Heap) (locs : List Loc) (ls : Array Slot), va_P D vwCl ((encC c3 ad) w) H → va_S A s.heap H locs → lv_has ls 3 [(0, .ref (ad 0)), (1, .int x1), (2, .int x2)] → fX7_refusalOfTurns_E x1 x2 w = some r → W p l e (rmX7_refusalOfTurns) s m args below meth c H locs 0 0 Q (F0 m 0 ls []) := by
  have hx := X.1
  have hb := X.2.1
  have hml := X.2.2.1
  have hown := X.2.2.2.1
  have hts := X.2.2.2.2.1
  intro x1 x2 H locs ls hP hS hl h
  unfold fX7_refusalOfTurns_E at h
  refine lv_aload_n hx hb dX7_refusalOfTurns_0 rfl (lv_at hl 0 rfl) ?_
  refine x_get (rest := []) X hP (gC0 c3 ad w) rfl iwX7_refusalOfTurns_X7 3 (by decide) lkX7_refusalOfTurns_27 rfl dX7_refusalOfTurns_1 ?_
  refine lv_iload_n hx hb dX7_refusalOfTurns_4 rfl (lv_at hl 1 rfl) ?_
  obtain ⟨r_2, e_1, h⟩ := bo_s h
  refine x_goi X hS (x_runV (As := [.int x1]) (rest := []) X gC_ok hP hS (ctX2_hasPerson_23 l D c3 ad w _ x1 _ e_1) (cwV 1 hts gX7_refusalOfTurns_X2_hasPerson rfl rfl rfl (by decide +kernel) ⟨by decide, by decide⟩) (gC23 c3 ad w) rfl rfl rfl hl.1 rfl (Nat.le_of_ble_eq_true rfl) dX7_refusalOfTurns_5) (fun H locs hP hS => ?_)
  refine lv_if_eq (tgt := 20) hx hb dX7_refusalOfTurns_8 (by decide) (fun c_4 => ?_) (fun c_4 => ?_)
  · replace h := it_p c_4 h
    refine lv_iconst (v := (-1)) hx hb dX7_refusalOfTurns_20 (by decide) ?_
    obtain rfl := Option.some.inj h
    exact hret _ _ _ _ hP hS dX7_refusalOfTurns_21
  · replace h := it_n c_4 h
    refine lv_iload_n hx hb dX7_refusalOfTurns_11 rfl (lv_at hl 2 rfl) ?_
    refine lv_if_lt (tgt := 20) hx hb dX7_refusalOfTurns_12 (by decide) (fun c_5 => ?_) (fun c_5 => ?_)
    · replace h := it_p c_5 h
      refine lv_iconst (v := (-1)) hx hb dX7_refusalOfTurns_20 (by decide) ?_
      obtain rfl := Option.some.inj h
      exact hret _ _ _ _ hP hS dX7_refusalOfTurns_21
    · replace h := it_n c_5 h
      refine lv_iload_n hx hb dX7_refusalOfTurns_15 rfl (lv_at hl 2 rfl) ?_
      refine lv_iconst (v := 5) hx hb dX7_refusalOfTurns_16 (by decide) ?_
      refine lv_icmp_le (tgt := 22) hx hb dX7_refusalOfTurns_17 (by decide) (fun c_6 => ?_) (fun c_6 => ?_)
      · replace h := it_p c_6 h
        refine lv_aload_n hx hb dX7_refusalOfTurns_22 rfl (lv_at hl 0 rfl) ?_
        refine x_get (rest := []) X hP (gC0 c3 ad w) rfl iwX7_refusalOfTurns_X7 3 (by decide) lkX7_refusalOfTurns_27 rfl dX7_refusalOfTurns_23 ?_
        obtain ⟨r_8, e_7, h⟩ := bo_s h
        refine x_goi X hS (x_runV (As := []) (rest := []) X gC_ok hP hS (ctX2_isAnyOver_23 l D c3 ad w _ _ e_7) (cwV 0 hts gX7_refusalOfTurns_X2_isAnyOver rfl rfl rfl (by decide +kernel) ⟨by decide, by decide⟩) (gC23 c3 ad w) rfl rfl rfl hl.1 rfl (Nat.le_of_ble_eq_true rfl) dX7_refusalOfTurns_26) (fun H locs hP hS => ?_)
        refine lv_if_ne (tgt := 42) hx hb dX7_refusalOfTurns_29 (by decide) (fun c_10 => ?_) (fun c_10 => ?_)
        · replace h := it_n c_10 h
          exact bX7_refusalOfTurns_42 X hret _ _ _ hP hS (lv_sub hl [] rfl) h
        · replace h := it_p c_10 h
          refine lv_aload_n hx hb dX7_refusalOfTurns_32 rfl (lv_at hl 0 rfl) ?_
          refine x_get (rest := []) X hP (gC0 c3 ad w) rfl iwX7_refusalOfTurns_X7 3 (by decide) lkX7_refusalOfTurns_27 rfl dX7_refusalOfTurns_33 ?_
          obtain ⟨r_12, e_11, h⟩ := bo_s h
          refine x_goi X hS (x_runV (As := []) (rest := []) X gC_ok hP hS (ctX2_isEmpty_23 l D c3 ad w _ _ e_11) (cwV 0 hts gX7_refusalOfTurns_X2_isEmpty rfl rfl rfl (by decide +kernel) ⟨by decide, by decide⟩) (gC23 c3 ad w) rfl rfl rfl hl.1 rfl (Nat.le_of_ble_eq_true rfl) dX7_refusalOfTurns_36) (fun H locs hP hS => ?_)
          refine lv_if_eq (tgt := 47) hx hb dX7_refusalOfTurns_39 (by decide) (fun c_14 => ?_) (fun c_14 => ?_)
          · replace h := it_p c_14 h
            refine lv_iconst (v := 0) hx hb dX7_refusalOfTurns_47 (by decide) ?_
            obtain rfl := Option.some.inj h
            exact hret _ _ _ _ hP hS dX7_refusalOfTurns_48
          · replace h := it_n c_14 h
            exact bX7_refusalOfTurns_42 X hret _ _ _ hP hS (lv_sub hl [] rfl) h
      · replace h := it_n c_6 h
        refine lv_iconst (v := (-1)) hx hb dX7_refusalOfTurns_20 (by decide) ?_
        obtain rfl := Option.some.inj h
        exact hret _ _ _ _ hP hS dX7_refusalOfTurns_21
def fX7_refusalOfTurns (x1 : Int32) (x2 : Int32) (w : Mm) : Option (Int32) := fX7_refusalOfTurns_E x1 x2 w
theorem ctX7_refusalOfTurns (l : Launch) (D : va_G) (c3 : C3) (ad : Nat → Nat) (w : Mm) (sz : Nat) (x1 : Int32) (x2 : Int32) (r : Int32) (h : fX7_refusalOfTurns x1 x2 w = some r) : Ci l yX7_refusalOfTurns wsX7_refusalOfTurns rmX7_refusalOfTurns D c3 (encC c3 ad) gC [.ref (ad 0), .int x1, .int x2] w sz r w := by
  refine Ci.of (cc := cX7_refusalOfTurns) (maxL := 3) (encC_ok c3 ad) (by decide) rfl (Nat.le_of_ble_eq_true rfl) ?_
  intro p e s m below meth c A Q ls X hret hP hS hl
  exact bX7_refusalOfTurns_E X hret x1 x2 _ _ ls hP hS hl h
theorem iwX6_tryAll_X6 : ∀ w ∈ wsX60, w ∈ wsX6_tryAll := fun _ h => List.mem_cons_of_mem _ (List.mem_append_left _ (List.mem_append_right _ h))
theorem lkX6_tryAll_15 : Cond.fieldLink RX6 15 "StuckDoor$Turns" "number" "J" ∈ wsX6_tryAll := by decide +kernel
theorem lkX6_tryAll_19 : Cond.fieldLink RX6 19 "StuckDoor$Turns" "settleable" "I" ∈ wsX6_tryAll := by decide +kernel
theorem lkX6_tryAll_23 : Cond.fieldLink RX6 23 "StuckDoor$Turns" "leastStrain" "I" ∈ wsX6_tryAll := by decide +kernel
def rmX6_tryAll : Room := { frames := 51, cells := 0, slots := 0, locals := 1120 }
def fX6_tryAll_E (x2 : Int32) (x3 : Int32) (w : Mm) : Option (Mm) := nm (sL w 39 1 0) (fun w_1 => nm (sA w_1 39 2 0) (fun w_2 => nm (sA w_2 39 3 (-9)) (fun w_3 => bd (fX6_attemptFrom DEP x2 0 x3 0 w_3) (fun r_5 w_6 => some w_6))))
set_option maxRecDepth 20000 in
theorem bX6_tryAll_E {p : Program} {l : Launch} {e : Env} {s : State} {m : MethodId} {args : Array Value} {below : List Frame} {meth : Method} {c : Code} {Q : State → Prop} {D : va_G} {c3 : C3} {ad : Nat → Nat} {A : Nat → Prop} {w' : Mm} (X : Cx p s m args c cX6_tryAll 4 RX6 wsX6_tryAll D c3 (encC c3 ad) gC A) (hret : Rv p l e (rmX6_tryAll) s m args below meth c Q cX6_tryAll D (encC c3 ad) A w') : ∀ (x2 : Int32) (x3 : Int32) (w : Mm) (H : Heap) (locs : List Loc) (ls : Array Slot), va_P D vwCl ((encC c3 ad) w) H → va_S A s.heap H locs → lv_has ls 4 [(0, .ref (ad 39)), (1, .ref (ad 23)), (2, .int x2), (3, .int x3)] → fX6_tryAll_E x2 x3 w = some w' → W p l e (rmX6_tryAll) s m args below meth c H locs 0 0 Q (F0 m 0 ls []) := by
  have hx := X.1
  have hb := X.2.1
  have hml := X.2.2.1
  have hown := X.2.2.2.1
  have hts := X.2.2.2.2.1
  intro x2 x3 w H locs ls hP hS hl h
  unfold fX6_tryAll_E at h
  refine lv_aload_n hx hb dX6_tryAll_0 rfl (lv_at hl 0 rfl) ?_
  refine lv_lconst (v := 0) hx hb dX6_tryAll_1 (by decide) ?_
  refine x_put (v := .long 0) X hP hS (gC39 c3 ad w) rfl iwX6_tryAll_X6 tyX6 tyX6_ok nmX6 1 (by decide) lkX6_tryAll_15 rfl rfl rfl (Nat.le_of_ble_eq_true rfl) (pC39_1 c3 ad w 0) dX6_tryAll_2 (fun H locs hP hS => ?_)
  refine x_nmw h hP (fun w_1 h hP => ?_)
  refine lv_aload_n hx hb dX6_tryAll_5 rfl (lv_at hl 0 rfl) ?_
  refine lv_iconst (v := 0) hx hb dX6_tryAll_6 (by decide) ?_
  refine x_put (v := .int 0) X hP hS (gC39 c3 ad w_1) rfl iwX6_tryAll_X6 tyX6 tyX6_ok nmX6 2 (by decide) lkX6_tryAll_19 rfl rfl rfl (Nat.le_of_ble_eq_true rfl) (pC39_2 c3 ad w_1 0) dX6_tryAll_7 (fun H locs hP hS => ?_)
  refine x_nmw h hP (fun w_2 h hP => ?_)
  refine lv_aload_n hx hb dX6_tryAll_10 rfl (lv_at hl 0 rfl) ?_
  refine lv_bipush (v := (-9)) hx hb dX6_tryAll_11 (by decide) ?_
  refine x_put (v := .int (-9)) X hP hS (gC39 c3 ad w_2) rfl iwX6_tryAll_X6 tyX6 tyX6_ok nmX6 3 (by decide) lkX6_tryAll_23 rfl rfl rfl (Nat.le_of_ble_eq_true rfl) (pC39_3 c3 ad w_2 (-9)) dX6_tryAll_13 (fun H locs hP hS => ?_)
  refine x_nmw h hP (fun w_3 h hP => ?_)
  refine lv_aload_n hx hb dX6_tryAll_16 rfl (lv_at hl 0 rfl) ?_
  refine lv_aload_n hx hb dX6_tryAll_17 rfl (lv_at hl 1 rfl) ?_
  refine lv_iload_n hx hb dX6_tryAll_18 rfl (lv_at hl 2 rfl) ?_
  refine lv_iconst (v := 0) hx hb dX6_tryAll_19 (by decide) ?_
  refine lv_iload_n hx hb dX6_tryAll_20 rfl (lv_at hl 3 rfl) ?_
  refine lv_iconst (v := 0) hx hb dX6_tryAll_21 (by decide) ?_
  obtain ⟨r_5, w_6, e_4, h⟩ := bd_s h
  refine x_goi X hS (x_runV (As := [.ref (ad 23), .int x2, .int 0, .int x3, .int 0]) (rest := []) X gC_ok hP hS (ctX6_attemptFrom l D c3 ad w_3 _ DEP x2 0 x3 0 _ _ e_4) (cwV 5 hts gX6_tryAll_X6_attemptFrom rfl rfl rfl (by decide +kernel) (by decide)) (gC39 c3 ad w_3) rfl rfl rfl hl.1 rfl (Nat.le_of_ble_eq_true rfl) dX6_tryAll_22) (fun H locs hP hS => ?_)
  refine lv_pop hx hb dX6_tryAll_25 rfl ?_
  obtain rfl := Option.some.inj h
  exact hret _ _ _ _ hP hS dX6_tryAll_26
def fX6_tryAll (x2 : Int32) (x3 : Int32) (w : Mm) : Option (Mm) := fX6_tryAll_E x2 x3 w
theorem ctX6_tryAll (l : Launch) (D : va_G) (c3 : C3) (ad : Nat → Nat) (w : Mm) (sz : Nat) (x2 : Int32) (x3 : Int32) (w' : Mm) (h : fX6_tryAll x2 x3 w = some w') : Cv l yX6_tryAll wsX6_tryAll rmX6_tryAll D c3 (encC c3 ad) gC [.ref (ad 39), .ref (ad 23), .int x2, .int x3] w sz w' := by
  refine Cv.of (cc := cX6_tryAll) (maxL := 4) (encC_ok c3 ad) (by decide) rfl (Nat.le_of_ble_eq_true rfl) ?_
  intro p e s m below meth c A Q ls X hret hP hS hl
  exact bX6_tryAll_E X hret x2 x3 w _ _ ls hP hS hl h
theorem iwX7_least_X6 : ∀ w ∈ wsX60, w ∈ wsX7_least := fun _ h => List.mem_cons_of_mem _ (List.mem_append_left _ (List.mem_append_right _ h))
theorem iwX7_least_X7 : ∀ w ∈ wsX70, w ∈ wsX7_least := fun _ h => List.mem_cons_of_mem _ (List.mem_append_left _ (List.mem_append_left _ (List.mem_append_right _ h)))
theorem lkX7_least_27 : Cond.fieldLink RX7 27 "StuckDoor" "family" "LStuckDoor$Family;" ∈ wsX7_least := by decide +kernel
theorem lkX7_least_41 : Cond.fieldLink RX7 41 "StuckDoor" "turns" "LStuckDoor$Turns;" ∈ wsX7_least := by decide +kernel
theorem lkX7_least_213 : Cond.fieldLink RX7 213 "StuckDoor$Turns" "leastStrain" "I" ∈ wsX7_least := by decide +kernel
def rmX7_least : Room := { frames := 52, cells := 0, slots := 0, locals := 1143 }
def fX7_least_E (x1 : Int32) (x2 : Int32) (w : Mm) : Option (Int32 × Mm) := bo (fX7_refusalOfTurns x1 x2 w) (fun r_2 => (if r_2 = 0 then bo (fX6_tryAll x1 x2 w) (fun w_7 => some ((w_7.1 39 3), w_7)) else some (r_2, w)))
set_option maxRecDepth 20000 in
theorem bX7_least_E {p : Program} {l : Launch} {e : Env} {s : State} {m : MethodId} {args : Array Value} {below : List Frame} {meth : Method} {c : Code} {Q : State → Prop} {D : va_G} {c3 : C3} {ad : Nat → Nat} {A : Nat → Prop} {r : Int32} {w' : Mm} (X : Cx p s m args c cX7_least 4 RX7 wsX7_least D c3 (encC c3 ad) gC A) (hret : Ri p l e (rmX7_least) s m args below meth c Q cX7_least D (encC c3 ad) A r w') : ∀ (x1 : Int32) (x2 : Int32) (w : Mm) (H : Heap) (locs : List Loc) (ls : Array Slot), va_P D vwCl ((encC c3 ad) w) H → va_S A s.heap H locs → lv_has ls 4 [(0, .ref (ad 0)), (1, .int x1), (2, .int x2)] → fX7_least_E x1 x2 w = some (r, w') → W p l e (rmX7_least) s m args below meth c H locs 0 0 Q (F0 m 0 ls []) := by
  have hx := X.1
  have hb := X.2.1
  have hml := X.2.2.1
  have hown := X.2.2.2.1
  have hts := X.2.2.2.2.1
  intro x1 x2 w H locs ls hP hS hl h
  unfold fX7_least_E at h
  refine lv_aload_n hx hb dX7_least_0 rfl (lv_at hl 0 rfl) ?_
  refine lv_iload_n hx hb dX7_least_1 rfl (lv_at hl 1 rfl) ?_
  refine lv_iload_n hx hb dX7_least_2 rfl (lv_at hl 2 rfl) ?_
  obtain ⟨r_2, e_1, h⟩ := bo_s h
  refine x_goi X hS (x_runV (As := [.int x1, .int x2]) (rest := []) X gC_ok hP hS (ctX7_refusalOfTurns l D c3 ad w _ x1 x2 _ e_1) (cwV 2 hts gX7_least_X7_refusalOfTurns rfl rfl rfl (by decide +kernel) ⟨by decide, by decide⟩) (gC0 c3 ad w) rfl rfl rfl hl.1 rfl (Nat.le_of_ble_eq_true rfl) dX7_least_3) (fun H locs hP hS => ?_)
  refine lv_istore_n (lv' := [(3, .int r_2), (0, .ref (ad 0)), (1, .int x1), (2, .int x2)]) hx hb dX7_least_6 rfl hl (by decide) rfl (fun ls hl => ?_)
  refine lv_iload_n hx hb dX7_least_7 rfl (lv_at hl 0 rfl) ?_
  refine lv_if_eq (tgt := 13) hx hb dX7_least_8 (by decide) (fun c_4 => ?_) (fun c_4 => ?_)
  · replace h := it_p c_4 h
    refine lv_aload_n hx hb dX7_least_13 rfl (lv_at hl 1 rfl) ?_
    refine x_get (rest := []) X hP (gC0 c3 ad w) rfl iwX7_least_X7 5 (by decide) lkX7_least_41 rfl dX7_least_14 ?_
    refine lv_aload_n hx hb dX7_least_17 rfl (lv_at hl 1 rfl) ?_
    refine x_get (rest := [.ref (ad 39)]) X hP (gC0 c3 ad w) rfl iwX7_least_X7 3 (by decide) lkX7_least_27 rfl dX7_least_18 ?_
    refine lv_iload_n hx hb dX7_least_21 rfl (lv_at hl 2 rfl) ?_
    refine lv_iload_n hx hb dX7_least_22 rfl (lv_at hl 3 rfl) ?_
    obtain ⟨w_7, e_5, h⟩ := bo_s h
    refine x_gov X hS (x_runV (As := [.ref (ad 23), .int x1, .int x2]) (rest := []) X gC_ok hP hS (ctX6_tryAll l D c3 ad w _ x1 x2 _ e_5) (cwV 3 hts gX7_least_X6_tryAll rfl rfl rfl (by decide +kernel) ⟨by decide, by decide⟩) (gC39 c3 ad w) rfl rfl rfl hl.1 rfl (Nat.le_of_ble_eq_true rfl) dX7_least_23) (fun H locs hP hS => ?_)
    refine lv_aload_n hx hb dX7_least_26 rfl (lv_at hl 1 rfl) ?_
    refine x_get (rest := []) X hP (gC0 c3 ad w_7) rfl iwX7_least_X7 5 (by decide) lkX7_least_41 rfl dX7_least_27 ?_
    refine x_get (rest := []) X hP (gC39 c3 ad w_7) rfl iwX7_least_X6 3 (by decide) lkX7_least_213 rfl dX7_least_30 ?_
    obtain ⟨rfl, rfl⟩ := Prod.mk.inj (Option.some.inj h)
    exact hret _ _ _ _ hP hS dX7_least_33
  · replace h := it_n c_4 h
    refine lv_iload_n hx hb dX7_least_11 rfl (lv_at hl 0 rfl) ?_
    obtain ⟨rfl, rfl⟩ := Prod.mk.inj (Option.some.inj h)
    exact hret _ _ _ _ hP hS dX7_least_12
def fX7_least (x1 : Int32) (x2 : Int32) (w : Mm) : Option (Int32 × Mm) := fX7_least_E x1 x2 w
theorem ctX7_least (l : Launch) (D : va_G) (c3 : C3) (ad : Nat → Nat) (w : Mm) (sz : Nat) (x1 : Int32) (x2 : Int32) (r : Int32) (w' : Mm) (h : fX7_least x1 x2 w = some (r, w')) : Ci l yX7_least wsX7_least rmX7_least D c3 (encC c3 ad) gC [.ref (ad 0), .int x1, .int x2] w sz r w' := by
  refine Ci.of (cc := cX7_least) (maxL := 4) (encC_ok c3 ad) (by decide) rfl (Nat.le_of_ble_eq_true rfl) ?_
  intro p e s m below meth c A Q ls X hret hP hS hl
  exact bX7_least_E X hret x1 x2 w _ _ ls hP hS hl h
theorem iwX7_tellShare_X7 : ∀ w ∈ wsX70, w ∈ wsX7_tellShare := fun _ h => List.mem_cons_of_mem _ (List.mem_append_right _ h)
theorem lkX7_tellShare_63 : Cond.fieldLink RX7 63 "StuckDoor" "upperLast" "J" ∈ wsX7_tellShare := by decide +kernel
theorem lkX7_tellShare_67 : Cond.fieldLink RX7 67 "StuckDoor" "lowerLast" "J" ∈ wsX7_tellShare := by decide +kernel
def rmX7_tellShare : Room := { frames := 0, cells := 0, slots := 0, locals := 0 }
def fX7_tellShare_57 (y1 : Int64) (y3 : Int64) (u0 : Int64) (w : Mm) : Option (Mm) := gd (¬ u0 = 0) (nm (sL w 0 10 (y1 / u0)) (fun w_2 => nm (sL w_2 0 11 (y3 / u0)) (fun w_3 => some w_3)))
set_option maxRecDepth 20000 in
theorem bX7_tellShare_57 {p : Program} {l : Launch} {e : Env} {s : State} {m : MethodId} {args : Array Value} {below : List Frame} {meth : Method} {c : Code} {Q : State → Prop} {D : va_G} {c3 : C3} {ad : Nat → Nat} {A : Nat → Prop} {w' : Mm} (X : Cx p s m args c cX7_tellShare 12 RX7 wsX7_tellShare D c3 (encC c3 ad) gC A) (hret : Rv p l e (rmX7_tellShare) s m args below meth c Q cX7_tellShare D (encC c3 ad) A w') : ∀ (y1 : Int64) (y3 : Int64) (u0 : Int64) (w : Mm) (H : Heap) (locs : List Loc) (ls : Array Slot), va_P D vwCl ((encC c3 ad) w) H → va_S A s.heap H locs → lv_has ls 12 [(0, .ref (ad 0)), (1, .long y1), (3, .long y3)] → fX7_tellShare_57 y1 y3 u0 w = some w' → W p l e (rmX7_tellShare) s m args below meth c H locs 0 0 Q (F0 m 57 ls [.long u0]) := by
  have hx := X.1
  have hb := X.2.1
  have hml := X.2.2.1
  have hown := X.2.2.2.1
  have hts := X.2.2.2.2.1
  intro y1 y3 u0 w H locs ls hP hS hl h
  unfold fX7_tellShare_57 at h
  refine lv_lstore (lv' := [(9, .long u0), (0, .ref (ad 0)), (1, .long y1), (3, .long y3)]) hx hb dX7_tellShare_57 hl (by decide) rfl (fun ls hl => ?_)
  refine lv_aload_n hx hb dX7_tellShare_59 rfl (lv_at hl 1 rfl) ?_
  refine lv_lload_n hx hb dX7_tellShare_60 rfl (lv_at hl 2 rfl) ?_
  refine lv_lload hx hb dX7_tellShare_61 (lv_at hl 0 rfl) ?_
  obtain ⟨g_1, h⟩ := gd_s h
  refine lv_ldiv hx hb dX7_tellShare_63 g_1 ?_
  refine x_put (v := .long (y1 / u0)) X hP hS (gC0 c3 ad w) rfl iwX7_tellShare_X7 tyX7 tyX7_ok nmX7 10 (by decide) lkX7_tellShare_63 rfl rfl rfl (Nat.le_of_ble_eq_true rfl) (pC0_10 c3 ad w (y1 / u0)) dX7_tellShare_64 (fun H locs hP hS => ?_)
  refine x_nmw h hP (fun w_2 h hP => ?_)
  refine lv_aload_n hx hb dX7_tellShare_67 rfl (lv_at hl 1 rfl) ?_
  refine lv_lload_n hx hb dX7_tellShare_68 rfl (lv_at hl 3 rfl) ?_
  refine lv_lload hx hb dX7_tellShare_69 (lv_at hl 0 rfl) ?_
  refine lv_ldiv hx hb dX7_tellShare_71 g_1 ?_
  refine x_put (v := .long (y3 / u0)) X hP hS (gC0 c3 ad w_2) rfl iwX7_tellShare_X7 tyX7 tyX7_ok nmX7 11 (by decide) lkX7_tellShare_67 rfl rfl rfl (Nat.le_of_ble_eq_true rfl) (pC0_11 c3 ad w_2 (y3 / u0)) dX7_tellShare_72 (fun H locs hP hS => ?_)
  refine x_nmw h hP (fun w_3 h hP => ?_)
  obtain rfl := Option.some.inj h
  exact hret _ _ _ _ hP hS dX7_tellShare_75
def fX7_tellShare_44 (y1 : Int64) (y3 : Int64) (y5 : Int64) (w : Mm) : Option (Mm) := (if 0 ≤ (lg_cmp y5 1) then fX7_tellShare_57 y1 y3 y5 w else fX7_tellShare_57 y1 y3 1 w)
set_option maxRecDepth 20000 in
theorem bX7_tellShare_44 {p : Program} {l : Launch} {e : Env} {s : State} {m : MethodId} {args : Array Value} {below : List Frame} {meth : Method} {c : Code} {Q : State → Prop} {D : va_G} {c3 : C3} {ad : Nat → Nat} {A : Nat → Prop} {w' : Mm} (X : Cx p s m args c cX7_tellShare 12 RX7 wsX7_tellShare D c3 (encC c3 ad) gC A) (hret : Rv p l e (rmX7_tellShare) s m args below meth c Q cX7_tellShare D (encC c3 ad) A w') : ∀ (y1 : Int64) (y3 : Int64) (y5 : Int64) (w : Mm) (H : Heap) (locs : List Loc) (ls : Array Slot), va_P D vwCl ((encC c3 ad) w) H → va_S A s.heap H locs → lv_has ls 12 [(0, .ref (ad 0)), (1, .long y1), (3, .long y3), (5, .long y5)] → fX7_tellShare_44 y1 y3 y5 w = some w' → W p l e (rmX7_tellShare) s m args below meth c H locs 0 0 Q (F0 m 44 ls []) := by
  have hx := X.1
  have hb := X.2.1
  have hml := X.2.2.1
  have hown := X.2.2.2.1
  have hts := X.2.2.2.2.1
  intro y1 y3 y5 w H locs ls hP hS hl h
  unfold fX7_tellShare_44 at h
  refine lv_lload hx hb dX7_tellShare_44 (lv_at hl 3 rfl) ?_
  refine lv_lconst (v := 1) hx hb dX7_tellShare_46 (by decide) ?_
  refine W.lcmp hx hb dX7_tellShare_47 ?_
  refine lv_if_ge (tgt := 55) hx hb dX7_tellShare_48 (by decide) (fun c_4 => ?_) (fun c_4 => ?_)
  · replace h := it_p c_4 h
    refine lv_lload hx hb dX7_tellShare_55 (lv_at hl 3 rfl) ?_
    exact bX7_tellShare_57 X hret y1 y3 y5 w _ _ _ hP hS (lv_sub hl [0, 1, 2] rfl) h
  · replace h := it_n c_4 h
    refine lv_lconst (v := 1) hx hb dX7_tellShare_51 (by decide) ?_
    refine lv_goto (tgt := 57) hx hb dX7_tellShare_52 (by decide) ?_
    exact bX7_tellShare_57 X hret y1 y3 1 w _ _ _ hP hS (lv_sub hl [0, 1, 2] rfl) h
def fX7_tellShare_9 (y1 : Int64) (y3 : Int64) : Nat → Int64 → Int64 → Int32 → Mm → Option (Mm)
  | 0, _, _, _, _ => none
  | n + 1, y5, y7, x9, w => (if 100 ≤ x9 then fX7_tellShare_44 y1 y3 y5 w else (if (lg_cmp y7 0) = 0 then fX7_tellShare_44 y1 y3 y5 w else gd (¬ y7 = 0) (nm (y5 - y5 / y7 * y7) (fun y10_8 => fX7_tellShare_9 y1 y3 n y7 y10_8 (x9 + 1) w))))
set_option maxRecDepth 20000 in
theorem bX7_tellShare_9 {p : Program} {l : Launch} {e : Env} {s : State} {m : MethodId} {args : Array Value} {below : List Frame} {meth : Method} {c : Code} {Q : State → Prop} {D : va_G} {c3 : C3} {ad : Nat → Nat} {A : Nat → Prop} {w' : Mm} (X : Cx p s m args c cX7_tellShare 12 RX7 wsX7_tellShare D c3 (encC c3 ad) gC A) (hret : Rv p l e (rmX7_tellShare) s m args below meth c Q cX7_tellShare D (encC c3 ad) A w') : ∀ (y1 : Int64) (y3 : Int64) (n : Nat) (y5 : Int64) (y7 : Int64) (x9 : Int32) (w : Mm) (H : Heap) (locs : List Loc) (ls : Array Slot), va_P D vwCl ((encC c3 ad) w) H → va_S A s.heap H locs → lv_has ls 12 [(0, .ref (ad 0)), (1, .long y1), (3, .long y3), (5, .long y5), (7, .long y7), (9, .int x9)] → fX7_tellShare_9 y1 y3 n y5 y7 x9 w = some w' → W p l e (rmX7_tellShare) s m args below meth c H locs 0 0 Q (F0 m 9 ls []) := by
  have hx := X.1
  have hb := X.2.1
  have hml := X.2.2.1
  have hown := X.2.2.2.1
  have hts := X.2.2.2.2.1
  intro y1 y3 n
  induction n with
  | zero =>
    intro y5 y7 x9 w H locs ls hP hS hl h
    exact absurd h (by simp [fX7_tellShare_9])
  | succ n ih =>
    intro y5 y7 x9 w H locs ls hP hS hl h
    rw [fX7_tellShare_9] at h
    refine lv_iload hx hb dX7_tellShare_9 (lv_at hl 5 rfl) ?_
    refine lv_bipush (v := 100) hx hb dX7_tellShare_11 (by decide) ?_
    refine lv_icmp_ge (tgt := 44) hx hb dX7_tellShare_13 (by decide) (fun c_5 => ?_) (fun c_5 => ?_)
    · replace h := it_p c_5 h
      exact bX7_tellShare_44 X hret y1 y3 y5 w _ _ _ hP hS (lv_sub hl [0, 1, 2, 3] rfl) h
    · replace h := it_n c_5 h
      refine lv_lload hx hb dX7_tellShare_16 (lv_at hl 4 rfl) ?_
      refine lv_lconst (v := 0) hx hb dX7_tellShare_18 (by decide) ?_
      refine W.lcmp hx hb dX7_tellShare_19 ?_
      refine lv_if_eq (tgt := 44) hx hb dX7_tellShare_20 (by decide) (fun c_6 => ?_) (fun c_6 => ?_)
      · replace h := it_p c_6 h
        exact bX7_tellShare_44 X hret y1 y3 y5 w _ _ _ hP hS (lv_sub hl [0, 1, 2, 3] rfl) h
      · replace h := it_n c_6 h
        refine lv_lload hx hb dX7_tellShare_23 (lv_at hl 3 rfl) ?_
        refine lv_lload hx hb dX7_tellShare_25 (lv_at hl 4 rfl) ?_
        obtain ⟨g_7, h⟩ := gd_s h
        refine lv_lrem hx hb dX7_tellShare_27 g_7 ?_
        refine x_nml h (fun y10_8 h => ?_)
        refine lv_lstore (lv' := [(10, .long y10_8), (0, .ref (ad 0)), (1, .long y1), (3, .long y3), (5, .long y5), (7, .long y7), (9, .int x9)]) hx hb dX7_tellShare_28 hl (by decide) rfl (fun ls hl => ?_)
        refine lv_lload hx hb dX7_tellShare_30 (lv_at hl 5 rfl) ?_
        refine lv_lstore (lv' := [(5, .long y7), (10, .long y10_8), (0, .ref (ad 0)), (1, .long y1), (3, .long y3), (7, .long y7), (9, .int x9)]) hx hb dX7_tellShare_32 hl (by decide) rfl (fun ls hl => ?_)
        refine lv_lload hx hb dX7_tellShare_34 (lv_at hl 1 rfl) ?_
        refine lv_lstore (lv' := [(7, .long y10_8), (5, .long y7), (10, .long y10_8), (0, .ref (ad 0)), (1, .long y1), (3, .long y3), (9, .int x9)]) hx hb dX7_tellShare_36 hl (by decide) rfl (fun ls hl => ?_)
        refine lv_iinc (v := (x9 + 1)) (lv' := [(9, .int (x9 + 1)), (7, .long y10_8), (5, .long y7), (10, .long y10_8), (0, .ref (ad 0)), (1, .long y1), (3, .long y3)]) hx hb dX7_tellShare_38 hl (k := 6) rfl rfl (by decide) rfl (fun ls hl => ?_)
        refine lv_goto (tgt := 9) hx hb dX7_tellShare_41 (by decide) ?_
        exact ih y7 y10_8 (x9 + 1) w _ _ _ hP hS (lv_sub hl [4, 5, 6, 2, 1, 0] rfl) h
def fX7_tellShare_E (y1 : Int64) (y3 : Int64) (w : Mm) : Option (Mm) := fX7_tellShare_9 y1 y3 FU y3 y1 0 w
set_option maxRecDepth 20000 in
theorem bX7_tellShare_E {p : Program} {l : Launch} {e : Env} {s : State} {m : MethodId} {args : Array Value} {below : List Frame} {meth : Method} {c : Code} {Q : State → Prop} {D : va_G} {c3 : C3} {ad : Nat → Nat} {A : Nat → Prop} {w' : Mm} (X : Cx p s m args c cX7_tellShare 12 RX7 wsX7_tellShare D c3 (encC c3 ad) gC A) (hret : Rv p l e (rmX7_tellShare) s m args below meth c Q cX7_tellShare D (encC c3 ad) A w') : ∀ (y1 : Int64) (y3 : Int64) (w : Mm) (H : Heap) (locs : List Loc) (ls : Array Slot), va_P D vwCl ((encC c3 ad) w) H → va_S A s.heap H locs → lv_has ls 12 [(0, .ref (ad 0)), (1, .long y1), (3, .long y3)] → fX7_tellShare_E y1 y3 w = some w' → W p l e (rmX7_tellShare) s m args below meth c H locs 0 0 Q (F0 m 0 ls []) := by
  have hx := X.1
  have hb := X.2.1
  have hml := X.2.2.1
  have hown := X.2.2.2.1
  have hts := X.2.2.2.2.1
  intro y1 y3 w H locs ls hP hS hl h
  unfold fX7_tellShare_E at h
  refine lv_lload_n hx hb dX7_tellShare_0 rfl (lv_at hl 2 rfl) ?_
  refine lv_lstore (lv' := [(5, .long y3), (0, .ref (ad 0)), (1, .long y1), (3, .long y3)]) hx hb dX7_tellShare_1 hl (by decide) rfl (fun ls hl => ?_)
  refine lv_lload_n hx hb dX7_tellShare_3 rfl (lv_at hl 2 rfl) ?_
  refine lv_lstore (lv' := [(7, .long y1), (5, .long y3), (0, .ref (ad 0)), (1, .long y1), (3, .long y3)]) hx hb dX7_tellShare_4 hl (by decide) rfl (fun ls hl => ?_)
  refine lv_iconst (v := 0) hx hb dX7_tellShare_6 (by decide) ?_
  refine lv_istore (lv' := [(9, .int 0), (7, .long y1), (5, .long y3), (0, .ref (ad 0)), (1, .long y1), (3, .long y3)]) hx hb dX7_tellShare_7 hl (by decide) rfl (fun ls hl => ?_)
  exact bX7_tellShare_9 X hret y1 y3 FU y3 y1 0 w _ _ _ hP hS (lv_sub hl [3, 4, 5, 2, 1, 0] rfl) h
def fX7_tellShare (y1 : Int64) (y3 : Int64) (w : Mm) : Option (Mm) := fX7_tellShare_E y1 y3 w
theorem ctX7_tellShare (l : Launch) (D : va_G) (c3 : C3) (ad : Nat → Nat) (w : Mm) (sz : Nat) (y1 : Int64) (y3 : Int64) (w' : Mm) (h : fX7_tellShare y1 y3 w = some w') : Cv l yX7_tellShare wsX7_tellShare rmX7_tellShare D c3 (encC c3 ad) gC [.ref (ad 0), .long y1, .long y3] w sz w' := by
  refine Cv.of (cc := cX7_tellShare) (maxL := 12) (encC_ok c3 ad) (by decide) rfl (Nat.le_of_ble_eq_true rfl) ?_
  intro p e s m below meth c A Q ls X hret hP hS hl
  exact bX7_tellShare_E X hret y1 y3 w _ _ ls hP hS hl h
theorem iwX7_rows_X6 : ∀ w ∈ wsX60, w ∈ wsX7_rows := fun _ h => List.mem_cons_of_mem _ (List.mem_append_left _ (List.mem_append_right _ h))
theorem iwX7_rows_X7 : ∀ w ∈ wsX70, w ∈ wsX7_rows := fun _ h => List.mem_cons_of_mem _ (List.mem_append_left _ (List.mem_append_left _ (List.mem_append_right _ h)))
theorem lkX7_rows_27 : Cond.fieldLink RX7 27 "StuckDoor" "family" "LStuckDoor$Family;" ∈ wsX7_rows := by decide +kernel
theorem lkX7_rows_41 : Cond.fieldLink RX7 41 "StuckDoor" "turns" "LStuckDoor$Turns;" ∈ wsX7_rows := by decide +kernel
theorem lkX7_rows_60 : Cond.fieldLink RX7 60 "StuckDoor" "askedLast" "I" ∈ wsX7_rows := by decide +kernel
theorem lkX7_rows_216 : Cond.fieldLink RX7 216 "StuckDoor$Turns" "settleable" "I" ∈ wsX7_rows := by decide +kernel
theorem lkX7_rows_219 : Cond.fieldLink RX7 219 "StuckDoor$Turns" "number" "J" ∈ wsX7_rows := by decide +kernel
def rmX7_rows : Room := { frames := 52, cells := 0, slots := 0, locals := 1143 }
def fX7_rows_E (x1 : Int32) (x2 : Int32) (w : Mm) : Option (Int32 × Mm) := bo (fX7_refusalOfTurns x1 x2 w) (fun r_2 => (if r_2 = 0 then bo (fX6_tryAll x1 x2 w) (fun w_7 => nm (sA w_7 0 9 (w_7.1 39 2)) (fun w_8 => bo (fX7_tellShare (w_8.2.1 39 1) 1 w_8) (fun w_11 => some (1, w_11)))) else some (r_2, w)))
set_option maxRecDepth 20000 in
theorem bX7_rows_E {p : Program} {l : Launch} {e : Env} {s : State} {m : MethodId} {args : Array Value} {below : List Frame} {meth : Method} {c : Code} {Q : State → Prop} {D : va_G} {c3 : C3} {ad : Nat → Nat} {A : Nat → Prop} {r : Int32} {w' : Mm} (X : Cx p s m args c cX7_rows 4 RX7 wsX7_rows D c3 (encC c3 ad) gC A) (hret : Ri p l e (rmX7_rows) s m args below meth c Q cX7_rows D (encC c3 ad) A r w') : ∀ (x1 : Int32) (x2 : Int32) (w : Mm) (H : Heap) (locs : List Loc) (ls : Array Slot), va_P D vwCl ((encC c3 ad) w) H → va_S A s.heap H locs → lv_has ls 4 [(0, .ref (ad 0)), (1, .int x1), (2, .int x2)] → fX7_rows_E x1 x2 w = some (r, w') → W p l e (rmX7_rows) s m args below meth c H locs 0 0 Q (F0 m 0 ls []) := by
  have hx := X.1
  have hb := X.2.1
  have hml := X.2.2.1
  have hown := X.2.2.2.1
  have hts := X.2.2.2.2.1
  intro x1 x2 w H locs ls hP hS hl h
  unfold fX7_rows_E at h
  refine lv_aload_n hx hb dX7_rows_0 rfl (lv_at hl 0 rfl) ?_
  refine lv_iload_n hx hb dX7_rows_1 rfl (lv_at hl 1 rfl) ?_
  refine lv_iload_n hx hb dX7_rows_2 rfl (lv_at hl 2 rfl) ?_
  obtain ⟨r_2, e_1, h⟩ := bo_s h
  refine x_goi X hS (x_runV (As := [.int x1, .int x2]) (rest := []) X gC_ok hP hS (ctX7_refusalOfTurns l D c3 ad w _ x1 x2 _ e_1) (cwV 2 hts gX7_rows_X7_refusalOfTurns rfl rfl rfl (by decide +kernel) ⟨by decide, by decide⟩) (gC0 c3 ad w) rfl rfl rfl hl.1 rfl (Nat.le_of_ble_eq_true rfl) dX7_rows_3) (fun H locs hP hS => ?_)
  refine lv_istore_n (lv' := [(3, .int r_2), (0, .ref (ad 0)), (1, .int x1), (2, .int x2)]) hx hb dX7_rows_6 rfl hl (by decide) rfl (fun ls hl => ?_)
  refine lv_iload_n hx hb dX7_rows_7 rfl (lv_at hl 0 rfl) ?_
  refine lv_if_eq (tgt := 13) hx hb dX7_rows_8 (by decide) (fun c_4 => ?_) (fun c_4 => ?_)
  · replace h := it_p c_4 h
    refine lv_aload_n hx hb dX7_rows_13 rfl (lv_at hl 1 rfl) ?_
    refine x_get (rest := []) X hP (gC0 c3 ad w) rfl iwX7_rows_X7 5 (by decide) lkX7_rows_41 rfl dX7_rows_14 ?_
    refine lv_aload_n hx hb dX7_rows_17 rfl (lv_at hl 1 rfl) ?_
    refine x_get (rest := [.ref (ad 39)]) X hP (gC0 c3 ad w) rfl iwX7_rows_X7 3 (by decide) lkX7_rows_27 rfl dX7_rows_18 ?_
    refine lv_iload_n hx hb dX7_rows_21 rfl (lv_at hl 2 rfl) ?_
    refine lv_iload_n hx hb dX7_rows_22 rfl (lv_at hl 3 rfl) ?_
    obtain ⟨w_7, e_5, h⟩ := bo_s h
    refine x_gov X hS (x_runV (As := [.ref (ad 23), .int x1, .int x2]) (rest := []) X gC_ok hP hS (ctX6_tryAll l D c3 ad w _ x1 x2 _ e_5) (cwV 3 hts gX7_rows_X6_tryAll rfl rfl rfl (by decide +kernel) ⟨by decide, by decide⟩) (gC39 c3 ad w) rfl rfl rfl hl.1 rfl (Nat.le_of_ble_eq_true rfl) dX7_rows_23) (fun H locs hP hS => ?_)
    refine lv_aload_n hx hb dX7_rows_26 rfl (lv_at hl 1 rfl) ?_
    refine lv_aload_n hx hb dX7_rows_27 rfl (lv_at hl 1 rfl) ?_
    refine x_get (rest := [.ref (ad 0)]) X hP (gC0 c3 ad w_7) rfl iwX7_rows_X7 5 (by decide) lkX7_rows_41 rfl dX7_rows_28 ?_
    refine x_get (rest := [.ref (ad 0)]) X hP (gC39 c3 ad w_7) rfl iwX7_rows_X6 2 (by decide) lkX7_rows_216 rfl dX7_rows_31 ?_
    refine x_put (v := .int (w_7.1 39 2)) X hP hS (gC0 c3 ad w_7) rfl iwX7_rows_X7 tyX7 tyX7_ok nmX7 9 (by decide) lkX7_rows_60 rfl rfl rfl (Nat.le_of_ble_eq_true rfl) (pC0_9 c3 ad w_7 (w_7.1 39 2)) dX7_rows_34 (fun H locs hP hS => ?_)
    refine x_nmw h hP (fun w_8 h hP => ?_)
    refine lv_aload_n hx hb dX7_rows_37 rfl (lv_at hl 1 rfl) ?_
    refine lv_aload_n hx hb dX7_rows_38 rfl (lv_at hl 1 rfl) ?_
    refine x_get (rest := [.ref (ad 0)]) X hP (gC0 c3 ad w_8) rfl iwX7_rows_X7 5 (by decide) lkX7_rows_41 rfl dX7_rows_39 ?_
    refine x_get (rest := [.ref (ad 0)]) X hP (gC39 c3 ad w_8) rfl iwX7_rows_X6 1 (by decide) lkX7_rows_219 rfl dX7_rows_42 ?_
    refine lv_lconst (v := 1) hx hb dX7_rows_45 (by decide) ?_
    obtain ⟨w_11, e_9, h⟩ := bo_s h
    refine x_gov X hS (x_runV (As := [.long (w_8.2.1 39 1), .long 1]) (rest := []) X gC_ok hP hS (ctX7_tellShare l D c3 ad w_8 _ (w_8.2.1 39 1) 1 _ e_9) (cwV 2 hts gX7_rows_X7_tellShare rfl rfl rfl (by decide +kernel) ⟨by decide, by decide⟩) (gC0 c3 ad w_8) rfl rfl rfl hl.1 rfl (Nat.le_of_ble_eq_true rfl) dX7_rows_46) (fun H locs hP hS => ?_)
    refine lv_iconst (v := 1) hx hb dX7_rows_49 (by decide) ?_
    obtain ⟨rfl, rfl⟩ := Prod.mk.inj (Option.some.inj h)
    exact hret _ _ _ _ hP hS dX7_rows_50
  · replace h := it_n c_4 h
    refine lv_iload_n hx hb dX7_rows_11 rfl (lv_at hl 0 rfl) ?_
    obtain ⟨rfl, rfl⟩ := Prod.mk.inj (Option.some.inj h)
    exact hret _ _ _ _ hP hS dX7_rows_12
def fX7_rows (x1 : Int32) (x2 : Int32) (w : Mm) : Option (Int32 × Mm) := fX7_rows_E x1 x2 w
theorem ctX7_rows (l : Launch) (D : va_G) (c3 : C3) (ad : Nat → Nat) (w : Mm) (sz : Nat) (x1 : Int32) (x2 : Int32) (r : Int32) (w' : Mm) (h : fX7_rows x1 x2 w = some (r, w')) : Ci l yX7_rows wsX7_rows rmX7_rows D c3 (encC c3 ad) gC [.ref (ad 0), .int x1, .int x2] w sz r w' := by
  refine Ci.of (cc := cX7_rows) (maxL := 4) (encC_ok c3 ad) (by decide) rfl (Nat.le_of_ble_eq_true rfl) ?_
  intro p e s m below meth c A Q ls X hret hP hS hl
  exact bX7_rows_E X hret x1 x2 w _ _ ls hP hS hl h
theorem iwX7_stuck_X2 : ∀ w ∈ wsX20, w ∈ wsX7_stuck := fun _ h => List.mem_cons_of_mem _ (List.mem_append_right _ h)
theorem iwX7_stuck_X7 : ∀ w ∈ wsX70, w ∈ wsX7_stuck := fun _ h => List.mem_cons_of_mem _ (List.mem_append_left _ (List.mem_append_right _ h))
theorem lkX7_stuck_27 : Cond.fieldLink RX7 27 "StuckDoor" "family" "LStuckDoor$Family;" ∈ wsX7_stuck := by decide +kernel
theorem lkX7_stuck_226 : Cond.fieldLink RX7 226 "StuckDoor$Family" "stuckRooms" "I" ∈ wsX7_stuck := by decide +kernel
def rmX7_stuck : Room := { frames := 0, cells := 0, slots := 0, locals := 0 }
def fX7_stuck_E (w : Mm) : Option (Int32) := some (w.1 23 6)
set_option maxRecDepth 20000 in
theorem bX7_stuck_E {p : Program} {l : Launch} {e : Env} {s : State} {m : MethodId} {args : Array Value} {below : List Frame} {meth : Method} {c : Code} {Q : State → Prop} {D : va_G} {c3 : C3} {ad : Nat → Nat} {A : Nat → Prop} {r : Int32} {w : Mm} (X : Cx p s m args c cX7_stuck 1 RX7 wsX7_stuck D c3 (encC c3 ad) gC A) (hret : Ri p l e (rmX7_stuck) s m args below meth c Q cX7_stuck D (encC c3 ad) A r w) : ∀ (H : Heap) (locs : List Loc) (ls : Array Slot), va_P D vwCl ((encC c3 ad) w) H → va_S A s.heap H locs → lv_has ls 1 [(0, .ref (ad 0))] → fX7_stuck_E w = some r → W p l e (rmX7_stuck) s m args below meth c H locs 0 0 Q (F0 m 0 ls []) := by
  have hx := X.1
  have hb := X.2.1
  have hml := X.2.2.1
  have hown := X.2.2.2.1
  have hts := X.2.2.2.2.1
  intro H locs ls hP hS hl h
  unfold fX7_stuck_E at h
  refine lv_aload_n hx hb dX7_stuck_0 rfl (lv_at hl 0 rfl) ?_
  refine x_get (rest := []) X hP (gC0 c3 ad w) rfl iwX7_stuck_X7 3 (by decide) lkX7_stuck_27 rfl dX7_stuck_1 ?_
  refine x_get (rest := []) X hP (gC23 c3 ad w) rfl iwX7_stuck_X2 6 (by decide) lkX7_stuck_226 rfl dX7_stuck_4 ?_
  obtain rfl := Option.some.inj h
  exact hret _ _ _ _ hP hS dX7_stuck_7
def fX7_stuck (w : Mm) : Option (Int32) := fX7_stuck_E w
theorem ctX7_stuck (l : Launch) (D : va_G) (c3 : C3) (ad : Nat → Nat) (w : Mm) (sz : Nat) (r : Int32) (h : fX7_stuck w = some r) : Ci l yX7_stuck wsX7_stuck rmX7_stuck D c3 (encC c3 ad) gC [.ref (ad 0)] w sz r w := by
  refine Ci.of (cc := cX7_stuck) (maxL := 1) (encC_ok c3 ad) (by decide) rfl (Nat.le_of_ble_eq_true rfl) ?_
  intro p e s m below meth c A Q ls X hret hP hS hl
  exact bX7_stuck_E X hret _ _ ls hP hS hl h
def rmX3_hasRooms : Room := { frames := 0, cells := 0, slots := 0, locals := 0 }
def fX3_hasRooms_E (x0 : Int32) (x1 : Int32) : Option (Int32) := (if x0 < 0 then some 0 else (if 12 ≤ x0 then some 0 else (if x1 < 0 then some 0 else (if 12 ≤ x1 then some 0 else some 1))))
set_option maxRecDepth 20000 in
theorem bX3_hasRooms_E {p : Program} {l : Launch} {e : Env} {s : State} {m : MethodId} {args : Array Value} {below : List Frame} {meth : Method} {c : Code} {Q : State → Prop} {D : va_G} {c3 : C3} {ad : Nat → Nat} {A : Nat → Prop} {r : Int32} {w : Mm} (X : Cx p s m args c cX3_hasRooms 2 RX3 wsX3_hasRooms D c3 (encC c3 ad) gC A) (hret : Rz p l e (rmX3_hasRooms) s m args below meth c Q cX3_hasRooms D (encC c3 ad) A r w) : ∀ (x0 : Int32) (x1 : Int32) (H : Heap) (locs : List Loc) (ls : Array Slot), va_P D vwCl ((encC c3 ad) w) H → va_S A s.heap H locs → lv_has ls 2 [(0, .int x0), (1, .int x1)] → fX3_hasRooms_E x0 x1 = some r → W p l e (rmX3_hasRooms) s m args below meth c H locs 0 0 Q (F0 m 0 ls []) := by
  have hx := X.1
  have hb := X.2.1
  have hml := X.2.2.1
  have hown := X.2.2.2.1
  have hts := X.2.2.2.2.1
  intro x0 x1 H locs ls hP hS hl h
  unfold fX3_hasRooms_E at h
  refine lv_iload_n hx hb dX3_hasRooms_0 rfl (lv_at hl 0 rfl) ?_
  refine lv_if_lt (tgt := 24) hx hb dX3_hasRooms_1 (by decide) (fun c_1 => ?_) (fun c_1 => ?_)
  · replace h := it_p c_1 h
    refine lv_iconst (v := 0) hx hb dX3_hasRooms_24 (by decide) ?_
    obtain rfl := Option.some.inj h
    exact hret (Or.inl rfl) _ _ _ _ hP hS dX3_hasRooms_25
  · replace h := it_n c_1 h
    refine lv_iload_n hx hb dX3_hasRooms_4 rfl (lv_at hl 0 rfl) ?_
    refine lv_bipush (v := 12) hx hb dX3_hasRooms_5 (by decide) ?_
    refine lv_icmp_ge (tgt := 24) hx hb dX3_hasRooms_7 (by decide) (fun c_2 => ?_) (fun c_2 => ?_)
    · replace h := it_p c_2 h
      refine lv_iconst (v := 0) hx hb dX3_hasRooms_24 (by decide) ?_
      obtain rfl := Option.some.inj h
      exact hret (Or.inl rfl) _ _ _ _ hP hS dX3_hasRooms_25
    · replace h := it_n c_2 h
      refine lv_iload_n hx hb dX3_hasRooms_10 rfl (lv_at hl 1 rfl) ?_
      refine lv_if_lt (tgt := 24) hx hb dX3_hasRooms_11 (by decide) (fun c_3 => ?_) (fun c_3 => ?_)
      · replace h := it_p c_3 h
        refine lv_iconst (v := 0) hx hb dX3_hasRooms_24 (by decide) ?_
        obtain rfl := Option.some.inj h
        exact hret (Or.inl rfl) _ _ _ _ hP hS dX3_hasRooms_25
      · replace h := it_n c_3 h
        refine lv_iload_n hx hb dX3_hasRooms_14 rfl (lv_at hl 1 rfl) ?_
        refine lv_bipush (v := 12) hx hb dX3_hasRooms_15 (by decide) ?_
        refine lv_icmp_ge (tgt := 24) hx hb dX3_hasRooms_17 (by decide) (fun c_4 => ?_) (fun c_4 => ?_)
        · replace h := it_p c_4 h
          refine lv_iconst (v := 0) hx hb dX3_hasRooms_24 (by decide) ?_
          obtain rfl := Option.some.inj h
          exact hret (Or.inl rfl) _ _ _ _ hP hS dX3_hasRooms_25
        · replace h := it_n c_4 h
          refine lv_iconst (v := 1) hx hb dX3_hasRooms_20 (by decide) ?_
          refine lv_goto (tgt := 25) hx hb dX3_hasRooms_21 (by decide) ?_
          obtain rfl := Option.some.inj h
          exact hret (Or.inr rfl) _ _ _ _ hP hS dX3_hasRooms_25
def fX3_hasRooms (x0 : Int32) (x1 : Int32) : Option (Int32) := fX3_hasRooms_E x0 x1
theorem ctX3_hasRooms (l : Launch) (D : va_G) (c3 : C3) (ad : Nat → Nat) (w : Mm) (sz : Nat) (x0 : Int32) (x1 : Int32) (r : Int32) (h : fX3_hasRooms x0 x1 = some r) : Ci l yX3_hasRooms wsX3_hasRooms rmX3_hasRooms D c3 (encC c3 ad) gC [.int x0, .int x1] w sz r w := by
  refine Ci.ofz (cc := cX3_hasRooms) (maxL := 2) (encC_ok c3 ad) (by decide) rfl (Nat.le_of_ble_eq_true rfl) ?_
  intro p e s m below meth c A Q ls X hret hP hS hl
  exact bX3_hasRooms_E X hret x0 x1 _ _ ls hP hS hl h
def rmX3_withBeside : Room := { frames := 0, cells := 0, slots := 0, locals := 0 }
def fX3_withBeside_E (x0 : Int32) : Option (Int32) := nm ((x0 <<< (4 &&& 31)) ||| (x0 >>> (4 &&& 31))) (fun x1_1 => nm (((x0 &&& (-2185)) <<< (1 &&& 31)) ||| ((x0 &&& (-274)) >>> (1 &&& 31))) (fun x2_2 => some (((x0 ||| x1_1) ||| x2_2) &&& 4095)))
set_option maxRecDepth 20000 in
theorem bX3_withBeside_E {p : Program} {l : Launch} {e : Env} {s : State} {m : MethodId} {args : Array Value} {below : List Frame} {meth : Method} {c : Code} {Q : State → Prop} {D : va_G} {c3 : C3} {ad : Nat → Nat} {A : Nat → Prop} {r : Int32} {w : Mm} (X : Cx p s m args c cX3_withBeside 3 RX3 wsX3_withBeside D c3 (encC c3 ad) gC A) (hret : Ri p l e (rmX3_withBeside) s m args below meth c Q cX3_withBeside D (encC c3 ad) A r w) : ∀ (x0 : Int32) (H : Heap) (locs : List Loc) (ls : Array Slot), va_P D vwCl ((encC c3 ad) w) H → va_S A s.heap H locs → lv_has ls 3 [(0, .int x0)] → fX3_withBeside_E x0 = some r → W p l e (rmX3_withBeside) s m args below meth c H locs 0 0 Q (F0 m 0 ls []) := by
  have hx := X.1
  have hb := X.2.1
  have hml := X.2.2.1
  have hown := X.2.2.2.1
  have hts := X.2.2.2.2.1
  intro x0 H locs ls hP hS hl h
  unfold fX3_withBeside_E at h
  refine lv_iload_n hx hb dX3_withBeside_0 rfl (lv_at hl 0 rfl) ?_
  refine lv_iconst (v := 4) hx hb dX3_withBeside_1 (by decide) ?_
  refine lv_ishl hx hb dX3_withBeside_2 ?_
  refine lv_iload_n hx hb dX3_withBeside_3 rfl (lv_at hl 0 rfl) ?_
  refine lv_iconst (v := 4) hx hb dX3_withBeside_4 (by decide) ?_
  refine lv_ishr hx hb dX3_withBeside_5 ?_
  refine lv_ior hx hb dX3_withBeside_6 ?_
  refine x_nmi h (fun x1_1 h => ?_)
  refine lv_istore_n (lv' := [(1, .int x1_1), (0, .int x0)]) hx hb dX3_withBeside_7 rfl hl (by decide) rfl (fun ls hl => ?_)
  refine lv_iload_n hx hb dX3_withBeside_8 rfl (lv_at hl 1 rfl) ?_
  refine lv_sipush (v := (-2185)) hx hb dX3_withBeside_9 (by decide) ?_
  refine lv_iand hx hb dX3_withBeside_12 ?_
  refine lv_iconst (v := 1) hx hb dX3_withBeside_13 (by decide) ?_
  refine lv_ishl hx hb dX3_withBeside_14 ?_
  refine lv_iload_n hx hb dX3_withBeside_15 rfl (lv_at hl 1 rfl) ?_
  refine lv_sipush (v := (-274)) hx hb dX3_withBeside_16 (by decide) ?_
  refine lv_iand hx hb dX3_withBeside_19 ?_
  refine lv_iconst (v := 1) hx hb dX3_withBeside_20 (by decide) ?_
  refine lv_ishr hx hb dX3_withBeside_21 ?_
  refine lv_ior hx hb dX3_withBeside_22 ?_
  refine x_nmi h (fun x2_2 h => ?_)
  refine lv_istore_n (lv' := [(2, .int x2_2), (1, .int x1_1), (0, .int x0)]) hx hb dX3_withBeside_23 rfl hl (by decide) rfl (fun ls hl => ?_)
  refine lv_iload_n hx hb dX3_withBeside_24 rfl (lv_at hl 2 rfl) ?_
  refine lv_iload_n hx hb dX3_withBeside_25 rfl (lv_at hl 1 rfl) ?_
  refine lv_ior hx hb dX3_withBeside_26 ?_
  refine lv_iload_n hx hb dX3_withBeside_27 rfl (lv_at hl 0 rfl) ?_
  refine lv_ior hx hb dX3_withBeside_28 ?_
  refine lv_sipush (v := 4095) hx hb dX3_withBeside_29 (by decide) ?_
  refine lv_iand hx hb dX3_withBeside_32 ?_
  obtain rfl := Option.some.inj h
  exact hret _ _ _ _ hP hS dX3_withBeside_33
def fX3_withBeside (x0 : Int32) : Option (Int32) := fX3_withBeside_E x0
theorem ctX3_withBeside (l : Launch) (D : va_G) (c3 : C3) (ad : Nat → Nat) (w : Mm) (sz : Nat) (x0 : Int32) (r : Int32) (h : fX3_withBeside x0 = some r) : Ci l yX3_withBeside wsX3_withBeside rmX3_withBeside D c3 (encC c3 ad) gC [.int x0] w sz r w := by
  refine Ci.of (cc := cX3_withBeside) (maxL := 3) (encC_ok c3 ad) (by decide) rfl (Nat.le_of_ble_eq_true rfl) ?_
  intro p e s m below meth c A Q ls X hret hP hS hl
  exact bX3_withBeside_E X hret x0 _ _ ls hP hS hl h
def rmX3_steps : Room := { frames := 1, cells := 0, slots := 0, locals := 22 }
def fX3_steps_11 (x1 : Int32) (x2 : Int32) : Nat → Int32 → Int32 → Option (Int32)
  | 0, _, _ => none
  | n + 1, x3, x4 => (if 12 ≤ x4 then some (-9) else (if (x3 &&& (1 <<< (x1 &&& 31))) = 0 then bo (fX3_withBeside x3) (fun r_4 => nm (r_4 &&& (x2 ^^^ (-1))) (fun x3_6 => fX3_steps_11 x1 x2 n x3_6 (x4 + 1))) else some x4))
set_option maxRecDepth 20000 in
theorem bX3_steps_11 {p : Program} {l : Launch} {e : Env} {s : State} {m : MethodId} {args : Array Value} {below : List Frame} {meth : Method} {c : Code} {Q : State → Prop} {D : va_G} {c3 : C3} {ad : Nat → Nat} {A : Nat → Prop} {r : Int32} {w : Mm} (X : Cx p s m args c cX3_steps 5 RX3 wsX3_steps D c3 (encC c3 ad) gC A) (hret : Ri p l e (rmX3_steps) s m args below meth c Q cX3_steps D (encC c3 ad) A r w) : ∀ (x1 : Int32) (x2 : Int32) (n : Nat) (x3 : Int32) (x4 : Int32) (H : Heap) (locs : List Loc) (ls : Array Slot), va_P D vwCl ((encC c3 ad) w) H → va_S A s.heap H locs → lv_has ls 5 [(1, .int x1), (2, .int x2), (3, .int x3), (4, .int x4)] → fX3_steps_11 x1 x2 n x3 x4 = some r → W p l e (rmX3_steps) s m args below meth c H locs 0 0 Q (F0 m 11 ls []) := by
  have hx := X.1
  have hb := X.2.1
  have hml := X.2.2.1
  have hown := X.2.2.2.1
  have hts := X.2.2.2.2.1
  intro x1 x2 n
  induction n with
  | zero =>
    intro x3 x4 H locs ls hP hS hl h
    exact absurd h (by simp [fX3_steps_11])
  | succ n ih =>
    intro x3 x4 H locs ls hP hS hl h
    rw [fX3_steps_11] at h
    refine lv_iload hx hb dX3_steps_11 (lv_at hl 3 rfl) ?_
    refine lv_bipush (v := 12) hx hb dX3_steps_13 (by decide) ?_
    refine lv_icmp_ge (tgt := 44) hx hb dX3_steps_15 (by decide) (fun c_1 => ?_) (fun c_1 => ?_)
    · replace h := it_p c_1 h
      refine lv_bipush (v := (-9)) hx hb dX3_steps_44 (by decide) ?_
      obtain rfl := Option.some.inj h
      exact hret _ _ _ _ hP hS dX3_steps_46
    · replace h := it_n c_1 h
      refine lv_iload_n hx hb dX3_steps_18 rfl (lv_at hl 2 rfl) ?_
      refine lv_iconst (v := 1) hx hb dX3_steps_19 (by decide) ?_
      refine lv_iload_n hx hb dX3_steps_20 rfl (lv_at hl 0 rfl) ?_
      refine lv_ishl hx hb dX3_steps_21 ?_
      refine lv_iand hx hb dX3_steps_22 ?_
      refine lv_if_eq (tgt := 29) hx hb dX3_steps_23 (by decide) (fun c_2 => ?_) (fun c_2 => ?_)
      · replace h := it_p c_2 h
        refine lv_iload_n hx hb dX3_steps_29 rfl (lv_at hl 2 rfl) ?_
        obtain ⟨r_4, e_3, h⟩ := bo_s h
        refine x_goi X hS (x_runS (As := [.int x3]) (rest := []) X gC_ok hP hS (ctX3_withBeside l D c3 ad w _ x3 _ e_3) (va_cwS 1 hts gX3_steps_X3_withBeside rfl rfl rfl (by decide +kernel) ⟨by decide, by decide⟩) rfl hl.1 rfl (Nat.le_of_ble_eq_true rfl) dX3_steps_30) (fun H locs hP hS => ?_)
        refine lv_iload_n hx hb dX3_steps_33 rfl (lv_at hl 1 rfl) ?_
        refine lv_iconst (v := (-1)) hx hb dX3_steps_34 (by decide) ?_
        refine lv_ixor hx hb dX3_steps_35 ?_
        refine lv_iand hx hb dX3_steps_36 ?_
        refine x_nmi h (fun x3_6 h => ?_)
        refine lv_istore_n (lv' := [(3, .int x3_6), (1, .int x1), (2, .int x2), (4, .int x4)]) hx hb dX3_steps_37 rfl hl (by decide) rfl (fun ls hl => ?_)
        refine lv_iinc (v := (x4 + 1)) (lv' := [(4, .int (x4 + 1)), (3, .int x3_6), (1, .int x1), (2, .int x2)]) hx hb dX3_steps_38 hl (k := 3) rfl rfl (by decide) rfl (fun ls hl => ?_)
        refine lv_goto (tgt := 11) hx hb dX3_steps_41 (by decide) ?_
        exact ih x3_6 (x4 + 1) _ _ _ hP hS (lv_sub hl [2, 3, 1, 0] rfl) h
      · replace h := it_n c_2 h
        refine lv_iload hx hb dX3_steps_26 (lv_at hl 3 rfl) ?_
        obtain rfl := Option.some.inj h
        exact hret _ _ _ _ hP hS dX3_steps_28
def fX3_steps_E (x0 : Int32) (x1 : Int32) (x2 : Int32) : Option (Int32) := nm ((1 <<< (x0 &&& 31)) &&& (x2 ^^^ (-1))) (fun x3_7 => fX3_steps_11 x1 x2 FU x3_7 0)
set_option maxRecDepth 20000 in
theorem bX3_steps_E {p : Program} {l : Launch} {e : Env} {s : State} {m : MethodId} {args : Array Value} {below : List Frame} {meth : Method} {c : Code} {Q : State → Prop} {D : va_G} {c3 : C3} {ad : Nat → Nat} {A : Nat → Prop} {r : Int32} {w : Mm} (X : Cx p s m args c cX3_steps 5 RX3 wsX3_steps D c3 (encC c3 ad) gC A) (hret : Ri p l e (rmX3_steps) s m args below meth c Q cX3_steps D (encC c3 ad) A r w) : ∀ (x0 : Int32) (x1 : Int32) (x2 : Int32) (H : Heap) (locs : List Loc) (ls : Array Slot), va_P D vwCl ((encC c3 ad) w) H → va_S A s.heap H locs → lv_has ls 5 [(0, .int x0), (1, .int x1), (2, .int x2)] → fX3_steps_E x0 x1 x2 = some r → W p l e (rmX3_steps) s m args below meth c H locs 0 0 Q (F0 m 0 ls []) := by
  have hx := X.1
  have hb := X.2.1
  have hml := X.2.2.1
  have hown := X.2.2.2.1
  have hts := X.2.2.2.2.1
  intro x0 x1 x2 H locs ls hP hS hl h
  unfold fX3_steps_E at h
  refine lv_iconst (v := 1) hx hb dX3_steps_0 (by decide) ?_
  refine lv_iload_n hx hb dX3_steps_1 rfl (lv_at hl 0 rfl) ?_
  refine lv_ishl hx hb dX3_steps_2 ?_
  refine lv_iload_n hx hb dX3_steps_3 rfl (lv_at hl 2 rfl) ?_
  refine lv_iconst (v := (-1)) hx hb dX3_steps_4 (by decide) ?_
  refine lv_ixor hx hb dX3_steps_5 ?_
  refine lv_iand hx hb dX3_steps_6 ?_
  refine x_nmi h (fun x3_7 h => ?_)
  refine lv_istore_n (lv' := [(3, .int x3_7), (0, .int x0), (1, .int x1), (2, .int x2)]) hx hb dX3_steps_7 rfl hl (by decide) rfl (fun ls hl => ?_)
  refine lv_iconst (v := 0) hx hb dX3_steps_8 (by decide) ?_
  refine lv_istore (lv' := [(4, .int 0), (3, .int x3_7), (0, .int x0), (1, .int x1), (2, .int x2)]) hx hb dX3_steps_9 hl (by decide) rfl (fun ls hl => ?_)
  exact bX3_steps_11 X hret x1 x2 FU x3_7 0 _ _ _ hP hS (lv_sub hl [3, 4, 1, 0] rfl) h
def fX3_steps (x0 : Int32) (x1 : Int32) (x2 : Int32) : Option (Int32) := fX3_steps_E x0 x1 x2
theorem ctX3_steps (l : Launch) (D : va_G) (c3 : C3) (ad : Nat → Nat) (w : Mm) (sz : Nat) (x0 : Int32) (x1 : Int32) (x2 : Int32) (r : Int32) (h : fX3_steps x0 x1 x2 = some r) : Ci l yX3_steps wsX3_steps rmX3_steps D c3 (encC c3 ad) gC [.int x0, .int x1, .int x2] w sz r w := by
  refine Ci.of (cc := cX3_steps) (maxL := 5) (encC_ok c3 ad) (by decide) rfl (Nat.le_of_ble_eq_true rfl) ?_
  intro p e s m below meth c A Q ls X hret hP hS hl
  exact bX3_steps_E X hret x0 x1 x2 _ _ ls hP hS hl h
theorem iwX7_way_X2 : ∀ w ∈ wsX20, w ∈ wsX7_way := fun _ h => List.mem_cons_of_mem _ (List.mem_append_right _ h)
theorem iwX7_way_X7 : ∀ w ∈ wsX70, w ∈ wsX7_way := fun _ h => List.mem_cons_of_mem _ (List.mem_append_left _ (List.mem_append_right _ h))
theorem lkX7_way_27 : Cond.fieldLink RX7 27 "StuckDoor" "family" "LStuckDoor$Family;" ∈ wsX7_way := by decide +kernel
theorem lkX7_way_226 : Cond.fieldLink RX7 226 "StuckDoor$Family" "stuckRooms" "I" ∈ wsX7_way := by decide +kernel
def rmX7_way : Room := { frames := 2, cells := 0, slots := 0, locals := 46 }
def fX7_way_E (x1 : Int32) (x2 : Int32) (w : Mm) : Option (Int32) := bo (fX3_hasRooms x1 x2) (fun r_2 => (if r_2 = 0 then some (-1) else bo (fX3_steps x1 x2 (w.1 23 6)) (fun r_6 => some r_6)))
set_option maxRecDepth 20000 in
theorem bX7_way_E {p : Program} {l : Launch} {e : Env} {s : State} {m : MethodId} {args : Array Value} {below : List Frame} {meth : Method} {c : Code} {Q : State → Prop} {D : va_G} {c3 : C3} {ad : Nat → Nat} {A : Nat → Prop} {r : Int32} {w : Mm} (X : Cx p s m args c cX7_way 3 RX7 wsX7_way D c3 (encC c3 ad) gC A) (hret : Ri p l e (rmX7_way) s m args below meth c Q cX7_way D (encC c3 ad) A r w) : ∀ (x1 : Int32) (x2 : Int32) (H : Heap) (locs : List Loc) (ls : Array Slot), va_P D vwCl ((encC c3 ad) w) H → va_S A s.heap H locs → lv_has ls 3 [(0, .ref (ad 0)), (1, .int x1), (2, .int x2)] → fX7_way_E x1 x2 w = some r → W p l e (rmX7_way) s m args below meth c H locs 0 0 Q (F0 m 0 ls []) := by
  have hx := X.1
  have hb := X.2.1
  have hml := X.2.2.1
  have hown := X.2.2.2.1
  have hts := X.2.2.2.2.1
  intro x1 x2 H locs ls hP hS hl h
  unfold fX7_way_E at h
  refine lv_iload_n hx hb dX7_way_0 rfl (lv_at hl 1 rfl) ?_
  refine lv_iload_n hx hb dX7_way_1 rfl (lv_at hl 2 rfl) ?_
  obtain ⟨r_2, e_1, h⟩ := bo_s h
  refine x_goi X hS (x_runS (As := [.int x1, .int x2]) (rest := []) X gC_ok hP hS (ctX3_hasRooms l D c3 ad w _ x1 x2 _ e_1) (va_cwS 2 hts gX7_way_X3_hasRooms rfl rfl rfl (by decide +kernel) ⟨by decide, by decide⟩) rfl hl.1 rfl (Nat.le_of_ble_eq_true rfl) dX7_way_2) (fun H locs hP hS => ?_)
  refine lv_if_eq (tgt := 23) hx hb dX7_way_5 (by decide) (fun c_4 => ?_) (fun c_4 => ?_)
  · replace h := it_p c_4 h
    refine lv_iconst (v := (-1)) hx hb dX7_way_23 (by decide) ?_
    obtain rfl := Option.some.inj h
    exact hret _ _ _ _ hP hS dX7_way_24
  · replace h := it_n c_4 h
    refine lv_iload_n hx hb dX7_way_8 rfl (lv_at hl 1 rfl) ?_
    refine lv_iload_n hx hb dX7_way_9 rfl (lv_at hl 2 rfl) ?_
    refine lv_aload_n hx hb dX7_way_10 rfl (lv_at hl 0 rfl) ?_
    refine x_get (rest := [.int x2, .int x1]) X hP (gC0 c3 ad w) rfl iwX7_way_X7 3 (by decide) lkX7_way_27 rfl dX7_way_11 ?_
    refine x_get (rest := [.int x2, .int x1]) X hP (gC23 c3 ad w) rfl iwX7_way_X2 6 (by decide) lkX7_way_226 rfl dX7_way_14 ?_
    obtain ⟨r_6, e_5, h⟩ := bo_s h
    refine x_goi X hS (x_runS (As := [.int x1, .int x2, .int (w.1 23 6)]) (rest := []) X gC_ok hP hS (ctX3_steps l D c3 ad w _ x1 x2 (w.1 23 6) _ e_5) (va_cwS 3 hts gX7_way_X3_steps rfl rfl rfl (by decide +kernel) ⟨by decide, by decide⟩) rfl hl.1 rfl (Nat.le_of_ble_eq_true rfl) dX7_way_17) (fun H locs hP hS => ?_)
    refine lv_goto (tgt := 24) hx hb dX7_way_20 (by decide) ?_
    obtain rfl := Option.some.inj h
    exact hret _ _ _ _ hP hS dX7_way_24
def fX7_way (x1 : Int32) (x2 : Int32) (w : Mm) : Option (Int32) := fX7_way_E x1 x2 w
theorem ctX7_way (l : Launch) (D : va_G) (c3 : C3) (ad : Nat → Nat) (w : Mm) (sz : Nat) (x1 : Int32) (x2 : Int32) (r : Int32) (h : fX7_way x1 x2 w = some r) : Ci l yX7_way wsX7_way rmX7_way D c3 (encC c3 ad) gC [.ref (ad 0), .int x1, .int x2] w sz r w := by
  refine Ci.of (cc := cX7_way) (maxL := 3) (encC_ok c3 ad) (by decide) rfl (Nat.le_of_ble_eq_true rfl) ?_
  intro p e s m below meth c A Q ls X hret hP hS hl
  exact bX7_way_E X hret x1 x2 _ _ ls hP hS hl h
def rmX3_onEachWay : Room := { frames := 2, cells := 0, slots := 0, locals := 46 }
def fX3_onEachWay_48 (k18 : Int32 → Int32 → Option (Int32)) (x0 : Int32) (x1 : Int32) (x2 : Int32) (x3 : Int32) (x4 : Int32) : Option (Int32) := k18 x3 (x4 + 1)
set_option maxRecDepth 20000 in
theorem bX3_onEachWay_48 {p : Program} {l : Launch} {e : Env} {s : State} {m : MethodId} {args : Array Value} {below : List Frame} {meth : Method} {c : Code} {Q : State → Prop} {D : va_G} {c3 : C3} {ad : Nat → Nat} {A : Nat → Prop} {r : Int32} {w : Mm} (X : Cx p s m args c cX3_onEachWay 5 RX3 wsX3_onEachWay D c3 (encC c3 ad) gC A) (hret : Ri p l e (rmX3_onEachWay) s m args below meth c Q cX3_onEachWay D (encC c3 ad) A r w) {x0 : Int32} {x1 : Int32} {x2 : Int32} {k18 : Int32 → Int32 → Option (Int32)} (hk18 : ∀ (x3 : Int32) (x4 : Int32) (H : Heap) (locs : List Loc) (ls : Array Slot), va_P D vwCl ((encC c3 ad) w) H → va_S A s.heap H locs → lv_has ls 5 [(0, .int x0), (1, .int x1), (2, .int x2), (3, .int x3), (4, .int x4)] → k18 x3 x4 = some r → W p l e (rmX3_onEachWay) s m args below meth c H locs 0 0 Q (F0 m 18 ls [])) : ∀ (x3 : Int32) (x4 : Int32) (H : Heap) (locs : List Loc) (ls : Array Slot), va_P D vwCl ((encC c3 ad) w) H → va_S A s.heap H locs → lv_has ls 5 [(0, .int x0), (1, .int x1), (2, .int x2), (3, .int x3), (4, .int x4)] → fX3_onEachWay_48 k18 x0 x1 x2 x3 x4 = some r → W p l e (rmX3_onEachWay) s m args below meth c H locs 0 0 Q (F0 m 48 ls []) := by
  have hx := X.1
  have hb := X.2.1
  have hml := X.2.2.1
  have hown := X.2.2.2.1
  have hts := X.2.2.2.2.1
  intro x3 x4 H locs ls hP hS hl h
  unfold fX3_onEachWay_48 at h
  refine lv_iinc (v := (x4 + 1)) (lv' := [(4, .int (x4 + 1)), (0, .int x0), (1, .int x1), (2, .int x2), (3, .int x3)]) hx hb dX3_onEachWay_48 hl (k := 4) rfl rfl (by decide) rfl (fun ls hl => ?_)
  refine lv_goto (tgt := 18) hx hb dX3_onEachWay_51 (by decide) ?_
  exact hk18 x3 (x4 + 1) _ _ _ hP hS (lv_sub hl [1, 2, 3, 4, 0] rfl) h
def fX3_onEachWay_18 (x0 : Int32) (x1 : Int32) (x2 : Int32) : Nat → Int32 → Int32 → Option (Int32)
  | 0, _, _ => none
  | n + 1, x3, x4 => (if 12 ≤ x4 then some x3 else bo (fX3_steps x0 x1 (x2 ||| (1 <<< (x4 &&& 31)))) (fun r_3 => (if r_3 = (-9) then nm (x3 ||| (1 <<< (x4 &&& 31))) (fun x3_6 => fX3_onEachWay_48 (fX3_onEachWay_18 x0 x1 x2 n) x0 x1 x2 x3_6 x4) else fX3_onEachWay_48 (fX3_onEachWay_18 x0 x1 x2 n) x0 x1 x2 x3 x4)))
set_option maxRecDepth 20000 in
theorem bX3_onEachWay_18 {p : Program} {l : Launch} {e : Env} {s : State} {m : MethodId} {args : Array Value} {below : List Frame} {meth : Method} {c : Code} {Q : State → Prop} {D : va_G} {c3 : C3} {ad : Nat → Nat} {A : Nat → Prop} {r : Int32} {w : Mm} (X : Cx p s m args c cX3_onEachWay 5 RX3 wsX3_onEachWay D c3 (encC c3 ad) gC A) (hret : Ri p l e (rmX3_onEachWay) s m args below meth c Q cX3_onEachWay D (encC c3 ad) A r w) : ∀ (x0 : Int32) (x1 : Int32) (x2 : Int32) (n : Nat) (x3 : Int32) (x4 : Int32) (H : Heap) (locs : List Loc) (ls : Array Slot), va_P D vwCl ((encC c3 ad) w) H → va_S A s.heap H locs → lv_has ls 5 [(0, .int x0), (1, .int x1), (2, .int x2), (3, .int x3), (4, .int x4)] → fX3_onEachWay_18 x0 x1 x2 n x3 x4 = some r → W p l e (rmX3_onEachWay) s m args below meth c H locs 0 0 Q (F0 m 18 ls []) := by
  have hx := X.1
  have hb := X.2.1
  have hml := X.2.2.1
  have hown := X.2.2.2.1
  have hts := X.2.2.2.2.1
  intro x0 x1 x2 n
  induction n with
  | zero =>
    intro x3 x4 H locs ls hP hS hl h
    exact absurd h (by simp [fX3_onEachWay_18])
  | succ n ih =>
    intro x3 x4 H locs ls hP hS hl h
    rw [fX3_onEachWay_18] at h
    refine lv_iload hx hb dX3_onEachWay_18 (lv_at hl 4 rfl) ?_
    refine lv_bipush (v := 12) hx hb dX3_onEachWay_20 (by decide) ?_
    refine lv_icmp_ge (tgt := 54) hx hb dX3_onEachWay_22 (by decide) (fun c_1 => ?_) (fun c_1 => ?_)
    · replace h := it_p c_1 h
      refine lv_iload_n hx hb dX3_onEachWay_54 rfl (lv_at hl 3 rfl) ?_
      obtain rfl := Option.some.inj h
      exact hret _ _ _ _ hP hS dX3_onEachWay_55
    · replace h := it_n c_1 h
      refine lv_iload_n hx hb dX3_onEachWay_25 rfl (lv_at hl 0 rfl) ?_
      refine lv_iload_n hx hb dX3_onEachWay_26 rfl (lv_at hl 1 rfl) ?_
      refine lv_iload_n hx hb dX3_onEachWay_27 rfl (lv_at hl 2 rfl) ?_
      refine lv_iconst (v := 1) hx hb dX3_onEachWay_28 (by decide) ?_
      refine lv_iload hx hb dX3_onEachWay_29 (lv_at hl 4 rfl) ?_
      refine lv_ishl hx hb dX3_onEachWay_31 ?_
      refine lv_ior hx hb dX3_onEachWay_32 ?_
      obtain ⟨r_3, e_2, h⟩ := bo_s h
      refine x_goi X hS (x_runS (As := [.int x0, .int x1, .int (x2 ||| (1 <<< (x4 &&& 31)))]) (rest := []) X gC_ok hP hS (ctX3_steps l D c3 ad w _ x0 x1 (x2 ||| (1 <<< (x4 &&& 31))) _ e_2) (va_cwS 3 hts gX3_onEachWay_X3_steps rfl rfl rfl (by decide +kernel) ⟨by decide, by decide⟩) rfl hl.1 rfl (Nat.le_of_ble_eq_true rfl) dX3_onEachWay_33) (fun H locs hP hS => ?_)
      refine lv_bipush (v := (-9)) hx hb dX3_onEachWay_36 (by decide) ?_
      refine lv_icmp_ne (tgt := 48) hx hb dX3_onEachWay_38 (by decide) (fun c_5 => ?_) (fun c_5 => ?_)
      · replace h := it_n c_5 h
        exact bX3_onEachWay_48 (x0 := x0) (x1 := x1) (x2 := x2) (k18 := (fX3_onEachWay_18 x0 x1 x2 n)) X hret ih x3 x4 _ _ _ hP hS (lv_sub hl [0, 1, 2, 3, 4] rfl) h
      · replace h := it_p c_5 h
        refine lv_iload_n hx hb dX3_onEachWay_41 rfl (lv_at hl 3 rfl) ?_
        refine lv_iconst (v := 1) hx hb dX3_onEachWay_42 (by decide) ?_
        refine lv_iload hx hb dX3_onEachWay_43 (lv_at hl 4 rfl) ?_
        refine lv_ishl hx hb dX3_onEachWay_45 ?_
        refine lv_ior hx hb dX3_onEachWay_46 ?_
        refine x_nmi h (fun x3_6 h => ?_)
        refine lv_istore_n (lv' := [(3, .int x3_6), (0, .int x0), (1, .int x1), (2, .int x2), (4, .int x4)]) hx hb dX3_onEachWay_47 rfl hl (by decide) rfl (fun ls hl => ?_)
        exact bX3_onEachWay_48 (x0 := x0) (x1 := x1) (x2 := x2) (k18 := (fX3_onEachWay_18 x0 x1 x2 n)) X hret ih x3_6 x4 _ _ _ hP hS (lv_sub hl [1, 2, 3, 0, 4] rfl) h
def fX3_onEachWay_E (x0 : Int32) (x1 : Int32) (x2 : Int32) : Option (Int32) := bo (fX3_steps x0 x1 x2) (fun r_8 => (if r_8 = (-9) then some 0 else fX3_onEachWay_18 x0 x1 x2 FU 0 0))
set_option maxRecDepth 20000 in
theorem bX3_onEachWay_E {p : Program} {l : Launch} {e : Env} {s : State} {m : MethodId} {args : Array Value} {below : List Frame} {meth : Method} {c : Code} {Q : State → Prop} {D : va_G} {c3 : C3} {ad : Nat → Nat} {A : Nat → Prop} {r : Int32} {w : Mm} (X : Cx p s m args c cX3_onEachWay 5 RX3 wsX3_onEachWay D c3 (encC c3 ad) gC A) (hret : Ri p l e (rmX3_onEachWay) s m args below meth c Q cX3_onEachWay D (encC c3 ad) A r w) : ∀ (x0 : Int32) (x1 : Int32) (x2 : Int32) (H : Heap) (locs : List Loc) (ls : Array Slot), va_P D vwCl ((encC c3 ad) w) H → va_S A s.heap H locs → lv_has ls 5 [(0, .int x0), (1, .int x1), (2, .int x2)] → fX3_onEachWay_E x0 x1 x2 = some r → W p l e (rmX3_onEachWay) s m args below meth c H locs 0 0 Q (F0 m 0 ls []) := by
  have hx := X.1
  have hb := X.2.1
  have hml := X.2.2.1
  have hown := X.2.2.2.1
  have hts := X.2.2.2.2.1
  intro x0 x1 x2 H locs ls hP hS hl h
  unfold fX3_onEachWay_E at h
  refine lv_iload_n hx hb dX3_onEachWay_0 rfl (lv_at hl 0 rfl) ?_
  refine lv_iload_n hx hb dX3_onEachWay_1 rfl (lv_at hl 1 rfl) ?_
  refine lv_iload_n hx hb dX3_onEachWay_2 rfl (lv_at hl 2 rfl) ?_
  obtain ⟨r_8, e_7, h⟩ := bo_s h
  refine x_goi X hS (x_runS (As := [.int x0, .int x1, .int x2]) (rest := []) X gC_ok hP hS (ctX3_steps l D c3 ad w _ x0 x1 x2 _ e_7) (va_cwS 3 hts gX3_onEachWay_X3_steps rfl rfl rfl (by decide +kernel) ⟨by decide, by decide⟩) rfl hl.1 rfl (Nat.le_of_ble_eq_true rfl) dX3_onEachWay_3) (fun H locs hP hS => ?_)
  refine lv_bipush (v := (-9)) hx hb dX3_onEachWay_6 (by decide) ?_
  refine lv_icmp_ne (tgt := 13) hx hb dX3_onEachWay_8 (by decide) (fun c_10 => ?_) (fun c_10 => ?_)
  · replace h := it_n c_10 h
    refine lv_iconst (v := 0) hx hb dX3_onEachWay_13 (by decide) ?_
    refine lv_istore_n (lv' := [(3, .int 0), (0, .int x0), (1, .int x1), (2, .int x2)]) hx hb dX3_onEachWay_14 rfl hl (by decide) rfl (fun ls hl => ?_)
    refine lv_iconst (v := 0) hx hb dX3_onEachWay_15 (by decide) ?_
    refine lv_istore (lv' := [(4, .int 0), (3, .int 0), (0, .int x0), (1, .int x1), (2, .int x2)]) hx hb dX3_onEachWay_16 hl (by decide) rfl (fun ls hl => ?_)
    exact bX3_onEachWay_18 X hret x0 x1 x2 FU 0 0 _ _ _ hP hS (lv_sub hl [2, 3, 4, 1, 0] rfl) h
  · replace h := it_p c_10 h
    refine lv_iconst (v := 0) hx hb dX3_onEachWay_11 (by decide) ?_
    obtain rfl := Option.some.inj h
    exact hret _ _ _ _ hP hS dX3_onEachWay_12
def fX3_onEachWay (x0 : Int32) (x1 : Int32) (x2 : Int32) : Option (Int32) := fX3_onEachWay_E x0 x1 x2
theorem ctX3_onEachWay (l : Launch) (D : va_G) (c3 : C3) (ad : Nat → Nat) (w : Mm) (sz : Nat) (x0 : Int32) (x1 : Int32) (x2 : Int32) (r : Int32) (h : fX3_onEachWay x0 x1 x2 = some r) : Ci l yX3_onEachWay wsX3_onEachWay rmX3_onEachWay D c3 (encC c3 ad) gC [.int x0, .int x1, .int x2] w sz r w := by
  refine Ci.of (cc := cX3_onEachWay) (maxL := 5) (encC_ok c3 ad) (by decide) rfl (Nat.le_of_ble_eq_true rfl) ?_
  intro p e s m below meth c A Q ls X hret hP hS hl
  exact bX3_onEachWay_E X hret x0 x1 x2 _ _ ls hP hS hl h
theorem iwX7_cuts_X2 : ∀ w ∈ wsX20, w ∈ wsX7_cuts := fun _ h => List.mem_cons_of_mem _ (List.mem_append_right _ h)
theorem iwX7_cuts_X7 : ∀ w ∈ wsX70, w ∈ wsX7_cuts := fun _ h => List.mem_cons_of_mem _ (List.mem_append_left _ (List.mem_append_right _ h))
theorem lkX7_cuts_27 : Cond.fieldLink RX7 27 "StuckDoor" "family" "LStuckDoor$Family;" ∈ wsX7_cuts := by decide +kernel
theorem lkX7_cuts_226 : Cond.fieldLink RX7 226 "StuckDoor$Family" "stuckRooms" "I" ∈ wsX7_cuts := by decide +kernel
def rmX7_cuts : Room := { frames := 3, cells := 0, slots := 0, locals := 70 }
def fX7_cuts_E (x1 : Int32) (x2 : Int32) (w : Mm) : Option (Int32) := bo (fX3_hasRooms x1 x2) (fun r_2 => (if r_2 = 0 then some (-1) else bo (fX3_onEachWay x1 x2 (w.1 23 6)) (fun r_6 => some r_6)))
set_option maxRecDepth 20000 in
theorem bX7_cuts_E {p : Program} {l : Launch} {e : Env} {s : State} {m : MethodId} {args : Array Value} {below : List Frame} {meth : Method} {c : Code} {Q : State → Prop} {D : va_G} {c3 : C3} {ad : Nat → Nat} {A : Nat → Prop} {r : Int32} {w : Mm} (X : Cx p s m args c cX7_cuts 3 RX7 wsX7_cuts D c3 (encC c3 ad) gC A) (hret : Ri p l e (rmX7_cuts) s m args below meth c Q cX7_cuts D (encC c3 ad) A r w) : ∀ (x1 : Int32) (x2 : Int32) (H : Heap) (locs : List Loc) (ls : Array Slot), va_P D vwCl ((encC c3 ad) w) H → va_S A s.heap H locs → lv_has ls 3 [(0, .ref (ad 0)), (1, .int x1), (2, .int x2)] → fX7_cuts_E x1 x2 w = some r → W p l e (rmX7_cuts) s m args below meth c H locs 0 0 Q (F0 m 0 ls []) := by
  have hx := X.1
  have hb := X.2.1
  have hml := X.2.2.1
  have hown := X.2.2.2.1
  have hts := X.2.2.2.2.1
  intro x1 x2 H locs ls hP hS hl h
  unfold fX7_cuts_E at h
  refine lv_iload_n hx hb dX7_cuts_0 rfl (lv_at hl 1 rfl) ?_
  refine lv_iload_n hx hb dX7_cuts_1 rfl (lv_at hl 2 rfl) ?_
  obtain ⟨r_2, e_1, h⟩ := bo_s h
  refine x_goi X hS (x_runS (As := [.int x1, .int x2]) (rest := []) X gC_ok hP hS (ctX3_hasRooms l D c3 ad w _ x1 x2 _ e_1) (va_cwS 2 hts gX7_cuts_X3_hasRooms rfl rfl rfl (by decide +kernel) ⟨by decide, by decide⟩) rfl hl.1 rfl (Nat.le_of_ble_eq_true rfl) dX7_cuts_2) (fun H locs hP hS => ?_)
  refine lv_if_eq (tgt := 23) hx hb dX7_cuts_5 (by decide) (fun c_4 => ?_) (fun c_4 => ?_)
  · replace h := it_p c_4 h
    refine lv_iconst (v := (-1)) hx hb dX7_cuts_23 (by decide) ?_
    obtain rfl := Option.some.inj h
    exact hret _ _ _ _ hP hS dX7_cuts_24
  · replace h := it_n c_4 h
    refine lv_iload_n hx hb dX7_cuts_8 rfl (lv_at hl 1 rfl) ?_
    refine lv_iload_n hx hb dX7_cuts_9 rfl (lv_at hl 2 rfl) ?_
    refine lv_aload_n hx hb dX7_cuts_10 rfl (lv_at hl 0 rfl) ?_
    refine x_get (rest := [.int x2, .int x1]) X hP (gC0 c3 ad w) rfl iwX7_cuts_X7 3 (by decide) lkX7_cuts_27 rfl dX7_cuts_11 ?_
    refine x_get (rest := [.int x2, .int x1]) X hP (gC23 c3 ad w) rfl iwX7_cuts_X2 6 (by decide) lkX7_cuts_226 rfl dX7_cuts_14 ?_
    obtain ⟨r_6, e_5, h⟩ := bo_s h
    refine x_goi X hS (x_runS (As := [.int x1, .int x2, .int (w.1 23 6)]) (rest := []) X gC_ok hP hS (ctX3_onEachWay l D c3 ad w _ x1 x2 (w.1 23 6) _ e_5) (va_cwS 3 hts gX7_cuts_X3_onEachWay rfl rfl rfl (by decide +kernel) ⟨by decide, by decide⟩) rfl hl.1 rfl (Nat.le_of_ble_eq_true rfl) dX7_cuts_17) (fun H locs hP hS => ?_)
    refine lv_goto (tgt := 24) hx hb dX7_cuts_20 (by decide) ?_
    obtain rfl := Option.some.inj h
    exact hret _ _ _ _ hP hS dX7_cuts_24
def fX7_cuts (x1 : Int32) (x2 : Int32) (w : Mm) : Option (Int32) := fX7_cuts_E x1 x2 w
theorem ctX7_cuts (l : Launch) (D : va_G) (c3 : C3) (ad : Nat → Nat) (w : Mm) (sz : Nat) (x1 : Int32) (x2 : Int32) (r : Int32) (h : fX7_cuts x1 x2 w = some r) : Ci l yX7_cuts wsX7_cuts rmX7_cuts D c3 (encC c3 ad) gC [.ref (ad 0), .int x1, .int x2] w sz r w := by
  refine Ci.of (cc := cX7_cuts) (maxL := 3) (encC_ok c3 ad) (by decide) rfl (Nat.le_of_ble_eq_true rfl) ?_
  intro p e s m below meth c A Q ls X hret hP hS hl
  exact bX7_cuts_E X hret x1 x2 _ _ ls hP hS hl h

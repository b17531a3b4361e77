theorem iwX7_next_X2 : ∀ w ∈ wsX20, w ∈ wsX7_next := fun _ h => List.mem_cons_of_mem _ (List.mem_append_left _ (List.mem_append_right _ h))
theorem iwX7_next_X7 : ∀ w ∈ wsX70, w ∈ wsX7_next := fun _ h => List.mem_cons_of_mem _ (List.mem_append_left _ (List.mem_append_left _ (List.mem_append_right _ h)))
theorem lkX7_next_14 : Cond.fieldLink RX7 14 "StuckDoor" "ints" "LStuckDoor$Rows;" ∈ wsX7_next := by decide +kernel
theorem lkX7_next_27 : Cond.fieldLink RX7 27 "StuckDoor" "family" "LStuckDoor$Family;" ∈ wsX7_next := by decide +kernel
theorem lkX7_next_60 : Cond.fieldLink RX7 60 "StuckDoor" "askedLast" "I" ∈ wsX7_next := by decide +kernel
theorem lkX7_next_121 : Cond.fieldLink RX7 121 "StuckDoor$Family" "sayings" "I" ∈ wsX7_next := by decide +kernel
theorem lkX7_next_247 : Cond.fieldLink RX7 247 "StuckDoor$Family" "topics" "[I" ∈ wsX7_next := by decide +kernel
def rmX7_next : Room := { frames := 4, cells := 0, slots := 0, locals := 87 }
def fX7_next_130 (k58 : Int32 → Int32 → Int32 → Mm → Option (Int32 × Mm)) (x3 : Int32) (x4 : Int32) (x5 : Int32) (x6 : Int32) (w : Mm) : Option (Int32 × Mm) := k58 x4 x5 (x6 + 1) w
set_option maxRecDepth 20000 in
theorem bX7_next_130 {p : Program} {l : Launch} {e : Env} {s : State} {m : MethodId} {args : Array Value} {below : List Frame} {meth : Method} {c : Code} {Q : State → Prop} {D : va_G} {c3 : C3} {ad : Nat → Nat} {A : Nat → Prop} {r : Int32} {w' : Mm} (X : Cx p s m args c cX7_next 8 RX7 wsX7_next D c3 (encC c3 ad) gC A) (hret : Ri p l e (rmX7_next) s m args below meth c Q cX7_next D (encC c3 ad) A r w') {x3 : Int32} {k58 : Int32 → Int32 → Int32 → Mm → Option (Int32 × Mm)} (hk58 : ∀ (x4 : Int32) (x5 : Int32) (x6 : Int32) (w : Mm) (H : Heap) (locs : List Loc) (ls : Array Slot), va_P D vwCl ((encC c3 ad) w) H → va_S A s.heap H locs → lv_has ls 8 [(0, .ref (ad 0)), (3, .int x3), (4, .int x4), (5, .int x5), (6, .int x6)] → k58 x4 x5 x6 w = some (r, w') → W p l e (rmX7_next) s m args below meth c H locs 0 0 Q (F0 m 58 ls [])) : ∀ (x4 : Int32) (x5 : Int32) (x6 : Int32) (w : Mm) (H : Heap) (locs : List Loc) (ls : Array Slot), va_P D vwCl ((encC c3 ad) w) H → va_S A s.heap H locs → lv_has ls 8 [(0, .ref (ad 0)), (3, .int x3), (4, .int x4), (5, .int x5), (6, .int x6)] → fX7_next_130 k58 x3 x4 x5 x6 w = some (r, w') → W p l e (rmX7_next) s m args below meth c H locs 0 0 Q (F0 m 130 ls []) := by
  have hx := X.1
  have hb := X.2.1
  have hml := X.2.2.1
  have hown := X.2.2.2.1
  have hts := X.2.2.2.2.1
  intro x4 x5 x6 w H locs ls hP hS hl h
  unfold fX7_next_130 at h
  refine lv_iinc (v := (x6 + 1)) (lv' := [(6, .int (x6 + 1)), (0, .ref (ad 0)), (3, .int x3), (4, .int x4), (5, .int x5)]) hx hb dX7_next_130 hl (k := 4) rfl rfl (by decide) rfl (fun ls hl => ?_)
  refine lv_goto (tgt := 58) hx hb dX7_next_133 (by decide) ?_
  exact hk58 x4 x5 (x6 + 1) w _ _ _ hP hS (lv_sub hl [1, 2, 3, 4, 0] rfl) h
def fX7_next_122 (k58 : Int32 → Int32 → Int32 → Mm → Option (Int32 × Mm)) (x3 : Int32) (x6 : Int32) (x7 : Int32) (w : Mm) : Option (Int32 × Mm) := fX7_next_130 k58 x3 x6 x7 x6 w
set_option maxRecDepth 20000 in
theorem bX7_next_122 {p : Program} {l : Launch} {e : Env} {s : State} {m : MethodId} {args : Array Value} {below : List Frame} {meth : Method} {c : Code} {Q : State → Prop} {D : va_G} {c3 : C3} {ad : Nat → Nat} {A : Nat → Prop} {r : Int32} {w' : Mm} (X : Cx p s m args c cX7_next 8 RX7 wsX7_next D c3 (encC c3 ad) gC A) (hret : Ri p l e (rmX7_next) s m args below meth c Q cX7_next D (encC c3 ad) A r w') {x3 : Int32} {k58 : Int32 → Int32 → Int32 → Mm → Option (Int32 × Mm)} (hk58 : ∀ (x4 : Int32) (x5 : Int32) (x6 : Int32) (w : Mm) (H : Heap) (locs : List Loc) (ls : Array Slot), va_P D vwCl ((encC c3 ad) w) H → va_S A s.heap H locs → lv_has ls 8 [(0, .ref (ad 0)), (3, .int x3), (4, .int x4), (5, .int x5), (6, .int x6)] → k58 x4 x5 x6 w = some (r, w') → W p l e (rmX7_next) s m args below meth c H locs 0 0 Q (F0 m 58 ls [])) : ∀ (x6 : Int32) (x7 : Int32) (w : Mm) (H : Heap) (locs : List Loc) (ls : Array Slot), va_P D vwCl ((encC c3 ad) w) H → va_S A s.heap H locs → lv_has ls 8 [(0, .ref (ad 0)), (3, .int x3), (6, .int x6), (7, .int x7)] → fX7_next_122 k58 x3 x6 x7 w = some (r, w') → W p l e (rmX7_next) s m args below meth c H locs 0 0 Q (F0 m 122 ls []) := by
  have hx := X.1
  have hb := X.2.1
  have hml := X.2.2.1
  have hown := X.2.2.2.1
  have hts := X.2.2.2.2.1
  intro x6 x7 w H locs ls hP hS hl h
  unfold fX7_next_122 at h
  refine lv_iload hx hb dX7_next_122 (lv_at hl 2 rfl) ?_
  refine lv_istore (lv' := [(4, .int x6), (0, .ref (ad 0)), (3, .int x3), (6, .int x6), (7, .int x7)]) hx hb dX7_next_124 hl (by decide) rfl (fun ls hl => ?_)
  refine lv_iload hx hb dX7_next_126 (lv_at hl 4 rfl) ?_
  refine lv_istore (lv' := [(5, .int x7), (4, .int x6), (0, .ref (ad 0)), (3, .int x3), (6, .int x6), (7, .int x7)]) hx hb dX7_next_128 hl (by decide) rfl (fun ls hl => ?_)
  exact bX7_next_130 (x3 := x3) (k58 := k58) X hret hk58 x6 x7 x6 w _ _ _ hP hS (lv_sub hl [2, 3, 1, 0, 4] rfl) h
def fX7_next_58 (x3 : Int32) : Nat → Int32 → Int32 → Int32 → Mm → Option (Int32 × Mm)
  | 0, _, _, _, _ => none
  | n + 1, x4, x5, x6, w => (if (w.1 23 2) ≤ x6 then nm (sA w 0 9 x5) (fun w_2 => some (x4, w_2)) else gd (inb x6 6 = true) (bo (fJ6_bitCount_0f7a4 ((w.1 27 x6.toNatClampNeg) &&& x3)) (fun r_5 => (if x5 < r_5 then fX7_next_122 (fX7_next_58 x3 n) x3 x6 r_5 w else (if r_5 = x5 then bo (fX2_nearNow_23 x6 w) (fun r_10 => bo (fX2_nearNow_23 x4 w) (fun r_13 => (if r_13 ≤ r_10 then fX7_next_130 (fX7_next_58 x3 n) x3 x4 x5 x6 w else fX7_next_122 (fX7_next_58 x3 n) x3 x6 r_5 w))) else fX7_next_130 (fX7_next_58 x3 n) x3 x4 x5 x6 w)))))
set_option maxRecDepth 20000 in
theorem bX7_next_58 {p : Program} {l : Launch} {e : Env} {s : State} {m : MethodId} {args : Array Value} {below : List Frame} {meth : Method} {c : Code} {Q : State → Prop} {D : va_G} {c3 : C3} {ad : Nat → Nat} {A : Nat → Prop} {r : Int32} {w' : Mm} (X : Cx p s m args c cX7_next 8 RX7 wsX7_next D c3 (encC c3 ad) gC A) (hret : Ri p l e (rmX7_next) s m args below meth c Q cX7_next D (encC c3 ad) A r w') : ∀ (x3 : Int32) (n : Nat) (x4 : Int32) (x5 : Int32) (x6 : Int32) (w : Mm) (H : Heap) (locs : List Loc) (ls : Array Slot), va_P D vwCl ((encC c3 ad) w) H → va_S A s.heap H locs → lv_has ls 8 [(0, .ref (ad 0)), (3, .int x3), (4, .int x4), (5, .int x5), (6, .int x6)] → fX7_next_58 x3 n x4 x5 x6 w = some (r, w') → W p l e (rmX7_next) s m args below meth c H locs 0 0 Q (F0 m 58 ls []) := by
  have hx := X.1
  have hb := X.2.1
  have hml := X.2.2.1
  have hown := X.2.2.2.1
  have hts := X.2.2.2.2.1
  intro x3 n
  induction n with
  | zero =>
    intro x4 x5 x6 w H locs ls hP hS hl h
    exact absurd h (by simp [fX7_next_58])
  | succ n ih =>
    intro x4 x5 x6 w H locs ls hP hS hl h
    rw [fX7_next_58] at h
    refine lv_iload hx hb dX7_next_58 (lv_at hl 4 rfl) ?_
    refine lv_aload_n hx hb dX7_next_60 rfl (lv_at hl 0 rfl) ?_
    refine x_get (rest := [.int x6]) X hP (gC0 c3 ad w) rfl iwX7_next_X7 3 (by decide) lkX7_next_27 rfl dX7_next_61 ?_
    refine x_get (rest := [.int x6]) X hP (gC23 c3 ad w) rfl iwX7_next_X2 2 (by decide) lkX7_next_121 rfl dX7_next_64 ?_
    refine lv_icmp_ge (tgt := 136) hx hb dX7_next_67 (by decide) (fun c_1 => ?_) (fun c_1 => ?_)
    · replace h := it_p c_1 h
      refine lv_aload_n hx hb dX7_next_136 rfl (lv_at hl 0 rfl) ?_
      refine lv_iload hx hb dX7_next_137 (lv_at hl 3 rfl) ?_
      refine x_put (v := .int x5) X hP hS (gC0 c3 ad w) rfl iwX7_next_X7 tyX7 tyX7_ok nmX7 9 (by decide) lkX7_next_60 rfl rfl rfl (Nat.le_of_ble_eq_true rfl) (pC0_9 c3 ad w x5) dX7_next_139 (fun H locs hP hS => ?_)
      refine x_nmw h hP (fun w_2 h hP => ?_)
      refine lv_iload hx hb dX7_next_142 (lv_at hl 2 rfl) ?_
      obtain ⟨rfl, rfl⟩ := Prod.mk.inj (Option.some.inj h)
      exact hret _ _ _ _ hP hS dX7_next_144
    · replace h := it_n c_1 h
      refine lv_aload_n hx hb dX7_next_70 rfl (lv_at hl 0 rfl) ?_
      refine x_get (rest := []) X hP (gC0 c3 ad w) rfl iwX7_next_X7 3 (by decide) lkX7_next_27 rfl dX7_next_71 ?_
      refine x_get (rest := []) X hP (gC23 c3 ad w) rfl iwX7_next_X2 5 (by decide) lkX7_next_247 rfl dX7_next_74 ?_
      refine lv_iload hx hb dX7_next_77 (lv_at hl 4 rfl) ?_
      obtain ⟨g_3, h⟩ := gd_s h
      refine x_iald X hP (gC27 c3 ad w) g_3 dX7_next_79 ?_
      refine lv_iload_n hx hb dX7_next_80 rfl (lv_at hl 1 rfl) ?_
      refine lv_iand hx hb dX7_next_81 ?_
      obtain ⟨r_5, e_4, h⟩ := bo_s h
      refine x_goi X hS (x_runS (As := [.int ((w.1 27 x6.toNatClampNeg) &&& x3)]) (rest := []) X gC_ok hP hS (ctJ6_bitCount_0f7a4 l D c3 ad w _ ((w.1 27 x6.toNatClampNeg) &&& x3) _ e_4) (va_cwS 1 hts gX7_next_J6_bitCount_0f7a4 rfl rfl rfl (by decide +kernel) ⟨by decide, by decide⟩) rfl hl.1 rfl (Nat.le_of_ble_eq_true rfl) dX7_next_82) (fun H locs hP hS => ?_)
      refine lv_istore (lv' := [(7, .int r_5), (0, .ref (ad 0)), (3, .int x3), (4, .int x4), (5, .int x5), (6, .int x6)]) hx hb dX7_next_85 hl (by decide) rfl (fun ls hl => ?_)
      refine lv_iload hx hb dX7_next_87 (lv_at hl 0 rfl) ?_
      refine lv_iload hx hb dX7_next_89 (lv_at hl 4 rfl) ?_
      refine lv_icmp_gt (tgt := 122) hx hb dX7_next_91 (by decide) (fun c_7 => ?_) (fun c_7 => ?_)
      · replace h := it_p c_7 h
        exact bX7_next_122 (x3 := x3) (k58 := (fX7_next_58 x3 n)) X hret ih x6 r_5 w _ _ _ hP hS (lv_sub hl [1, 2, 5, 0] rfl) h
      · replace h := it_n c_7 h
        refine lv_iload hx hb dX7_next_94 (lv_at hl 0 rfl) ?_
        refine lv_iload hx hb dX7_next_96 (lv_at hl 4 rfl) ?_
        refine lv_icmp_ne (tgt := 130) hx hb dX7_next_98 (by decide) (fun c_8 => ?_) (fun c_8 => ?_)
        · replace h := it_n c_8 h
          exact bX7_next_130 (x3 := x3) (k58 := (fX7_next_58 x3 n)) X hret ih x4 x5 x6 w _ _ _ hP hS (lv_sub hl [1, 2, 3, 4, 5] rfl) h
        · replace h := it_p c_8 h
          refine lv_aload_n hx hb dX7_next_101 rfl (lv_at hl 1 rfl) ?_
          refine x_get (rest := []) X hP (gC0 c3 ad w) rfl iwX7_next_X7 3 (by decide) lkX7_next_27 rfl dX7_next_102 ?_
          refine lv_iload hx hb dX7_next_105 (lv_at hl 5 rfl) ?_
          obtain ⟨r_10, e_9, h⟩ := bo_s h
          refine x_goi X hS (x_runV (As := [.int x6]) (rest := []) X gC_ok hP hS (ctX2_nearNow_23 l D c3 ad w _ x6 _ e_9) (cwV 1 hts gX7_next_X2_nearNow rfl rfl rfl (by decide +kernel) ⟨by decide, by decide⟩) (gC23 c3 ad w) rfl rfl rfl hl.1 rfl (Nat.le_of_ble_eq_true rfl) dX7_next_107) (fun H locs hP hS => ?_)
          refine lv_aload_n hx hb dX7_next_110 rfl (lv_at hl 1 rfl) ?_
          refine x_get (rest := [.int r_10]) X hP (gC0 c3 ad w) rfl iwX7_next_X7 3 (by decide) lkX7_next_27 rfl dX7_next_111 ?_
          refine lv_iload hx hb dX7_next_114 (lv_at hl 3 rfl) ?_
          obtain ⟨r_13, e_12, h⟩ := bo_s h
          refine x_goi X hS (x_runV (As := [.int x4]) (rest := [.int r_10]) X gC_ok hP hS (ctX2_nearNow_23 l D c3 ad w _ x4 _ e_12) (cwV 1 hts gX7_next_X2_nearNow rfl rfl rfl (by decide +kernel) ⟨by decide, by decide⟩) (gC23 c3 ad w) rfl rfl rfl hl.1 rfl (Nat.le_of_ble_eq_true rfl) dX7_next_116) (fun H locs hP hS => ?_)
          refine lv_icmp_ge (tgt := 130) hx hb dX7_next_119 (by decide) (fun c_15 => ?_) (fun c_15 => ?_)
          · replace h := it_p c_15 h
            exact bX7_next_130 (x3 := x3) (k58 := (fX7_next_58 x3 n)) X hret ih x4 x5 x6 w _ _ _ hP hS (lv_sub hl [1, 2, 3, 4, 5] rfl) h
          · replace h := it_n c_15 h
            exact bX7_next_122 (x3 := x3) (k58 := (fX7_next_58 x3 n)) X hret ih x6 r_5 w _ _ _ hP hS (lv_sub hl [1, 2, 5, 0] rfl) h
def fX7_next_E (x1 : Int32) (w : Mm) : Option (Int32 × Mm) := bo (fX5_isNumber_1 x1 w) (fun r_17 => (if r_17 = 0 then some ((-1), w) else bo (fX2_isEmpty_23 w) (fun r_21 => (if r_21 = 0 then bd (fX7_refusalOfNamed x1 w) (fun r_25 w_26 => (if r_25 = 0 then bo (fX7_topicsOfNamed x1 w_26) (fun r_29 => nm (7 &&& (r_29 ^^^ (-1))) (fun x3_31 => fX7_next_58 x3_31 FU 0 (-1) 0 w_26)) else some (r_25, w_26))) else some ((-4), w)))))
set_option maxRecDepth 20000 in
theorem bX7_next_E {p : Program} {l : Launch} {e : Env} {s : State} {m : MethodId} {args : Array Value} {below : List Frame} {meth : Method} {c : Code} {Q : State → Prop} {D : va_G} {c3 : C3} {ad : Nat → Nat} {A : Nat → Prop} {r : Int32} {w' : Mm} (X : Cx p s m args c cX7_next 8 RX7 wsX7_next D c3 (encC c3 ad) gC A) (hret : Ri p l e (rmX7_next) s m args below meth c Q cX7_next D (encC c3 ad) A r w') : ∀ (x1 : Int32) (w : Mm) (H : Heap) (locs : List Loc) (ls : Array Slot), va_P D vwCl ((encC c3 ad) w) H → va_S A s.heap H locs → lv_has ls 8 [(0, .ref (ad 0)), (1, .int x1)] → fX7_next_E x1 w = some (r, w') → W p l e (rmX7_next) s m args below meth c H locs 0 0 Q (F0 m 0 ls []) := by
  have hx := X.1
  have hb := X.2.1
  have hml := X.2.2.1
  have hown := X.2.2.2.1
  have hts := X.2.2.2.2.1
  intro x1 w H locs ls hP hS hl h
  unfold fX7_next_E at h
  refine lv_aload_n hx hb dX7_next_0 rfl (lv_at hl 0 rfl) ?_
  refine x_get (rest := []) X hP (gC0 c3 ad w) rfl iwX7_next_X7 0 (by decide) lkX7_next_14 rfl dX7_next_1 ?_
  refine lv_iload_n hx hb dX7_next_4 rfl (lv_at hl 1 rfl) ?_
  obtain ⟨r_17, e_16, h⟩ := bo_s h
  refine x_goi X hS (x_runV (As := [.int x1]) (rest := []) X gC_ok hP hS (ctX5_isNumber_1 l D c3 ad w _ x1 _ e_16) (cwV 1 hts gX7_next_X5_isNumber rfl rfl rfl (by decide +kernel) ⟨by decide, by decide⟩) (gC1 c3 ad w) rfl rfl rfl hl.1 rfl (Nat.le_of_ble_eq_true rfl) dX7_next_5) (fun H locs hP hS => ?_)
  refine lv_if_ne (tgt := 13) hx hb dX7_next_8 (by decide) (fun c_19 => ?_) (fun c_19 => ?_)
  · replace h := it_n c_19 h
    refine lv_aload_n hx hb dX7_next_13 rfl (lv_at hl 0 rfl) ?_
    refine x_get (rest := []) X hP (gC0 c3 ad w) rfl iwX7_next_X7 3 (by decide) lkX7_next_27 rfl dX7_next_14 ?_
    obtain ⟨r_21, e_20, h⟩ := bo_s h
    refine x_goi X hS (x_runV (As := []) (rest := []) X gC_ok hP hS (ctX2_isEmpty_23 l D c3 ad w _ _ e_20) (cwV 0 hts gX7_next_X2_isEmpty rfl rfl rfl (by decide +kernel) ⟨by decide, by decide⟩) (gC23 c3 ad w) rfl rfl rfl hl.1 rfl (Nat.le_of_ble_eq_true rfl) dX7_next_17) (fun H locs hP hS => ?_)
    refine lv_if_eq (tgt := 26) hx hb dX7_next_20 (by decide) (fun c_23 => ?_) (fun c_23 => ?_)
    · replace h := it_p c_23 h
      refine lv_aload_n hx hb dX7_next_26 rfl (lv_at hl 0 rfl) ?_
      refine lv_iload_n hx hb dX7_next_27 rfl (lv_at hl 1 rfl) ?_
      obtain ⟨r_25, w_26, e_24, h⟩ := bd_s h
      refine x_goi X hS (x_runV (As := [.int x1]) (rest := []) X gC_ok hP hS (ctX7_refusalOfNamed l D c3 ad w _ x1 _ _ e_24) (cwV 1 hts gX7_next_X7_refusalOfNamed rfl rfl rfl (by decide +kernel) ⟨by decide, by decide⟩) (gC0 c3 ad w) rfl rfl rfl hl.1 rfl (Nat.le_of_ble_eq_true rfl) dX7_next_28) (fun H locs hP hS => ?_)
      refine lv_istore_n (lv' := [(2, .int r_25), (0, .ref (ad 0)), (1, .int x1)]) hx hb dX7_next_31 rfl hl (by decide) rfl (fun ls hl => ?_)
      refine lv_iload_n hx hb dX7_next_32 rfl (lv_at hl 0 rfl) ?_
      refine lv_if_eq (tgt := 38) hx hb dX7_next_33 (by decide) (fun c_27 => ?_) (fun c_27 => ?_)
      · replace h := it_p c_27 h
        refine lv_bipush (v := 7) hx hb dX7_next_38 (by decide) ?_
        refine lv_aload_n hx hb dX7_next_40 rfl (lv_at hl 1 rfl) ?_
        refine lv_iload_n hx hb dX7_next_41 rfl (lv_at hl 2 rfl) ?_
        obtain ⟨r_29, e_28, h⟩ := bo_s h
        refine x_goi X hS (x_runV (As := [.int x1]) (rest := [.int 7]) X gC_ok hP hS (ctX7_topicsOfNamed l D c3 ad w_26 _ x1 _ e_28) (cwV 1 hts gX7_next_X7_topicsOfNamed rfl rfl rfl (by decide +kernel) ⟨by decide, by decide⟩) (gC0 c3 ad w_26) rfl rfl rfl hl.1 rfl (Nat.le_of_ble_eq_true rfl) dX7_next_42) (fun H locs hP hS => ?_)
        refine lv_iconst (v := (-1)) hx hb dX7_next_45 (by decide) ?_
        refine lv_ixor hx hb dX7_next_46 ?_
        refine lv_iand hx hb dX7_next_47 ?_
        refine x_nmi h (fun x3_31 h => ?_)
        refine lv_istore_n (lv' := [(3, .int x3_31), (2, .int r_25), (0, .ref (ad 0)), (1, .int x1)]) hx hb dX7_next_48 rfl hl (by decide) rfl (fun ls hl => ?_)
        refine lv_iconst (v := 0) hx hb dX7_next_49 (by decide) ?_
        refine lv_istore (lv' := [(4, .int 0), (3, .int x3_31), (2, .int r_25), (0, .ref (ad 0)), (1, .int x1)]) hx hb dX7_next_50 hl (by decide) rfl (fun ls hl => ?_)
        refine lv_iconst (v := (-1)) hx hb dX7_next_52 (by decide) ?_
        refine lv_istore (lv' := [(5, .int (-1)), (4, .int 0), (3, .int x3_31), (2, .int r_25), (0, .ref (ad 0)), (1, .int x1)]) hx hb dX7_next_53 hl (by decide) rfl (fun ls hl => ?_)
        refine lv_iconst (v := 0) hx hb dX7_next_55 (by decide) ?_
        refine lv_istore (lv' := [(6, .int 0), (5, .int (-1)), (4, .int 0), (3, .int x3_31), (2, .int r_25), (0, .ref (ad 0)), (1, .int x1)]) hx hb dX7_next_56 hl (by decide) rfl (fun ls hl => ?_)
        exact bX7_next_58 X hret x3_31 FU 0 (-1) 0 w_26 _ _ _ hP hS (lv_sub hl [5, 3, 2, 1, 0] rfl) h
      · replace h := it_n c_27 h
        refine lv_iload_n hx hb dX7_next_36 rfl (lv_at hl 0 rfl) ?_
        obtain ⟨rfl, rfl⟩ := Prod.mk.inj (Option.some.inj h)
        exact hret _ _ _ _ hP hS dX7_next_37
    · replace h := it_n c_23 h
      refine lv_bipush (v := (-4)) hx hb dX7_next_23 (by decide) ?_
      obtain ⟨rfl, rfl⟩ := Prod.mk.inj (Option.some.inj h)
      exact hret _ _ _ _ hP hS dX7_next_25
  · replace h := it_p c_19 h
    refine lv_iconst (v := (-1)) hx hb dX7_next_11 (by decide) ?_
    obtain ⟨rfl, rfl⟩ := Prod.mk.inj (Option.some.inj h)
    exact hret _ _ _ _ hP hS dX7_next_12
def fX7_next (x1 : Int32) (w : Mm) : Option (Int32 × Mm) := fX7_next_E x1 w
theorem ctX7_next (l : Launch) (D : va_G) (c3 : C3) (ad : Nat → Nat) (w : Mm) (sz : Nat) (x1 : Int32) (r : Int32) (w' : Mm) (h : fX7_next x1 w = some (r, w')) : Ci l yX7_next wsX7_next rmX7_next D c3 (encC c3 ad) gC [.ref (ad 0), .int x1] w sz r w' := by
  refine Ci.of (cc := cX7_next) (maxL := 8) (encC_ok c3 ad) (by decide) rfl (Nat.le_of_ble_eq_true rfl) ?_
  intro p e s m below meth c A Q ls X hret hP hS hl
  exact bX7_next_E X hret x1 w _ _ ls hP hS hl h
theorem iwX7_kinds_X2 : ∀ w ∈ wsX20, w ∈ wsX7_kinds := fun _ h => List.mem_cons_of_mem _ (List.mem_append_right _ h)
theorem iwX7_kinds_X7 : ∀ w ∈ wsX70, w ∈ wsX7_kinds := fun _ h => List.mem_cons_of_mem _ (List.mem_append_left _ (List.mem_append_right _ h))
theorem lkX7_kinds_27 : Cond.fieldLink RX7 27 "StuckDoor" "family" "LStuckDoor$Family;" ∈ wsX7_kinds := by decide +kernel
theorem lkX7_kinds_138 : Cond.fieldLink RX7 138 "StuckDoor$Family" "told" "[I" ∈ wsX7_kinds := by decide +kernel
def rmX7_kinds : Room := { frames := 2, cells := 0, slots := 0, locals := 44 }
def fX7_kinds_89 (k52 : Int32 → Int32 → Option (Int32)) (x1 : Int32) (x2 : Int32) (x3 : Int32) (x4 : Int32) (x5 : Int32) (x6 : Int32) (w : Mm) : Option (Int32) := k52 x5 (x6 + 1)
set_option maxRecDepth 20000 in
theorem bX7_kinds_89 {p : Program} {l : Launch} {e : Env} {s : State} {m : MethodId} {args : Array Value} {below : List Frame} {meth : Method} {c : Code} {Q : State → Prop} {D : va_G} {c3 : C3} {ad : Nat → Nat} {A : Nat → Prop} {r : Int32} {w : Mm} (X : Cx p s m args c cX7_kinds 7 RX7 wsX7_kinds D c3 (encC c3 ad) gC A) (hret : Ri p l e (rmX7_kinds) s m args below meth c Q cX7_kinds D (encC c3 ad) A r w) {x1 : Int32} {x2 : Int32} {x3 : Int32} {x4 : Int32} {k52 : Int32 → Int32 → Option (Int32)} (hk52 : ∀ (x5 : Int32) (x6 : Int32) (H : Heap) (locs : List Loc) (ls : Array Slot), va_P D vwCl ((encC c3 ad) w) H → va_S A s.heap H locs → lv_has ls 7 [(0, .ref (ad 0)), (1, .int x1), (2, .int x2), (3, .int x3), (4, .int x4), (5, .int x5), (6, .int x6)] → k52 x5 x6 = some r → W p l e (rmX7_kinds) s m args below meth c H locs 0 0 Q (F0 m 52 ls [])) : ∀ (x5 : Int32) (x6 : Int32) (H : Heap) (locs : List Loc) (ls : Array Slot), va_P D vwCl ((encC c3 ad) w) H → va_S A s.heap H locs → lv_has ls 7 [(0, .ref (ad 0)), (1, .int x1), (2, .int x2), (3, .int x3), (4, .int x4), (5, .int x5), (6, .int x6)] → fX7_kinds_89 k52 x1 x2 x3 x4 x5 x6 w = some r → W p l e (rmX7_kinds) s m args below meth c H locs 0 0 Q (F0 m 89 ls []) := by
  have hx := X.1
  have hb := X.2.1
  have hml := X.2.2.1
  have hown := X.2.2.2.1
  have hts := X.2.2.2.2.1
  intro x5 x6 H locs ls hP hS hl h
  unfold fX7_kinds_89 at h
  refine lv_iinc (v := (x6 + 1)) (lv' := [(6, .int (x6 + 1)), (0, .ref (ad 0)), (1, .int x1), (2, .int x2), (3, .int x3), (4, .int x4), (5, .int x5)]) hx hb dX7_kinds_89 hl (k := 6) rfl rfl (by decide) rfl (fun ls hl => ?_)
  refine lv_goto (tgt := 52) hx hb dX7_kinds_92 (by decide) ?_
  exact hk52 x5 (x6 + 1) _ _ _ hP hS (lv_sub hl [1, 2, 3, 4, 5, 6, 0] rfl) h
def fX7_kinds_52 (x1 : Int32) (x2 : Int32) (x3 : Int32) (x4 : Int32) (w : Mm) : Nat → Int32 → Int32 → Option (Int32)
  | 0, _, _ => none
  | n + 1, x5, x6 => (if 6 ≤ x6 then some x5 else gd (inb x1 6 = true) (bo (fX2_nearOf x6 (w.1 26 x1.toNatClampNeg) x3 x4) (fun r_4 => (if r_4 = x2 then nm (x5 ||| (1 <<< (x6 &&& 31))) (fun x5_7 => fX7_kinds_89 (fX7_kinds_52 x1 x2 x3 x4 w n) x1 x2 x3 x4 x5_7 x6 w) else fX7_kinds_89 (fX7_kinds_52 x1 x2 x3 x4 w n) x1 x2 x3 x4 x5 x6 w))))
set_option maxRecDepth 20000 in
theorem bX7_kinds_52 {p : Program} {l : Launch} {e : Env} {s : State} {m : MethodId} {args : Array Value} {below : List Frame} {meth : Method} {c : Code} {Q : State → Prop} {D : va_G} {c3 : C3} {ad : Nat → Nat} {A : Nat → Prop} {r : Int32} {w : Mm} (X : Cx p s m args c cX7_kinds 7 RX7 wsX7_kinds D c3 (encC c3 ad) gC A) (hret : Ri p l e (rmX7_kinds) s m args below meth c Q cX7_kinds D (encC c3 ad) A r w) : ∀ (x1 : Int32) (x2 : Int32) (x3 : Int32) (x4 : Int32) (n : Nat) (x5 : Int32) (x6 : Int32) (H : Heap) (locs : List Loc) (ls : Array Slot), va_P D vwCl ((encC c3 ad) w) H → va_S A s.heap H locs → lv_has ls 7 [(0, .ref (ad 0)), (1, .int x1), (2, .int x2), (3, .int x3), (4, .int x4), (5, .int x5), (6, .int x6)] → fX7_kinds_52 x1 x2 x3 x4 w n x5 x6 = some r → W p l e (rmX7_kinds) s m args below meth c H locs 0 0 Q (F0 m 52 ls []) := by
  have hx := X.1
  have hb := X.2.1
  have hml := X.2.2.1
  have hown := X.2.2.2.1
  have hts := X.2.2.2.2.1
  intro x1 x2 x3 x4 n
  induction n with
  | zero =>
    intro x5 x6 H locs ls hP hS hl h
    exact absurd h (by simp [fX7_kinds_52])
  | succ n ih =>
    intro x5 x6 H locs ls hP hS hl h
    rw [fX7_kinds_52] at h
    refine lv_iload hx hb dX7_kinds_52 (lv_at hl 6 rfl) ?_
    refine lv_bipush (v := 6) hx hb dX7_kinds_54 (by decide) ?_
    refine lv_icmp_ge (tgt := 95) hx hb dX7_kinds_56 (by decide) (fun c_1 => ?_) (fun c_1 => ?_)
    · replace h := it_p c_1 h
      refine lv_iload hx hb dX7_kinds_95 (lv_at hl 5 rfl) ?_
      obtain rfl := Option.some.inj h
      exact hret _ _ _ _ hP hS dX7_kinds_97
    · replace h := it_n c_1 h
      refine lv_iload hx hb dX7_kinds_59 (lv_at hl 6 rfl) ?_
      refine lv_aload_n hx hb dX7_kinds_61 rfl (lv_at hl 0 rfl) ?_
      refine x_get (rest := [.int x6]) X hP (gC0 c3 ad w) rfl iwX7_kinds_X7 3 (by decide) lkX7_kinds_27 rfl dX7_kinds_62 ?_
      refine x_get (rest := [.int x6]) X hP (gC23 c3 ad w) rfl iwX7_kinds_X2 4 (by decide) lkX7_kinds_138 rfl dX7_kinds_65 ?_
      refine lv_iload_n hx hb dX7_kinds_68 rfl (lv_at hl 1 rfl) ?_
      obtain ⟨g_2, h⟩ := gd_s h
      refine x_iald X hP (gC26 c3 ad w) g_2 dX7_kinds_69 ?_
      refine lv_iload_n hx hb dX7_kinds_70 rfl (lv_at hl 3 rfl) ?_
      refine lv_iload hx hb dX7_kinds_71 (lv_at hl 4 rfl) ?_
      obtain ⟨r_4, e_3, h⟩ := bo_s h
      refine x_goi X hS (x_runS (As := [.int x6, .int (w.1 26 x1.toNatClampNeg), .int x3, .int x4]) (rest := []) X gC_ok hP hS (ctX2_nearOf l D c3 ad w _ x6 (w.1 26 x1.toNatClampNeg) x3 x4 _ e_3) (va_cwS 4 hts gX7_kinds_X2_nearOf rfl rfl rfl (by decide +kernel) ⟨by decide, by decide⟩) rfl hl.1 rfl (Nat.le_of_ble_eq_true rfl) dX7_kinds_73) (fun H locs hP hS => ?_)
      refine lv_iload_n hx hb dX7_kinds_76 rfl (lv_at hl 2 rfl) ?_
      refine lv_icmp_ne (tgt := 89) hx hb dX7_kinds_77 (by decide) (fun c_6 => ?_) (fun c_6 => ?_)
      · replace h := it_n c_6 h
        exact bX7_kinds_89 (x1 := x1) (x2 := x2) (x3 := x3) (x4 := x4) (k52 := (fX7_kinds_52 x1 x2 x3 x4 w n)) X hret ih x5 x6 _ _ _ hP hS (lv_sub hl [0, 1, 2, 3, 4, 5, 6] rfl) h
      · replace h := it_p c_6 h
        refine lv_iload hx hb dX7_kinds_80 (lv_at hl 5 rfl) ?_
        refine lv_iconst (v := 1) hx hb dX7_kinds_82 (by decide) ?_
        refine lv_iload hx hb dX7_kinds_83 (lv_at hl 6 rfl) ?_
        refine lv_ishl hx hb dX7_kinds_85 ?_
        refine lv_ior hx hb dX7_kinds_86 ?_
        refine x_nmi h (fun x5_7 h => ?_)
        refine lv_istore (lv' := [(5, .int x5_7), (0, .ref (ad 0)), (1, .int x1), (2, .int x2), (3, .int x3), (4, .int x4), (6, .int x6)]) hx hb dX7_kinds_87 hl (by decide) rfl (fun ls hl => ?_)
        exact bX7_kinds_89 (x1 := x1) (x2 := x2) (x3 := x3) (x4 := x4) (k52 := (fX7_kinds_52 x1 x2 x3 x4 w n)) X hret ih x5_7 x6 _ _ _ hP hS (lv_sub hl [1, 2, 3, 4, 5, 0, 6] rfl) h
def fX7_kinds_E (x1 : Int32) (x2 : Int32) (x3 : Int32) (x4 : Int32) (w : Mm) : Option (Int32) := bo (fX2_hasSaying_23 x1 w) (fun r_9 => (if r_9 = 0 then some (-1) else (if x2 < 0 then some (-1) else (if x2 ≤ 99 then (if x3 < 0 then some (-1) else (if 9 < x3 then some (-1) else (if x4 < 0 then some (-1) else (if x4 ≤ 3 then fX7_kinds_52 x1 x2 x3 x4 w FU 0 0 else some (-1))))) else some (-1)))))
set_option maxRecDepth 20000 in
theorem bX7_kinds_E {p : Program} {l : Launch} {e : Env} {s : State} {m : MethodId} {args : Array Value} {below : List Frame} {meth : Method} {c : Code} {Q : State → Prop} {D : va_G} {c3 : C3} {ad : Nat → Nat} {A : Nat → Prop} {r : Int32} {w : Mm} (X : Cx p s m args c cX7_kinds 7 RX7 wsX7_kinds D c3 (encC c3 ad) gC A) (hret : Ri p l e (rmX7_kinds) s m args below meth c Q cX7_kinds D (encC c3 ad) A r w) : ∀ (x1 : Int32) (x2 : Int32) (x3 : Int32) (x4 : Int32) (H : Heap) (locs : List Loc) (ls : Array Slot), va_P D vwCl ((encC c3 ad) w) H → va_S A s.heap H locs → lv_has ls 7 [(0, .ref (ad 0)), (1, .int x1), (2, .int x2), (3, .int x3), (4, .int x4)] → fX7_kinds_E x1 x2 x3 x4 w = some r → W p l e (rmX7_kinds) s m args below meth c H locs 0 0 Q (F0 m 0 ls []) := by
  have hx := X.1
  have hb := X.2.1
  have hml := X.2.2.1
  have hown := X.2.2.2.1
  have hts := X.2.2.2.2.1
  intro x1 x2 x3 x4 H locs ls hP hS hl h
  unfold fX7_kinds_E at h
  refine lv_aload_n hx hb dX7_kinds_0 rfl (lv_at hl 0 rfl) ?_
  refine x_get (rest := []) X hP (gC0 c3 ad w) rfl iwX7_kinds_X7 3 (by decide) lkX7_kinds_27 rfl dX7_kinds_1 ?_
  refine lv_iload_n hx hb dX7_kinds_4 rfl (lv_at hl 1 rfl) ?_
  obtain ⟨r_9, e_8, h⟩ := bo_s h
  refine x_goi X hS (x_runV (As := [.int x1]) (rest := []) X gC_ok hP hS (ctX2_hasSaying_23 l D c3 ad w _ x1 _ e_8) (cwV 1 hts gX7_kinds_X2_hasSaying rfl rfl rfl (by decide +kernel) ⟨by decide, by decide⟩) (gC23 c3 ad w) rfl rfl rfl hl.1 rfl (Nat.le_of_ble_eq_true rfl) dX7_kinds_5) (fun H locs hP hS => ?_)
  refine lv_if_eq (tgt := 21) hx hb dX7_kinds_8 (by decide) (fun c_11 => ?_) (fun c_11 => ?_)
  · replace h := it_p c_11 h
    refine lv_iconst (v := (-1)) hx hb dX7_kinds_21 (by decide) ?_
    obtain rfl := Option.some.inj h
    exact hret _ _ _ _ hP hS dX7_kinds_22
  · replace h := it_n c_11 h
    refine lv_iload_n hx hb dX7_kinds_11 rfl (lv_at hl 2 rfl) ?_
    refine lv_if_lt (tgt := 21) hx hb dX7_kinds_12 (by decide) (fun c_12 => ?_) (fun c_12 => ?_)
    · replace h := it_p c_12 h
      refine lv_iconst (v := (-1)) hx hb dX7_kinds_21 (by decide) ?_
      obtain rfl := Option.some.inj h
      exact hret _ _ _ _ hP hS dX7_kinds_22
    · replace h := it_n c_12 h
      refine lv_iload_n hx hb dX7_kinds_15 rfl (lv_at hl 2 rfl) ?_
      refine lv_bipush (v := 99) hx hb dX7_kinds_16 (by decide) ?_
      refine lv_icmp_le (tgt := 23) hx hb dX7_kinds_18 (by decide) (fun c_13 => ?_) (fun c_13 => ?_)
      · replace h := it_p c_13 h
        refine lv_iload_n hx hb dX7_kinds_23 rfl (lv_at hl 3 rfl) ?_
        refine lv_if_lt (tgt := 44) hx hb dX7_kinds_24 (by decide) (fun c_14 => ?_) (fun c_14 => ?_)
        · replace h := it_p c_14 h
          refine lv_iconst (v := (-1)) hx hb dX7_kinds_44 (by decide) ?_
          obtain rfl := Option.some.inj h
          exact hret _ _ _ _ hP hS dX7_kinds_45
        · replace h := it_n c_14 h
          refine lv_iload_n hx hb dX7_kinds_27 rfl (lv_at hl 3 rfl) ?_
          refine lv_bipush (v := 9) hx hb dX7_kinds_28 (by decide) ?_
          refine lv_icmp_gt (tgt := 44) hx hb dX7_kinds_30 (by decide) (fun c_15 => ?_) (fun c_15 => ?_)
          · replace h := it_p c_15 h
            refine lv_iconst (v := (-1)) hx hb dX7_kinds_44 (by decide) ?_
            obtain rfl := Option.some.inj h
            exact hret _ _ _ _ hP hS dX7_kinds_45
          · replace h := it_n c_15 h
            refine lv_iload hx hb dX7_kinds_33 (lv_at hl 4 rfl) ?_
            refine lv_if_lt (tgt := 44) hx hb dX7_kinds_35 (by decide) (fun c_16 => ?_) (fun c_16 => ?_)
            · replace h := it_p c_16 h
              refine lv_iconst (v := (-1)) hx hb dX7_kinds_44 (by decide) ?_
              obtain rfl := Option.some.inj h
              exact hret _ _ _ _ hP hS dX7_kinds_45
            · replace h := it_n c_16 h
              refine lv_iload hx hb dX7_kinds_38 (lv_at hl 4 rfl) ?_
              refine lv_iconst (v := 3) hx hb dX7_kinds_40 (by decide) ?_
              refine lv_icmp_le (tgt := 46) hx hb dX7_kinds_41 (by decide) (fun c_17 => ?_) (fun c_17 => ?_)
              · replace h := it_p c_17 h
                refine lv_iconst (v := 0) hx hb dX7_kinds_46 (by decide) ?_
                refine lv_istore (lv' := [(5, .int 0), (0, .ref (ad 0)), (1, .int x1), (2, .int x2), (3, .int x3), (4, .int x4)]) hx hb dX7_kinds_47 hl (by decide) rfl (fun ls hl => ?_)
                refine lv_iconst (v := 0) hx hb dX7_kinds_49 (by decide) ?_
                refine lv_istore (lv' := [(6, .int 0), (5, .int 0), (0, .ref (ad 0)), (1, .int x1), (2, .int x2), (3, .int x3), (4, .int x4)]) hx hb dX7_kinds_50 hl (by decide) rfl (fun ls hl => ?_)
                exact bX7_kinds_52 X hret x1 x2 x3 x4 FU 0 0 _ _ _ hP hS (lv_sub hl [2, 3, 4, 5, 6, 1, 0] rfl) h
              · replace h := it_n c_17 h
                refine lv_iconst (v := (-1)) hx hb dX7_kinds_44 (by decide) ?_
                obtain rfl := Option.some.inj h
                exact hret _ _ _ _ hP hS dX7_kinds_45
      · replace h := it_n c_13 h
        refine lv_iconst (v := (-1)) hx hb dX7_kinds_21 (by decide) ?_
        obtain rfl := Option.some.inj h
        exact hret _ _ _ _ hP hS dX7_kinds_22
def fX7_kinds (x1 : Int32) (x2 : Int32) (x3 : Int32) (x4 : Int32) (w : Mm) : Option (Int32) := fX7_kinds_E x1 x2 x3 x4 w
theorem ctX7_kinds (l : Launch) (D : va_G) (c3 : C3) (ad : Nat → Nat) (w : Mm) (sz : Nat) (x1 : Int32) (x2 : Int32) (x3 : Int32) (x4 : Int32) (r : Int32) (h : fX7_kinds x1 x2 x3 x4 w = some r) : Ci l yX7_kinds wsX7_kinds rmX7_kinds D c3 (encC c3 ad) gC [.ref (ad 0), .int x1, .int x2, .int x3, .int x4] w sz r w := by
  refine Ci.of (cc := cX7_kinds) (maxL := 7) (encC_ok c3 ad) (by decide) rfl (Nat.le_of_ble_eq_true rfl) ?_
  intro p e s m below meth c A Q ls X hret hP hS hl
  exact bX7_kinds_E X hret x1 x2 x3 x4 _ _ ls hP hS hl h
theorem iwX7_refusalOfDuel_X7 : ∀ w ∈ wsX70, w ∈ wsX7_refusalOfDuel := fun _ h => List.mem_cons_of_mem _ (List.mem_append_left _ (List.mem_append_right _ h))
theorem lkX7_refusalOfDuel_27 : Cond.fieldLink RX7 27 "StuckDoor" "family" "LStuckDoor$Family;" ∈ wsX7_refusalOfDuel := by decide +kernel
def rmX7_refusalOfDuel : Room := { frames := 1, cells := 0, slots := 0, locals := 21 }
def fX7_refusalOfDuel_49 (w : Mm) : Option (Int32) := some (-4)
set_option maxRecDepth 20000 in
theorem bX7_refusalOfDuel_49 {p : Program} {l : Launch} {e : Env} {s : State} {m : MethodId} {args : Array Value} {below : List Frame} {meth : Method} {c : Code} {Q : State → Prop} {D : va_G} {c3 : C3} {ad : Nat → Nat} {A : Nat → Prop} {r : Int32} {w : Mm} (X : Cx p s m args c cX7_refusalOfDuel 3 RX7 wsX7_refusalOfDuel D c3 (encC c3 ad) gC A) (hret : Ri p l e (rmX7_refusalOfDuel) s m args below meth c Q cX7_refusalOfDuel D (encC c3 ad) A r w) : ∀ (H : Heap) (locs : List Loc) (ls : Array Slot), va_P D vwCl ((encC c3 ad) w) H → va_S A s.heap H locs → lv_has ls 3 [] → fX7_refusalOfDuel_49 w = some r → W p l e (rmX7_refusalOfDuel) s m args below meth c H locs 0 0 Q (F0 m 49 ls []) := by
  have hx := X.1
  have hb := X.2.1
  have hml := X.2.2.1
  have hown := X.2.2.2.1
  have hts := X.2.2.2.2.1
  intro H locs ls hP hS hl h
  unfold fX7_refusalOfDuel_49 at h
  refine lv_bipush (v := (-4)) hx hb dX7_refusalOfDuel_49 (by decide) ?_
  refine lv_goto (tgt := 55) hx hb dX7_refusalOfDuel_51 (by decide) ?_
  obtain rfl := Option.some.inj h
  exact hret _ _ _ _ hP hS dX7_refusalOfDuel_55
def fX7_refusalOfDuel_E (x1 : Int32) (x2 : Int32) (w : Mm) : Option (Int32) := bo (fX2_hasPerson_23 x1 w) (fun r_2 => (if r_2 = 0 then some (-1) else bo (fX2_hasPerson_23 x2 w) (fun r_6 => (if r_6 = 0 then some (-1) else (if x1 = x2 then some (-1) else bo (fX2_isAnyOver_23 w) (fun r_11 => (if r_11 = 0 then bo (fX2_isEmpty_23 w) (fun r_15 => (if r_15 = 0 then some 0 else fX7_refusalOfDuel_49 w)) else fX7_refusalOfDuel_49 w)))))))
set_option maxRecDepth 20000 in
theorem bX7_refusalOfDuel_E {p : Program} {l : Launch} {e : Env} {s : State} {m : MethodId} {args : Array Value} {below : List Frame} {meth : Method} {c : Code} {Q : State → Prop} {D : va_G} {c3 : C3} {ad : Nat → Nat} {A : Nat → Prop} {r : Int32} {w : Mm} (X : Cx p s m args c cX7_refusalOfDuel 3 RX7 wsX7_refusalOfDuel D c3 (encC c3 ad) gC A) (hret : Ri p l e (rmX7_refusalOfDuel) s m args below meth c Q cX7_refusalOfDuel D (encC c3 ad) A r w) : ∀ (x1 : Int32) (x2 : Int32) (H : Heap) (locs : List Loc) (ls : Array Slot), va_P D vwCl ((encC c3 ad) w) H → va_S A s.heap H locs → lv_has ls 3 [(0, .ref (ad 0)), (1, .int x1), (2, .int x2)] → fX7_refusalOfDuel_E x1 x2 w = some r → W p l e (rmX7_refusalOfDuel) s m args below meth c H locs 0 0 Q (F0 m 0 ls []) := by
  have hx := X.1
  have hb := X.2.1
  have hml := X.2.2.1
  have hown := X.2.2.2.1
  have hts := X.2.2.2.2.1
  intro x1 x2 H locs ls hP hS hl h
  unfold fX7_refusalOfDuel_E at h
  refine lv_aload_n hx hb dX7_refusalOfDuel_0 rfl (lv_at hl 0 rfl) ?_
  refine x_get (rest := []) X hP (gC0 c3 ad w) rfl iwX7_refusalOfDuel_X7 3 (by decide) lkX7_refusalOfDuel_27 rfl dX7_refusalOfDuel_1 ?_
  refine lv_iload_n hx hb dX7_refusalOfDuel_4 rfl (lv_at hl 1 rfl) ?_
  obtain ⟨r_2, e_1, h⟩ := bo_s h
  refine x_goi X hS (x_runV (As := [.int x1]) (rest := []) X gC_ok hP hS (ctX2_hasPerson_23 l D c3 ad w _ x1 _ e_1) (cwV 1 hts gX7_refusalOfDuel_X2_hasPerson rfl rfl rfl (by decide +kernel) ⟨by decide, by decide⟩) (gC23 c3 ad w) rfl rfl rfl hl.1 rfl (Nat.le_of_ble_eq_true rfl) dX7_refusalOfDuel_5) (fun H locs hP hS => ?_)
  refine lv_if_eq (tgt := 27) hx hb dX7_refusalOfDuel_8 (by decide) (fun c_4 => ?_) (fun c_4 => ?_)
  · replace h := it_p c_4 h
    refine lv_iconst (v := (-1)) hx hb dX7_refusalOfDuel_27 (by decide) ?_
    obtain rfl := Option.some.inj h
    exact hret _ _ _ _ hP hS dX7_refusalOfDuel_28
  · replace h := it_n c_4 h
    refine lv_aload_n hx hb dX7_refusalOfDuel_11 rfl (lv_at hl 0 rfl) ?_
    refine x_get (rest := []) X hP (gC0 c3 ad w) rfl iwX7_refusalOfDuel_X7 3 (by decide) lkX7_refusalOfDuel_27 rfl dX7_refusalOfDuel_12 ?_
    refine lv_iload_n hx hb dX7_refusalOfDuel_15 rfl (lv_at hl 2 rfl) ?_
    obtain ⟨r_6, e_5, h⟩ := bo_s h
    refine x_goi X hS (x_runV (As := [.int x2]) (rest := []) X gC_ok hP hS (ctX2_hasPerson_23 l D c3 ad w _ x2 _ e_5) (cwV 1 hts gX7_refusalOfDuel_X2_hasPerson rfl rfl rfl (by decide +kernel) ⟨by decide, by decide⟩) (gC23 c3 ad w) rfl rfl rfl hl.1 rfl (Nat.le_of_ble_eq_true rfl) dX7_refusalOfDuel_16) (fun H locs hP hS => ?_)
    refine lv_if_eq (tgt := 27) hx hb dX7_refusalOfDuel_19 (by decide) (fun c_8 => ?_) (fun c_8 => ?_)
    · replace h := it_p c_8 h
      refine lv_iconst (v := (-1)) hx hb dX7_refusalOfDuel_27 (by decide) ?_
      obtain rfl := Option.some.inj h
      exact hret _ _ _ _ hP hS dX7_refusalOfDuel_28
    · replace h := it_n c_8 h
      refine lv_iload_n hx hb dX7_refusalOfDuel_22 rfl (lv_at hl 1 rfl) ?_
      refine lv_iload_n hx hb dX7_refusalOfDuel_23 rfl (lv_at hl 2 rfl) ?_
      refine lv_icmp_ne (tgt := 29) hx hb dX7_refusalOfDuel_24 (by decide) (fun c_9 => ?_) (fun c_9 => ?_)
      · replace h := it_n c_9 h
        refine lv_aload_n hx hb dX7_refusalOfDuel_29 rfl (lv_at hl 0 rfl) ?_
        refine x_get (rest := []) X hP (gC0 c3 ad w) rfl iwX7_refusalOfDuel_X7 3 (by decide) lkX7_refusalOfDuel_27 rfl dX7_refusalOfDuel_30 ?_
        obtain ⟨r_11, e_10, h⟩ := bo_s h
        refine x_goi X hS (x_runV (As := []) (rest := []) X gC_ok hP hS (ctX2_isAnyOver_23 l D c3 ad w _ _ e_10) (cwV 0 hts gX7_refusalOfDuel_X2_isAnyOver rfl rfl rfl (by decide +kernel) ⟨by decide, by decide⟩) (gC23 c3 ad w) rfl rfl rfl hl.1 rfl (Nat.le_of_ble_eq_true rfl) dX7_refusalOfDuel_33) (fun H locs hP hS => ?_)
        refine lv_if_ne (tgt := 49) hx hb dX7_refusalOfDuel_36 (by decide) (fun c_13 => ?_) (fun c_13 => ?_)
        · replace h := it_n c_13 h
          exact bX7_refusalOfDuel_49 X hret _ _ _ hP hS (lv_sub hl [] rfl) h
        · replace h := it_p c_13 h
          refine lv_aload_n hx hb dX7_refusalOfDuel_39 rfl (lv_at hl 0 rfl) ?_
          refine x_get (rest := []) X hP (gC0 c3 ad w) rfl iwX7_refusalOfDuel_X7 3 (by decide) lkX7_refusalOfDuel_27 rfl dX7_refusalOfDuel_40 ?_
          obtain ⟨r_15, e_14, h⟩ := bo_s h
          refine x_goi X hS (x_runV (As := []) (rest := []) X gC_ok hP hS (ctX2_isEmpty_23 l D c3 ad w _ _ e_14) (cwV 0 hts gX7_refusalOfDuel_X2_isEmpty rfl rfl rfl (by decide +kernel) ⟨by decide, by decide⟩) (gC23 c3 ad w) rfl rfl rfl hl.1 rfl (Nat.le_of_ble_eq_true rfl) dX7_refusalOfDuel_43) (fun H locs hP hS => ?_)
          refine lv_if_eq (tgt := 54) hx hb dX7_refusalOfDuel_46 (by decide) (fun c_17 => ?_) (fun c_17 => ?_)
          · replace h := it_p c_17 h
            refine lv_iconst (v := 0) hx hb dX7_refusalOfDuel_54 (by decide) ?_
            obtain rfl := Option.some.inj h
            exact hret _ _ _ _ hP hS dX7_refusalOfDuel_55
          · replace h := it_n c_17 h
            exact bX7_refusalOfDuel_49 X hret _ _ _ hP hS (lv_sub hl [] rfl) h
      · replace h := it_p c_9 h
        refine lv_iconst (v := (-1)) hx hb dX7_refusalOfDuel_27 (by decide) ?_
        obtain rfl := Option.some.inj h
        exact hret _ _ _ _ hP hS dX7_refusalOfDuel_28
def fX7_refusalOfDuel (x1 : Int32) (x2 : Int32) (w : Mm) : Option (Int32) := fX7_refusalOfDuel_E x1 x2 w
theorem ctX7_refusalOfDuel (l : Launch) (D : va_G) (c3 : C3) (ad : Nat → Nat) (w : Mm) (sz : Nat) (x1 : Int32) (x2 : Int32) (r : Int32) (h : fX7_refusalOfDuel x1 x2 w = some r) : Ci l yX7_refusalOfDuel wsX7_refusalOfDuel rmX7_refusalOfDuel D c3 (encC c3 ad) gC [.ref (ad 0), .int x1, .int x2] w sz r w := by
  refine Ci.of (cc := cX7_refusalOfDuel) (maxL := 3) (encC_ok c3 ad) (by decide) rfl (Nat.le_of_ble_eq_true rfl) ?_
  intro p e s m below meth c A Q ls X hret hP hS hl
  exact bX7_refusalOfDuel_E X hret x1 x2 _ _ ls hP hS hl h
theorem iwX1_worthOf_X2 : ∀ w ∈ wsX20, w ∈ wsX1_worthOf := fun _ h => List.mem_cons_of_mem _ (List.mem_append_right _ h)
theorem lkX1_worthOf_31 : Cond.fieldLink RX1 31 "StuckDoor$Family" "strain" "I" ∈ wsX1_worthOf := by decide +kernel
theorem lkX1_worthOf_34 : Cond.fieldLink RX1 34 "StuckDoor$Family" "settled" "I" ∈ wsX1_worthOf := by decide +kernel
def rmX1_worthOf (fR lR : Nat) : Room := { frames := fR + 5, cells := 0, slots := 0, locals := lR + 109 }
def fX1_worthOf_E (rc : Int32 → Int32 → Int32 → Int32 → Mm → Option (Int32 × Mm)) (x1 : Int32) (x2 : Int32) (x3 : Int32) (x4 : Int32) (x5 : Int32) (w : Mm) : Option (Int32 × Mm) := bo (fX2_bearsSaying_23 x1 x3 w) (fun r_2 => (if r_2 = 0 then some ((-1), w) else nm (w.1 23 7) (fun x6_5 => nm (w.1 23 8) (fun x7_6 => bo (fX2_attempt_23 x1 x3 w) (fun w_9 => bd (rc x2 x1 (x4 ||| (1 <<< (x3 &&& 31))) (x5 + 1) w_9) (fun r_11 w_12 => nm (-r_11) (fun x8_13 => bo (fX2_takeBack_23 x3 x6_5 x7_6 w_12) (fun w_16 => some (x8_13, w_16)))))))))
set_option maxRecDepth 20000 in
theorem bX1_worthOf_E {p : Program} {l : Launch} {e : Env} {s : State} {m : MethodId} {args : Array Value} {below : List Frame} {meth : Method} {c : Code} {Q : State → Prop} {D : va_G} {c3 : C3} {ad : Nat → Nat} {A : Nat → Prop} {r : Int32} {w' : Mm} {fR lR : Nat} {rc : Int32 → Int32 → Int32 → Int32 → Mm → Option (Int32 × Mm)} (X : Cx p s m args c cX1_worthOf 9 RX1 wsX1_worthOf D c3 (encC c3 ad) gC A) (hret : Ri p l e (rmX1_worthOf fR lR) s m args below meth c Q cX1_worthOf D (encC c3 ad) A r w') (hrc : ∀ (a0 a1 a2 a3 : Int32) (v : Mm) (sz : Nat) (r2 : Int32) (v2 : Mm), rc a0 a1 a2 a3 v = some (r2, v2) → Ci l yX1_worth wsX1_worth (mkR fR lR) D c3 (encC c3 ad) gC [.ref (ad 23), .int a0, .int a1, .int a2, .int a3] v sz r2 v2) : ∀ (x1 : Int32) (x2 : Int32) (x3 : Int32) (x4 : Int32) (x5 : Int32) (w : Mm) (H : Heap) (locs : List Loc) (ls : Array Slot), va_P D vwCl ((encC c3 ad) w) H → va_S A s.heap H locs → lv_has ls 9 [(0, .ref (ad 23)), (1, .int x1), (2, .int x2), (3, .int x3), (4, .int x4), (5, .int x5)] → fX1_worthOf_E rc x1 x2 x3 x4 x5 w = some (r, w') → W p l e (rmX1_worthOf fR lR) s m args below meth c H locs 0 0 Q (F0 m 0 ls []) := by
  have hx := X.1
  have hb := X.2.1
  have hml := X.2.2.1
  have hown := X.2.2.2.1
  have hts := X.2.2.2.2.1
  intro x1 x2 x3 x4 x5 w H locs ls hP hS hl h
  unfold fX1_worthOf_E at h
  refine lv_aload_n hx hb dX1_worthOf_0 rfl (lv_at hl 0 rfl) ?_
  refine lv_iload_n hx hb dX1_worthOf_1 rfl (lv_at hl 1 rfl) ?_
  refine lv_iload_n hx hb dX1_worthOf_2 rfl (lv_at hl 3 rfl) ?_
  obtain ⟨r_2, e_1, h⟩ := bo_s h
  refine x_goi X hS (x_runV (As := [.int x1, .int x3]) (rest := []) X gC_ok hP hS (ctX2_bearsSaying_23 l D c3 ad w _ x1 x3 _ e_1) (cwV 2 hts gX1_worthOf_X2_bearsSaying rfl rfl rfl (by decide +kernel) (by dsimp only [rmX1_worthOf, rmX2_bearsSaying_23]; constructor <;> omega)) (gC23 c3 ad w) rfl rfl rfl hl.1 rfl (Nat.le_of_ble_eq_true rfl) dX1_worthOf_3) (fun H locs hP hS => ?_)
  refine lv_if_ne (tgt := 11) hx hb dX1_worthOf_6 (by decide) (fun c_4 => ?_) (fun c_4 => ?_)
  · replace h := it_n c_4 h
    refine lv_aload_n hx hb dX1_worthOf_11 rfl (lv_at hl 0 rfl) ?_
    refine x_get (rest := []) X hP (gC23 c3 ad w) rfl iwX1_worthOf_X2 7 (by decide) lkX1_worthOf_31 rfl dX1_worthOf_12 ?_
    refine x_nmi h (fun x6_5 h => ?_)
    refine lv_istore (lv' := [(6, .int x6_5), (0, .ref (ad 23)), (1, .int x1), (2, .int x2), (3, .int x3), (4, .int x4), (5, .int x5)]) hx hb dX1_worthOf_15 hl (by decide) rfl (fun ls hl => ?_)
    refine lv_aload_n hx hb dX1_worthOf_17 rfl (lv_at hl 1 rfl) ?_
    refine x_get (rest := []) X hP (gC23 c3 ad w) rfl iwX1_worthOf_X2 8 (by decide) lkX1_worthOf_34 rfl dX1_worthOf_18 ?_
    refine x_nmi h (fun x7_6 h => ?_)
    refine lv_istore (lv' := [(7, .int x7_6), (6, .int x6_5), (0, .ref (ad 23)), (1, .int x1), (2, .int x2), (3, .int x3), (4, .int x4), (5, .int x5)]) hx hb dX1_worthOf_21 hl (by decide) rfl (fun ls hl => ?_)
    refine lv_aload_n hx hb dX1_worthOf_23 rfl (lv_at hl 2 rfl) ?_
    refine lv_iload_n hx hb dX1_worthOf_24 rfl (lv_at hl 3 rfl) ?_
    refine lv_iload_n hx hb dX1_worthOf_25 rfl (lv_at hl 5 rfl) ?_
    obtain ⟨w_9, e_7, h⟩ := bo_s h
    refine x_gov X hS (x_runV (As := [.int x1, .int x3]) (rest := []) X gC_ok hP hS (ctX2_attempt_23 l D c3 ad w _ x1 x3 _ e_7) (cwV 2 hts gX1_worthOf_X2_attempt rfl rfl rfl (by decide +kernel) (by dsimp only [rmX1_worthOf, rmX2_attempt_23]; constructor <;> omega)) (gC23 c3 ad w) rfl rfl rfl hl.1 rfl (Nat.le_of_ble_eq_true rfl) dX1_worthOf_26) (fun H locs hP hS => ?_)
    refine lv_aload_n hx hb dX1_worthOf_29 rfl (lv_at hl 2 rfl) ?_
    refine lv_iload_n hx hb dX1_worthOf_30 rfl (lv_at hl 4 rfl) ?_
    refine lv_iload_n hx hb dX1_worthOf_31 rfl (lv_at hl 3 rfl) ?_
    refine lv_iload hx hb dX1_worthOf_32 (lv_at hl 6 rfl) ?_
    refine lv_iconst (v := 1) hx hb dX1_worthOf_34 (by decide) ?_
    refine lv_iload_n hx hb dX1_worthOf_35 rfl (lv_at hl 5 rfl) ?_
    refine lv_ishl hx hb dX1_worthOf_36 ?_
    refine lv_ior hx hb dX1_worthOf_37 ?_
    refine lv_iload hx hb dX1_worthOf_38 (lv_at hl 7 rfl) ?_
    refine lv_iconst (v := 1) hx hb dX1_worthOf_40 (by decide) ?_
    refine lv_iadd hx hb dX1_worthOf_41 ?_
    obtain ⟨r_11, w_12, e_10, h⟩ := bd_s h
    refine x_goi X hS (x_runS (As := [.ref (ad 23), .int x2, .int x1, .int (x4 ||| (1 <<< (x3 &&& 31))), .int (x5 + 1)]) (rest := []) X gC_ok hP hS (hrc x2 x1 (x4 ||| (1 <<< (x3 &&& 31))) (x5 + 1) w_9 _ _ _ e_10) (va_cwS 5 hts gX1_worthOf_X1_worth rfl rfl rfl (by decide +kernel) (by dsimp only [rmX1_worthOf, mkR]; constructor <;> omega)) rfl hl.1 rfl (Nat.le_of_ble_eq_true rfl) dX1_worthOf_42) (fun H locs hP hS => ?_)
    refine lv_ineg hx hb dX1_worthOf_45 ?_
    refine x_nmi h (fun x8_13 h => ?_)
    refine lv_istore (lv' := [(8, .int x8_13), (7, .int x7_6), (6, .int x6_5), (0, .ref (ad 23)), (1, .int x1), (2, .int x2), (3, .int x3), (4, .int x4), (5, .int x5)]) hx hb dX1_worthOf_46 hl (by decide) rfl (fun ls hl => ?_)
    refine lv_aload_n hx hb dX1_worthOf_48 rfl (lv_at hl 3 rfl) ?_
    refine lv_iload_n hx hb dX1_worthOf_49 rfl (lv_at hl 6 rfl) ?_
    refine lv_iload hx hb dX1_worthOf_50 (lv_at hl 2 rfl) ?_
    refine lv_iload hx hb dX1_worthOf_52 (lv_at hl 1 rfl) ?_
    obtain ⟨w_16, e_14, h⟩ := bo_s h
    refine x_gov X hS (x_runV (As := [.int x3, .int x6_5, .int x7_6]) (rest := []) X gC_ok hP hS (ctX2_takeBack_23 l D c3 ad w_12 _ x3 x6_5 x7_6 _ e_14) (cwV 3 hts gX1_worthOf_X2_takeBack rfl rfl rfl (by decide +kernel) (by dsimp only [rmX1_worthOf, rmX2_takeBack_23]; constructor <;> omega)) (gC23 c3 ad w_12) rfl rfl rfl hl.1 rfl (Nat.le_of_ble_eq_true rfl) dX1_worthOf_54) (fun H locs hP hS => ?_)
    refine lv_iload hx hb dX1_worthOf_57 (lv_at hl 0 rfl) ?_
    obtain ⟨rfl, rfl⟩ := Prod.mk.inj (Option.some.inj h)
    exact hret _ _ _ _ hP hS dX1_worthOf_59
  · replace h := it_p c_4 h
    refine lv_iconst (v := (-1)) hx hb dX1_worthOf_9 (by decide) ?_
    obtain ⟨rfl, rfl⟩ := Prod.mk.inj (Option.some.inj h)
    exact hret _ _ _ _ hP hS dX1_worthOf_10
theorem ctX1_worthOf (l : Launch) (D : va_G) (c3 : C3) (ad : Nat → Nat) (w : Mm) (sz : Nat) {fR lR : Nat} {rc : Int32 → Int32 → Int32 → Int32 → Mm → Option (Int32 × Mm)} (hrc : ∀ (a0 a1 a2 a3 : Int32) (v : Mm) (sz : Nat) (r2 : Int32) (v2 : Mm), rc a0 a1 a2 a3 v = some (r2, v2) → Ci l yX1_worth wsX1_worth (mkR fR lR) D c3 (encC c3 ad) gC [.ref (ad 23), .int a0, .int a1, .int a2, .int a3] v sz r2 v2) (x1 : Int32) (x2 : Int32) (x3 : Int32) (x4 : Int32) (x5 : Int32) (r : Int32) (w' : Mm) (h : fX1_worthOf_E rc x1 x2 x3 x4 x5 w = some (r, w')) : Ci l yX1_worthOf wsX1_worthOf (rmX1_worthOf fR lR) D c3 (encC c3 ad) gC [.ref (ad 23), .int x1, .int x2, .int x3, .int x4, .int x5] w sz r w' := by
  refine Ci.of (cc := cX1_worthOf) (maxL := 9) (encC_ok c3 ad) (by decide) rfl (Nat.le_of_ble_eq_true rfl) ?_
  intro p e s m below meth c A Q ls X hret hP hS hl
  exact bX1_worthOf_E X hret hrc x1 x2 x3 x4 x5 w _ _ ls hP hS hl h
def fX1_worthOf (rc : Int32 → Int32 → Int32 → Int32 → Mm → Option (Int32 × Mm)) (x1 : Int32) (x2 : Int32) (x3 : Int32) (x4 : Int32) (x5 : Int32) (w : Mm) : Option (Int32 × Mm) := fX1_worthOf_E rc x1 x2 x3 x4 x5 w
theorem iwX1_worth_X2 : ∀ w ∈ wsX20, w ∈ wsX1_worth := fun _ h => List.mem_cons_of_mem _ (List.mem_append_right _ h)
theorem lkX1_worth_9 : Cond.fieldLink RX1 9 "StuckDoor$Family" "sayings" "I" ∈ wsX1_worth := by decide +kernel
def rmX1_worth (fR lR : Nat) : Room := { frames := fR + 6, cells := 0, slots := 0, locals := lR + 137 }
def fX1_worth_66 (rc : Int32 → Int32 → Int32 → Int32 → Mm → Option (Int32 × Mm)) (k24 : Int32 → Int32 → Mm → Option (Int32 × Mm)) (x1 : Int32) (x2 : Int32) (x3 : Int32) (x4 : Int32) (x5 : Int32) (x6 : Int32) (w : Mm) : Option (Int32 × Mm) := k24 x5 (x6 + 1) w
set_option maxRecDepth 20000 in
theorem bX1_worth_66 {p : Program} {l : Launch} {e : Env} {s : State} {m : MethodId} {args : Array Value} {below : List Frame} {meth : Method} {c : Code} {Q : State → Prop} {D : va_G} {c3 : C3} {ad : Nat → Nat} {A : Nat → Prop} {r : Int32} {w' : Mm} {fR lR : Nat} {rc : Int32 → Int32 → Int32 → Int32 → Mm → Option (Int32 × Mm)} (X : Cx p s m args c cX1_worth 7 RX1 wsX1_worth D c3 (encC c3 ad) gC A) (hret : Ri p l e (rmX1_worth fR lR) s m args below meth c Q cX1_worth D (encC c3 ad) A r w') (hrc : ∀ (a0 a1 a2 a3 : Int32) (v : Mm) (sz : Nat) (r2 : Int32) (v2 : Mm), rc a0 a1 a2 a3 v = some (r2, v2) → Ci l yX1_worth wsX1_worth (mkR fR lR) D c3 (encC c3 ad) gC [.ref (ad 23), .int a0, .int a1, .int a2, .int a3] v sz r2 v2) {x1 : Int32} {x2 : Int32} {x3 : Int32} {x4 : Int32} {k24 : Int32 → Int32 → Mm → Option (Int32 × Mm)} (hk24 : ∀ (x5 : Int32) (x6 : Int32) (w : Mm) (H : Heap) (locs : List Loc) (ls : Array Slot), va_P D vwCl ((encC c3 ad) w) H → va_S A s.heap H locs → lv_has ls 7 [(0, .ref (ad 23)), (1, .int x1), (2, .int x2), (3, .int x3), (4, .int x4), (5, .int x5), (6, .int x6)] → k24 x5 x6 w = some (r, w') → W p l e (rmX1_worth fR lR) s m args below meth c H locs 0 0 Q (F0 m 24 ls [])) : ∀ (x5 : Int32) (x6 : Int32) (w : Mm) (H : Heap) (locs : List Loc) (ls : Array Slot), va_P D vwCl ((encC c3 ad) w) H → va_S A s.heap H locs → lv_has ls 7 [(0, .ref (ad 23)), (1, .int x1), (2, .int x2), (3, .int x3), (4, .int x4), (5, .int x5), (6, .int x6)] → fX1_worth_66 rc k24 x1 x2 x3 x4 x5 x6 w = some (r, w') → W p l e (rmX1_worth fR lR) s m args below meth c H locs 0 0 Q (F0 m 66 ls []) := by
  have hx := X.1
  have hb := X.2.1
  have hml := X.2.2.1
  have hown := X.2.2.2.1
  have hts := X.2.2.2.2.1
  intro x5 x6 w H locs ls hP hS hl h
  unfold fX1_worth_66 at h
  refine lv_iinc (v := (x6 + 1)) (lv' := [(6, .int (x6 + 1)), (0, .ref (ad 23)), (1, .int x1), (2, .int x2), (3, .int x3), (4, .int x4), (5, .int x5)]) hx hb dX1_worth_66 hl (k := 6) rfl rfl (by decide) rfl (fun ls hl => ?_)
  refine lv_goto (tgt := 24) hx hb dX1_worth_69 (by decide) ?_
  exact hk24 x5 (x6 + 1) w _ _ _ hP hS (lv_sub hl [1, 2, 3, 4, 5, 6, 0] rfl) h
def fX1_worth_24 (rc : Int32 → Int32 → Int32 → Int32 → Mm → Option (Int32 × Mm)) (x1 : Int32) (x2 : Int32) (x3 : Int32) (x4 : Int32) : Nat → Int32 → Int32 → Mm → Option (Int32 × Mm)
  | 0, _, _, _ => none
  | n + 1, x5, x6, w => (if (w.1 23 2) ≤ x6 then some (x5, w) else (if x5 = 1 then some (x5, w) else (if (x3 &&& (1 <<< (x6 &&& 31))) = 0 then bd (fX1_worthOf rc x1 x2 x6 x3 x4 w) (fun r_5 w_6 => nm (if x5 < r_5 then r_5 else x5) (fun x5_7 => fX1_worth_66 rc (fX1_worth_24 rc x1 x2 x3 x4 n) x1 x2 x3 x4 x5_7 x6 w_6)) else fX1_worth_66 rc (fX1_worth_24 rc x1 x2 x3 x4 n) x1 x2 x3 x4 x5 x6 w)))
set_option maxRecDepth 20000 in
theorem bX1_worth_24 {p : Program} {l : Launch} {e : Env} {s : State} {m : MethodId} {args : Array Value} {below : List Frame} {meth : Method} {c : Code} {Q : State → Prop} {D : va_G} {c3 : C3} {ad : Nat → Nat} {A : Nat → Prop} {r : Int32} {w' : Mm} {fR lR : Nat} {rc : Int32 → Int32 → Int32 → Int32 → Mm → Option (Int32 × Mm)} (X : Cx p s m args c cX1_worth 7 RX1 wsX1_worth D c3 (encC c3 ad) gC A) (hret : Ri p l e (rmX1_worth fR lR) s m args below meth c Q cX1_worth D (encC c3 ad) A r w') (hrc : ∀ (a0 a1 a2 a3 : Int32) (v : Mm) (sz : Nat) (r2 : Int32) (v2 : Mm), rc a0 a1 a2 a3 v = some (r2, v2) → Ci l yX1_worth wsX1_worth (mkR fR lR) D c3 (encC c3 ad) gC [.ref (ad 23), .int a0, .int a1, .int a2, .int a3] v sz r2 v2) : ∀ (x1 : Int32) (x2 : Int32) (x3 : Int32) (x4 : Int32) (n : Nat) (x5 : Int32) (x6 : Int32) (w : Mm) (H : Heap) (locs : List Loc) (ls : Array Slot), va_P D vwCl ((encC c3 ad) w) H → va_S A s.heap H locs → lv_has ls 7 [(0, .ref (ad 23)), (1, .int x1), (2, .int x2), (3, .int x3), (4, .int x4), (5, .int x5), (6, .int x6)] → fX1_worth_24 rc x1 x2 x3 x4 n x5 x6 w = some (r, w') → W p l e (rmX1_worth fR lR) s m args below meth c H locs 0 0 Q (F0 m 24 ls []) := by
  have hx := X.1
  have hb := X.2.1
  have hml := X.2.2.1
  have hown := X.2.2.2.1
  have hts := X.2.2.2.2.1
  intro x1 x2 x3 x4 n
  induction n with
  | zero =>
    intro x5 x6 w H locs ls hP hS hl h
    exact absurd h (by simp [fX1_worth_24])
  | succ n ih =>
    intro x5 x6 w H locs ls hP hS hl h
    rw [fX1_worth_24] at h
    refine lv_iload hx hb dX1_worth_24 (lv_at hl 6 rfl) ?_
    refine lv_aload_n hx hb dX1_worth_26 rfl (lv_at hl 0 rfl) ?_
    refine x_get (rest := [.int x6]) X hP (gC23 c3 ad w) rfl iwX1_worth_X2 2 (by decide) lkX1_worth_9 rfl dX1_worth_27 ?_
    refine lv_icmp_ge (tgt := 72) hx hb dX1_worth_30 (by decide) (fun c_1 => ?_) (fun c_1 => ?_)
    · replace h := it_p c_1 h
      refine lv_iload hx hb dX1_worth_72 (lv_at hl 5 rfl) ?_
      obtain ⟨rfl, rfl⟩ := Prod.mk.inj (Option.some.inj h)
      exact hret _ _ _ _ hP hS dX1_worth_74
    · replace h := it_n c_1 h
      refine lv_iload hx hb dX1_worth_33 (lv_at hl 5 rfl) ?_
      refine lv_iconst (v := 1) hx hb dX1_worth_35 (by decide) ?_
      refine lv_icmp_eq (tgt := 72) hx hb dX1_worth_36 (by decide) (fun c_2 => ?_) (fun c_2 => ?_)
      · replace h := it_p c_2 h
        refine lv_iload hx hb dX1_worth_72 (lv_at hl 5 rfl) ?_
        obtain ⟨rfl, rfl⟩ := Prod.mk.inj (Option.some.inj h)
        exact hret _ _ _ _ hP hS dX1_worth_74
      · replace h := it_n c_2 h
        refine lv_iload_n hx hb dX1_worth_39 rfl (lv_at hl 3 rfl) ?_
        refine lv_iconst (v := 1) hx hb dX1_worth_40 (by decide) ?_
        refine lv_iload hx hb dX1_worth_41 (lv_at hl 6 rfl) ?_
        refine lv_ishl hx hb dX1_worth_43 ?_
        refine lv_iand hx hb dX1_worth_44 ?_
        refine lv_if_ne (tgt := 66) hx hb dX1_worth_45 (by decide) (fun c_3 => ?_) (fun c_3 => ?_)
        · replace h := it_n c_3 h
          exact bX1_worth_66 (x1 := x1) (x2 := x2) (x3 := x3) (x4 := x4) (k24 := (fX1_worth_24 rc x1 x2 x3 x4 n)) X hret hrc ih x5 x6 w _ _ _ hP hS (lv_sub hl [0, 1, 2, 3, 4, 5, 6] rfl) h
        · replace h := it_p c_3 h
          refine lv_iload hx hb dX1_worth_48 (lv_at hl 5 rfl) ?_
          refine lv_aload_n hx hb dX1_worth_50 rfl (lv_at hl 0 rfl) ?_
          refine lv_iload_n hx hb dX1_worth_51 rfl (lv_at hl 1 rfl) ?_
          refine lv_iload_n hx hb dX1_worth_52 rfl (lv_at hl 2 rfl) ?_
          refine lv_iload hx hb dX1_worth_53 (lv_at hl 6 rfl) ?_
          refine lv_iload_n hx hb dX1_worth_55 rfl (lv_at hl 3 rfl) ?_
          refine lv_iload hx hb dX1_worth_56 (lv_at hl 4 rfl) ?_
          obtain ⟨r_5, w_6, e_4, h⟩ := bd_s h
          refine x_goi X hS (x_runS (As := [.ref (ad 23), .int x1, .int x2, .int x6, .int x3, .int x4]) (rest := [.int x5]) X gC_ok hP hS (ctX1_worthOf l D c3 ad w _ hrc x1 x2 x6 x3 x4 _ _ e_4) (va_cwS 6 hts gX1_worth_X1_worthOf rfl rfl rfl (by decide +kernel) (by dsimp only [rmX1_worth, rmX1_worthOf]; constructor <;> omega)) rfl hl.1 rfl (Nat.le_of_ble_eq_true rfl) dX1_worth_58) (fun H locs hP hS => ?_)
          refine va_mmax hx hb (by rw [hml]; exact hl.1.symm) hown (hts (.methodLink RX1 21 Lib.Math.max.name) (by decide +kernel)) (hts (.static Lib.Math.max.name) (by decide +kernel)) (hts (.initialized "java/lang/Math") (by decide +kernel)) (hts (.code Lib.Math.max.name Lib.Math.max.code 2 (some .int)) (by decide +kernel)) (by dsimp only [rmX1_worth]; first | omega | (simp [Value.category]; done) | (simp [Value.category]; omega)) (by dsimp only [rmX1_worth]; first | omega | (simp [Value.category]; done) | (simp [Value.category]; omega)) (Nat.zero_le _) (Nat.zero_le _) dX1_worth_61 ?_
          refine x_nmi h (fun x5_7 h => ?_)
          refine lv_istore (lv' := [(5, .int x5_7), (0, .ref (ad 23)), (1, .int x1), (2, .int x2), (3, .int x3), (4, .int x4), (6, .int x6)]) hx hb dX1_worth_64 hl (by decide) rfl (fun ls hl => ?_)
          exact bX1_worth_66 (x1 := x1) (x2 := x2) (x3 := x3) (x4 := x4) (k24 := (fX1_worth_24 rc x1 x2 x3 x4 n)) X hret hrc ih x5_7 x6 w_6 _ _ _ hP hS (lv_sub hl [1, 2, 3, 4, 5, 0, 6] rfl) h
def fX1_worth_E (rc : Int32 → Int32 → Int32 → Int32 → Mm → Option (Int32 × Mm)) (x1 : Int32) (x2 : Int32) (x3 : Int32) (x4 : Int32) (w : Mm) : Option (Int32 × Mm) := (if (w.1 23 2) ≤ x4 then some (0, w) else (if x4 < 6 then fX1_worth_24 rc x1 x2 x3 x4 FU (-1) 0 w else some (0, w)))
set_option maxRecDepth 20000 in
theorem bX1_worth_E {p : Program} {l : Launch} {e : Env} {s : State} {m : MethodId} {args : Array Value} {below : List Frame} {meth : Method} {c : Code} {Q : State → Prop} {D : va_G} {c3 : C3} {ad : Nat → Nat} {A : Nat → Prop} {r : Int32} {w' : Mm} {fR lR : Nat} {rc : Int32 → Int32 → Int32 → Int32 → Mm → Option (Int32 × Mm)} (X : Cx p s m args c cX1_worth 7 RX1 wsX1_worth D c3 (encC c3 ad) gC A) (hret : Ri p l e (rmX1_worth fR lR) s m args below meth c Q cX1_worth D (encC c3 ad) A r w') (hrc : ∀ (a0 a1 a2 a3 : Int32) (v : Mm) (sz : Nat) (r2 : Int32) (v2 : Mm), rc a0 a1 a2 a3 v = some (r2, v2) → Ci l yX1_worth wsX1_worth (mkR fR lR) D c3 (encC c3 ad) gC [.ref (ad 23), .int a0, .int a1, .int a2, .int a3] v sz r2 v2) : ∀ (x1 : Int32) (x2 : Int32) (x3 : Int32) (x4 : Int32) (w : Mm) (H : Heap) (locs : List Loc) (ls : Array Slot), va_P D vwCl ((encC c3 ad) w) H → va_S A s.heap H locs → lv_has ls 7 [(0, .ref (ad 23)), (1, .int x1), (2, .int x2), (3, .int x3), (4, .int x4)] → fX1_worth_E rc x1 x2 x3 x4 w = some (r, w') → W p l e (rmX1_worth fR lR) s m args below meth c H locs 0 0 Q (F0 m 0 ls []) := by
  have hx := X.1
  have hb := X.2.1
  have hml := X.2.2.1
  have hown := X.2.2.2.1
  have hts := X.2.2.2.2.1
  intro x1 x2 x3 x4 w H locs ls hP hS hl h
  unfold fX1_worth_E at h
  refine lv_iload hx hb dX1_worth_0 (lv_at hl 4 rfl) ?_
  refine lv_aload_n hx hb dX1_worth_2 rfl (lv_at hl 0 rfl) ?_
  refine x_get (rest := [.int x4]) X hP (gC23 c3 ad w) rfl iwX1_worth_X2 2 (by decide) lkX1_worth_9 rfl dX1_worth_3 ?_
  refine lv_icmp_ge (tgt := 16) hx hb dX1_worth_6 (by decide) (fun c_8 => ?_) (fun c_8 => ?_)
  · replace h := it_p c_8 h
    refine lv_iconst (v := 0) hx hb dX1_worth_16 (by decide) ?_
    obtain ⟨rfl, rfl⟩ := Prod.mk.inj (Option.some.inj h)
    exact hret _ _ _ _ hP hS dX1_worth_17
  · replace h := it_n c_8 h
    refine lv_iload hx hb dX1_worth_9 (lv_at hl 4 rfl) ?_
    refine lv_bipush (v := 6) hx hb dX1_worth_11 (by decide) ?_
    refine lv_icmp_lt (tgt := 18) hx hb dX1_worth_13 (by decide) (fun c_9 => ?_) (fun c_9 => ?_)
    · replace h := it_p c_9 h
      refine lv_iconst (v := (-1)) hx hb dX1_worth_18 (by decide) ?_
      refine lv_istore (lv' := [(5, .int (-1)), (0, .ref (ad 23)), (1, .int x1), (2, .int x2), (3, .int x3), (4, .int x4)]) hx hb dX1_worth_19 hl (by decide) rfl (fun ls hl => ?_)
      refine lv_iconst (v := 0) hx hb dX1_worth_21 (by decide) ?_
      refine lv_istore (lv' := [(6, .int 0), (5, .int (-1)), (0, .ref (ad 23)), (1, .int x1), (2, .int x2), (3, .int x3), (4, .int x4)]) hx hb dX1_worth_22 hl (by decide) rfl (fun ls hl => ?_)
      exact bX1_worth_24 X hret hrc x1 x2 x3 x4 FU (-1) 0 w _ _ _ hP hS (lv_sub hl [2, 3, 4, 5, 6, 1, 0] rfl) h
    · replace h := it_n c_9 h
      refine lv_iconst (v := 0) hx hb dX1_worth_16 (by decide) ?_
      obtain ⟨rfl, rfl⟩ := Prod.mk.inj (Option.some.inj h)
      exact hret _ _ _ _ hP hS dX1_worth_17
theorem ctX1_worth_S (l : Launch) (D : va_G) (c3 : C3) (ad : Nat → Nat) (w : Mm) (sz : Nat) {fR lR : Nat} {rc : Int32 → Int32 → Int32 → Int32 → Mm → Option (Int32 × Mm)} (hrc : ∀ (a0 a1 a2 a3 : Int32) (v : Mm) (sz : Nat) (r2 : Int32) (v2 : Mm), rc a0 a1 a2 a3 v = some (r2, v2) → Ci l yX1_worth wsX1_worth (mkR fR lR) D c3 (encC c3 ad) gC [.ref (ad 23), .int a0, .int a1, .int a2, .int a3] v sz r2 v2) (x1 : Int32) (x2 : Int32) (x3 : Int32) (x4 : Int32) (r : Int32) (w' : Mm) (h : fX1_worth_E rc x1 x2 x3 x4 w = some (r, w')) : Ci l yX1_worth wsX1_worth (rmX1_worth fR lR) D c3 (encC c3 ad) gC [.ref (ad 23), .int x1, .int x2, .int x3, .int x4] w sz r w' := by
  refine Ci.of (cc := cX1_worth) (maxL := 7) (encC_ok c3 ad) (by decide) rfl (Nat.le_of_ble_eq_true rfl) ?_
  intro p e s m below meth c A Q ls X hret hP hS hl
  exact bX1_worth_E X hret hrc x1 x2 x3 x4 w _ _ ls hP hS hl h
def fX1_worth : Nat → Int32 → Int32 → Int32 → Int32 → Mm → Option (Int32 × Mm)
  | 0, _, _, _, _, _ => none
  | d + 1, x1, x2, x3, x4, w => fX1_worth_E (fX1_worth d) x1 x2 x3 x4 w
theorem ctX1_worth (l : Launch) (D : va_G) (c3 : C3) (ad : Nat → Nat) (w : Mm) (sz : Nat) (d : Nat) (x1 : Int32) (x2 : Int32) (x3 : Int32) (x4 : Int32) (r : Int32) (w' : Mm) (h : fX1_worth d x1 x2 x3 x4 w = some (r, w')) : Ci l yX1_worth wsX1_worth (mkR (6 * d) (137 * d)) D c3 (encC c3 ad) gC [.ref (ad 23), .int x1, .int x2, .int x3, .int x4] w sz r w' := by
  induction d generalizing w sz x1 x2 x3 x4 r w' with
  | zero => exact absurd h (by simp [fX1_worth])
  | succ d ih =>
    rw [fX1_worth] at h
    exact ctX1_worth_S (fR := 6 * d) (lR := 137 * d) (rc := fX1_worth d) l D c3 ad w sz (fun a0 a1 a2 a3 v sz r2 v2 h2 => ih v sz a0 a1 a2 a3 r2 v2 h2) x1 x2 x3 x4 r w' h
theorem iwX7_duel_X7 : ∀ w ∈ wsX70, w ∈ wsX7_duel := fun _ h => List.mem_cons_of_mem _ (List.mem_append_left _ (List.mem_append_right _ h))
theorem lkX7_duel_27 : Cond.fieldLink RX7 27 "StuckDoor" "family" "LStuckDoor$Family;" ∈ wsX7_duel := by decide +kernel
def rmX7_duel : Room := { frames := 61, cells := 0, slots := 0, locals := 1396 }
def fX7_duel_E (x1 : Int32) (x2 : Int32) (w : Mm) : Option (Int32 × Mm) := bo (fX7_refusalOfDuel x1 x2 w) (fun r_2 => (if r_2 = 0 then bd (fX1_worth DEP x1 x2 0 0 w) (fun r_6 w_7 => (if r_6 = 0 then some ((-9), w_7) else (if r_6 = 1 then some (1, w_7) else some (0, w_7)))) else some (r_2, w)))
set_option maxRecDepth 20000 in
theorem bX7_duel_E {p : Program} {l : Launch} {e : Env} {s : State} {m : MethodId} {args : Array Value} {below : List Frame} {meth : Method} {c : Code} {Q : State → Prop} {D : va_G} {c3 : C3} {ad : Nat → Nat} {A : Nat → Prop} {r : Int32} {w' : Mm} (X : Cx p s m args c cX7_duel 5 RX7 wsX7_duel D c3 (encC c3 ad) gC A) (hret : Ri p l e (rmX7_duel) s m args below meth c Q cX7_duel D (encC c3 ad) A r w') : ∀ (x1 : Int32) (x2 : Int32) (w : Mm) (H : Heap) (locs : List Loc) (ls : Array Slot), va_P D vwCl ((encC c3 ad) w) H → va_S A s.heap H locs → lv_has ls 5 [(0, .ref (ad 0)), (1, .int x1), (2, .int x2)] → fX7_duel_E x1 x2 w = some (r, w') → W p l e (rmX7_duel) s m args below meth c H locs 0 0 Q (F0 m 0 ls []) := by
  have hx := X.1
  have hb := X.2.1
  have hml := X.2.2.1
  have hown := X.2.2.2.1
  have hts := X.2.2.2.2.1
  intro x1 x2 w H locs ls hP hS hl h
  unfold fX7_duel_E at h
  refine lv_aload_n hx hb dX7_duel_0 rfl (lv_at hl 0 rfl) ?_
  refine lv_iload_n hx hb dX7_duel_1 rfl (lv_at hl 1 rfl) ?_
  refine lv_iload_n hx hb dX7_duel_2 rfl (lv_at hl 2 rfl) ?_
  obtain ⟨r_2, e_1, h⟩ := bo_s h
  refine x_goi X hS (x_runV (As := [.int x1, .int x2]) (rest := []) X gC_ok hP hS (ctX7_refusalOfDuel l D c3 ad w _ x1 x2 _ e_1) (cwV 2 hts gX7_duel_X7_refusalOfDuel rfl rfl rfl (by decide +kernel) ⟨by decide, by decide⟩) (gC0 c3 ad w) rfl rfl rfl hl.1 rfl (Nat.le_of_ble_eq_true rfl) dX7_duel_3) (fun H locs hP hS => ?_)
  refine lv_istore_n (lv' := [(3, .int r_2), (0, .ref (ad 0)), (1, .int x1), (2, .int x2)]) hx hb dX7_duel_6 rfl hl (by decide) rfl (fun ls hl => ?_)
  refine lv_iload_n hx hb dX7_duel_7 rfl (lv_at hl 0 rfl) ?_
  refine lv_if_eq (tgt := 13) hx hb dX7_duel_8 (by decide) (fun c_4 => ?_) (fun c_4 => ?_)
  · replace h := it_p c_4 h
    refine lv_aload_n hx hb dX7_duel_13 rfl (lv_at hl 1 rfl) ?_
    refine x_get (rest := []) X hP (gC0 c3 ad w) rfl iwX7_duel_X7 3 (by decide) lkX7_duel_27 rfl dX7_duel_14 ?_
    refine lv_iload_n hx hb dX7_duel_17 rfl (lv_at hl 2 rfl) ?_
    refine lv_iload_n hx hb dX7_duel_18 rfl (lv_at hl 3 rfl) ?_
    refine lv_iconst (v := 0) hx hb dX7_duel_19 (by decide) ?_
    refine lv_iconst (v := 0) hx hb dX7_duel_20 (by decide) ?_
    obtain ⟨r_6, w_7, e_5, h⟩ := bd_s h
    obtain ⟨tl, tp, hZl, hTl, hZp, hTp, hNl, hNp, hNw⟩ := X.2.2.2.2.2.2.2.2
    refine x_goi X hS (x_runSN (As := [.ref (ad 23), .int x1, .int x2, .int 0, .int 0]) (rest := []) X gC_ok hP hS (ctX1_worth l D c3 ad w _ DEP x1 x2 0 0 _ _ e_5) (host := "StuckDoor") ⟨va_cnB 5 hts gX7_duel_X1_worth_n257 rfl rfl rfl hNw (hts (.initialized RX1) (by decide +kernel)) (by decide +kernel) (by decide), hts (.static yX1_worth) (by decide +kernel), trivial⟩ rfl hl.1 rfl (Nat.le_of_ble_eq_true rfl) dX7_duel_21) (fun H locs hP hS => ?_)
    refine lv_istore (lv' := [(4, .int r_6), (3, .int r_2), (0, .ref (ad 0)), (1, .int x1), (2, .int x2)]) hx hb dX7_duel_24 hl (by decide) rfl (fun ls hl => ?_)
    refine lv_iload hx hb dX7_duel_26 (lv_at hl 0 rfl) ?_
    refine lv_if_ne (tgt := 34) hx hb dX7_duel_28 (by decide) (fun c_8 => ?_) (fun c_8 => ?_)
    · replace h := it_n c_8 h
      refine lv_iload hx hb dX7_duel_34 (lv_at hl 0 rfl) ?_
      refine lv_iconst (v := 1) hx hb dX7_duel_36 (by decide) ?_
      refine lv_icmp_ne (tgt := 44) hx hb dX7_duel_37 (by decide) (fun c_9 => ?_) (fun c_9 => ?_)
      · replace h := it_n c_9 h
        refine lv_iconst (v := 0) hx hb dX7_duel_44 (by decide) ?_
        obtain ⟨rfl, rfl⟩ := Prod.mk.inj (Option.some.inj h)
        exact hret _ _ _ _ hP hS dX7_duel_45
      · replace h := it_p c_9 h
        refine lv_iconst (v := 1) hx hb dX7_duel_40 (by decide) ?_
        refine lv_goto (tgt := 45) hx hb dX7_duel_41 (by decide) ?_
        obtain ⟨rfl, rfl⟩ := Prod.mk.inj (Option.some.inj h)
        exact hret _ _ _ _ hP hS dX7_duel_45
    · replace h := it_p c_8 h
      refine lv_bipush (v := (-9)) hx hb dX7_duel_31 (by decide) ?_
      obtain ⟨rfl, rfl⟩ := Prod.mk.inj (Option.some.inj h)
      exact hret _ _ _ _ hP hS dX7_duel_33
  · replace h := it_n c_4 h
    refine lv_iload_n hx hb dX7_duel_11 rfl (lv_at hl 0 rfl) ?_
    obtain ⟨rfl, rfl⟩ := Prod.mk.inj (Option.some.inj h)
    exact hret _ _ _ _ hP hS dX7_duel_12
def fX7_duel (x1 : Int32) (x2 : Int32) (w : Mm) : Option (Int32 × Mm) := fX7_duel_E x1 x2 w
theorem ctX7_duel (l : Launch) (D : va_G) (c3 : C3) (ad : Nat → Nat) (w : Mm) (sz : Nat) (x1 : Int32) (x2 : Int32) (r : Int32) (w' : Mm) (h : fX7_duel x1 x2 w = some (r, w')) : Ci l yX7_duel wsX7_duel rmX7_duel D c3 (encC c3 ad) gC [.ref (ad 0), .int x1, .int x2] w sz r w' := by
  refine Ci.of (cc := cX7_duel) (maxL := 5) (encC_ok c3 ad) (by decide) rfl (Nat.le_of_ble_eq_true rfl) ?_
  intro p e s m below meth c A Q ls X hret hP hS hl
  exact bX7_duel_E X hret x1 x2 w _ _ ls hP hS hl h
theorem iwX1_firstBest_X2 : ∀ w ∈ wsX20, w ∈ wsX1_firstBest := fun _ h => List.mem_cons_of_mem _ (List.mem_append_right _ h)
theorem lkX1_firstBest_9 : Cond.fieldLink RX1 9 "StuckDoor$Family" "sayings" "I" ∈ wsX1_firstBest := by decide +kernel
def rmX1_firstBest (fR lR : Nat) : Room := { frames := fR + 6, cells := 0, slots := 0, locals := lR + 137 }
def fX1_firstBest_43 (rc : Int32 → Int32 → Int32 → Int32 → Mm → Option (Int32 × Mm)) (k8 : Int32 → Int32 → Int32 → Mm → Option (Int32 × Mm)) (x1 : Int32) (x2 : Int32) (x3 : Int32) (x4 : Int32) (x5 : Int32) (w : Mm) : Option (Int32 × Mm) := k8 x3 x4 (x5 + 1) w
set_option maxRecDepth 20000 in
theorem bX1_firstBest_43 {p : Program} {l : Launch} {e : Env} {s : State} {m : MethodId} {args : Array Value} {below : List Frame} {meth : Method} {c : Code} {Q : State → Prop} {D : va_G} {c3 : C3} {ad : Nat → Nat} {A : Nat → Prop} {r : Int32} {w' : Mm} {fR lR : Nat} {rc : Int32 → Int32 → Int32 → Int32 → Mm → Option (Int32 × Mm)} (X : Cx p s m args c cX1_firstBest 7 RX1 wsX1_firstBest D c3 (encC c3 ad) gC A) (hret : Ri p l e (rmX1_firstBest fR lR) s m args below meth c Q cX1_firstBest D (encC c3 ad) A r w') (hrc : ∀ (a0 a1 a2 a3 : Int32) (v : Mm) (sz : Nat) (r2 : Int32) (v2 : Mm), rc a0 a1 a2 a3 v = some (r2, v2) → Ci l yX1_worth wsX1_worth (mkR fR lR) D c3 (encC c3 ad) gC [.ref (ad 23), .int a0, .int a1, .int a2, .int a3] v sz r2 v2) {x1 : Int32} {x2 : Int32} {k8 : Int32 → Int32 → Int32 → Mm → Option (Int32 × Mm)} (hk8 : ∀ (x3 : Int32) (x4 : Int32) (x5 : Int32) (w : Mm) (H : Heap) (locs : List Loc) (ls : Array Slot), va_P D vwCl ((encC c3 ad) w) H → va_S A s.heap H locs → lv_has ls 7 [(0, .ref (ad 23)), (1, .int x1), (2, .int x2), (3, .int x3), (4, .int x4), (5, .int x5)] → k8 x3 x4 x5 w = some (r, w') → W p l e (rmX1_firstBest fR lR) s m args below meth c H locs 0 0 Q (F0 m 8 ls [])) : ∀ (x3 : Int32) (x4 : Int32) (x5 : Int32) (w : Mm) (H : Heap) (locs : List Loc) (ls : Array Slot), va_P D vwCl ((encC c3 ad) w) H → va_S A s.heap H locs → lv_has ls 7 [(0, .ref (ad 23)), (1, .int x1), (2, .int x2), (3, .int x3), (4, .int x4), (5, .int x5)] → fX1_firstBest_43 rc k8 x1 x2 x3 x4 x5 w = some (r, w') → W p l e (rmX1_firstBest fR lR) s m args below meth c H locs 0 0 Q (F0 m 43 ls []) := by
  have hx := X.1
  have hb := X.2.1
  have hml := X.2.2.1
  have hown := X.2.2.2.1
  have hts := X.2.2.2.2.1
  intro x3 x4 x5 w H locs ls hP hS hl h
  unfold fX1_firstBest_43 at h
  refine lv_iinc (v := (x5 + 1)) (lv' := [(5, .int (x5 + 1)), (0, .ref (ad 23)), (1, .int x1), (2, .int x2), (3, .int x3), (4, .int x4)]) hx hb dX1_firstBest_43 hl (k := 5) rfl rfl (by decide) rfl (fun ls hl => ?_)
  refine lv_goto (tgt := 8) hx hb dX1_firstBest_46 (by decide) ?_
  exact hk8 x3 x4 (x5 + 1) w _ _ _ hP hS (lv_sub hl [1, 2, 3, 4, 5, 0] rfl) h
def fX1_firstBest_8 (rc : Int32 → Int32 → Int32 → Int32 → Mm → Option (Int32 × Mm)) (x1 : Int32) (x2 : Int32) : Nat → Int32 → Int32 → Int32 → Mm → Option (Int32 × Mm)
  | 0, _, _, _, _ => none
  | n + 1, x3, x4, x5, w => (if (w.1 23 2) ≤ x5 then some (x3, w) else bd (fX1_worthOf rc x1 x2 x5 0 0 w) (fun r_3 w_4 => (if r_3 ≤ x4 then fX1_firstBest_43 rc (fX1_firstBest_8 rc x1 x2 n) x1 x2 x3 x4 x5 w_4 else fX1_firstBest_43 rc (fX1_firstBest_8 rc x1 x2 n) x1 x2 x5 r_3 x5 w_4)))
set_option maxRecDepth 20000 in
theorem bX1_firstBest_8 {p : Program} {l : Launch} {e : Env} {s : State} {m : MethodId} {args : Array Value} {below : List Frame} {meth : Method} {c : Code} {Q : State → Prop} {D : va_G} {c3 : C3} {ad : Nat → Nat} {A : Nat → Prop} {r : Int32} {w' : Mm} {fR lR : Nat} {rc : Int32 → Int32 → Int32 → Int32 → Mm → Option (Int32 × Mm)} (X : Cx p s m args c cX1_firstBest 7 RX1 wsX1_firstBest D c3 (encC c3 ad) gC A) (hret : Ri p l e (rmX1_firstBest fR lR) s m args below meth c Q cX1_firstBest D (encC c3 ad) A r w') (hrc : ∀ (a0 a1 a2 a3 : Int32) (v : Mm) (sz : Nat) (r2 : Int32) (v2 : Mm), rc a0 a1 a2 a3 v = some (r2, v2) → Ci l yX1_worth wsX1_worth (mkR fR lR) D c3 (encC c3 ad) gC [.ref (ad 23), .int a0, .int a1, .int a2, .int a3] v sz r2 v2) : ∀ (x1 : Int32) (x2 : Int32) (n : Nat) (x3 : Int32) (x4 : Int32) (x5 : Int32) (w : Mm) (H : Heap) (locs : List Loc) (ls : Array Slot), va_P D vwCl ((encC c3 ad) w) H → va_S A s.heap H locs → lv_has ls 7 [(0, .ref (ad 23)), (1, .int x1), (2, .int x2), (3, .int x3), (4, .int x4), (5, .int x5)] → fX1_firstBest_8 rc x1 x2 n x3 x4 x5 w = some (r, w') → W p l e (rmX1_firstBest fR lR) s m args below meth c H locs 0 0 Q (F0 m 8 ls []) := by
  have hx := X.1
  have hb := X.2.1
  have hml := X.2.2.1
  have hown := X.2.2.2.1
  have hts := X.2.2.2.2.1
  intro x1 x2 n
  induction n with
  | zero =>
    intro x3 x4 x5 w H locs ls hP hS hl h
    exact absurd h (by simp [fX1_firstBest_8])
  | succ n ih =>
    intro x3 x4 x5 w H locs ls hP hS hl h
    rw [fX1_firstBest_8] at h
    refine lv_iload hx hb dX1_firstBest_8 (lv_at hl 5 rfl) ?_
    refine lv_aload_n hx hb dX1_firstBest_10 rfl (lv_at hl 0 rfl) ?_
    refine x_get (rest := [.int x5]) X hP (gC23 c3 ad w) rfl iwX1_firstBest_X2 2 (by decide) lkX1_firstBest_9 rfl dX1_firstBest_11 ?_
    refine lv_icmp_ge (tgt := 49) hx hb dX1_firstBest_14 (by decide) (fun c_1 => ?_) (fun c_1 => ?_)
    · replace h := it_p c_1 h
      refine lv_iload_n hx hb dX1_firstBest_49 rfl (lv_at hl 3 rfl) ?_
      obtain ⟨rfl, rfl⟩ := Prod.mk.inj (Option.some.inj h)
      exact hret _ _ _ _ hP hS dX1_firstBest_50
    · replace h := it_n c_1 h
      refine lv_aload_n hx hb dX1_firstBest_17 rfl (lv_at hl 0 rfl) ?_
      refine lv_iload_n hx hb dX1_firstBest_18 rfl (lv_at hl 1 rfl) ?_
      refine lv_iload_n hx hb dX1_firstBest_19 rfl (lv_at hl 2 rfl) ?_
      refine lv_iload hx hb dX1_firstBest_20 (lv_at hl 5 rfl) ?_
      refine lv_iconst (v := 0) hx hb dX1_firstBest_22 (by decide) ?_
      refine lv_iconst (v := 0) hx hb dX1_firstBest_23 (by decide) ?_
      obtain ⟨r_3, w_4, e_2, h⟩ := bd_s h
      refine x_goi X hS (x_runS (As := [.ref (ad 23), .int x1, .int x2, .int x5, .int 0, .int 0]) (rest := []) X gC_ok hP hS (ctX1_worthOf l D c3 ad w _ hrc x1 x2 x5 0 0 _ _ e_2) (va_cwS 6 hts gX1_firstBest_X1_worthOf rfl rfl rfl (by decide +kernel) (by dsimp only [rmX1_firstBest, rmX1_worthOf]; constructor <;> omega)) rfl hl.1 rfl (Nat.le_of_ble_eq_true rfl) dX1_firstBest_24) (fun H locs hP hS => ?_)
      refine lv_istore (lv' := [(6, .int r_3), (0, .ref (ad 23)), (1, .int x1), (2, .int x2), (3, .int x3), (4, .int x4), (5, .int x5)]) hx hb dX1_firstBest_27 hl (by decide) rfl (fun ls hl => ?_)
      refine lv_iload hx hb dX1_firstBest_29 (lv_at hl 0 rfl) ?_
      refine lv_iload hx hb dX1_firstBest_31 (lv_at hl 5 rfl) ?_
      refine lv_icmp_le (tgt := 43) hx hb dX1_firstBest_33 (by decide) (fun c_5 => ?_) (fun c_5 => ?_)
      · replace h := it_p c_5 h
        exact bX1_firstBest_43 (x1 := x1) (x2 := x2) (k8 := (fX1_firstBest_8 rc x1 x2 n)) X hret hrc ih x3 x4 x5 w_4 _ _ _ hP hS (lv_sub hl [1, 2, 3, 4, 5, 6] rfl) h
      · replace h := it_n c_5 h
        refine lv_iload hx hb dX1_firstBest_36 (lv_at hl 6 rfl) ?_
        refine lv_istore_n (lv' := [(3, .int x5), (6, .int r_3), (0, .ref (ad 23)), (1, .int x1), (2, .int x2), (4, .int x4), (5, .int x5)]) hx hb dX1_firstBest_38 rfl hl (by decide) rfl (fun ls hl => ?_)
        refine lv_iload hx hb dX1_firstBest_39 (lv_at hl 1 rfl) ?_
        refine lv_istore (lv' := [(4, .int r_3), (3, .int x5), (6, .int r_3), (0, .ref (ad 23)), (1, .int x1), (2, .int x2), (5, .int x5)]) hx hb dX1_firstBest_41 hl (by decide) rfl (fun ls hl => ?_)
        exact bX1_firstBest_43 (x1 := x1) (x2 := x2) (k8 := (fX1_firstBest_8 rc x1 x2 n)) X hret hrc ih x5 r_3 x5 w_4 _ _ _ hP hS (lv_sub hl [3, 4, 5, 1, 0, 6] rfl) h
def fX1_firstBest_E (rc : Int32 → Int32 → Int32 → Int32 → Mm → Option (Int32 × Mm)) (x1 : Int32) (x2 : Int32) (w : Mm) : Option (Int32 × Mm) := fX1_firstBest_8 rc x1 x2 FU 0 (-1) 0 w
set_option maxRecDepth 20000 in
theorem bX1_firstBest_E {p : Program} {l : Launch} {e : Env} {s : State} {m : MethodId} {args : Array Value} {below : List Frame} {meth : Method} {c : Code} {Q : State → Prop} {D : va_G} {c3 : C3} {ad : Nat → Nat} {A : Nat → Prop} {r : Int32} {w' : Mm} {fR lR : Nat} {rc : Int32 → Int32 → Int32 → Int32 → Mm → Option (Int32 × Mm)} (X : Cx p s m args c cX1_firstBest 7 RX1 wsX1_firstBest D c3 (encC c3 ad) gC A) (hret : Ri p l e (rmX1_firstBest fR lR) s m args below meth c Q cX1_firstBest D (encC c3 ad) A r w') (hrc : ∀ (a0 a1 a2 a3 : Int32) (v : Mm) (sz : Nat) (r2 : Int32) (v2 : Mm), rc a0 a1 a2 a3 v = some (r2, v2) → Ci l yX1_worth wsX1_worth (mkR fR lR) D c3 (encC c3 ad) gC [.ref (ad 23), .int a0, .int a1, .int a2, .int a3] v sz r2 v2) : ∀ (x1 : Int32) (x2 : Int32) (w : Mm) (H : Heap) (locs : List Loc) (ls : Array Slot), va_P D vwCl ((encC c3 ad) w) H → va_S A s.heap H locs → lv_has ls 7 [(0, .ref (ad 23)), (1, .int x1), (2, .int x2)] → fX1_firstBest_E rc x1 x2 w = some (r, w') → W p l e (rmX1_firstBest fR lR) s m args below meth c H locs 0 0 Q (F0 m 0 ls []) := by
  have hx := X.1
  have hb := X.2.1
  have hml := X.2.2.1
  have hown := X.2.2.2.1
  have hts := X.2.2.2.2.1
  intro x1 x2 w H locs ls hP hS hl h
  unfold fX1_firstBest_E at h
  refine lv_iconst (v := 0) hx hb dX1_firstBest_0 (by decide) ?_
  refine lv_istore_n (lv' := [(3, .int 0), (0, .ref (ad 23)), (1, .int x1), (2, .int x2)]) hx hb dX1_firstBest_1 rfl hl (by decide) rfl (fun ls hl => ?_)
  refine lv_iconst (v := (-1)) hx hb dX1_firstBest_2 (by decide) ?_
  refine lv_istore (lv' := [(4, .int (-1)), (3, .int 0), (0, .ref (ad 23)), (1, .int x1), (2, .int x2)]) hx hb dX1_firstBest_3 hl (by decide) rfl (fun ls hl => ?_)
  refine lv_iconst (v := 0) hx hb dX1_firstBest_5 (by decide) ?_
  refine lv_istore (lv' := [(5, .int 0), (4, .int (-1)), (3, .int 0), (0, .ref (ad 23)), (1, .int x1), (2, .int x2)]) hx hb dX1_firstBest_6 hl (by decide) rfl (fun ls hl => ?_)
  exact bX1_firstBest_8 X hret hrc x1 x2 FU 0 (-1) 0 w _ _ _ hP hS (lv_sub hl [3, 4, 5, 2, 1, 0] rfl) h
theorem ctX1_firstBest (l : Launch) (D : va_G) (c3 : C3) (ad : Nat → Nat) (w : Mm) (sz : Nat) {fR lR : Nat} {rc : Int32 → Int32 → Int32 → Int32 → Mm → Option (Int32 × Mm)} (hrc : ∀ (a0 a1 a2 a3 : Int32) (v : Mm) (sz : Nat) (r2 : Int32) (v2 : Mm), rc a0 a1 a2 a3 v = some (r2, v2) → Ci l yX1_worth wsX1_worth (mkR fR lR) D c3 (encC c3 ad) gC [.ref (ad 23), .int a0, .int a1, .int a2, .int a3] v sz r2 v2) (x1 : Int32) (x2 : Int32) (r : Int32) (w' : Mm) (h : fX1_firstBest_E rc x1 x2 w = some (r, w')) : Ci l yX1_firstBest wsX1_firstBest (rmX1_firstBest fR lR) D c3 (encC c3 ad) gC [.ref (ad 23), .int x1, .int x2] w sz r w' := by
  refine Ci.of (cc := cX1_firstBest) (maxL := 7) (encC_ok c3 ad) (by decide) rfl (Nat.le_of_ble_eq_true rfl) ?_
  intro p e s m below meth c A Q ls X hret hP hS hl
  exact bX1_firstBest_E X hret hrc x1 x2 w _ _ ls hP hS hl h
def fX1_firstBest (rc : Int32 → Int32 → Int32 → Int32 → Mm → Option (Int32 × Mm)) (x1 : Int32) (x2 : Int32) (w : Mm) : Option (Int32 × Mm) := fX1_firstBest_E rc x1 x2 w
theorem iwX7_opens_X7 : ∀ w ∈ wsX70, w ∈ wsX7_opens := fun _ h => List.mem_cons_of_mem _ (List.mem_append_left _ (List.mem_append_right _ h))
theorem lkX7_opens_27 : Cond.fieldLink RX7 27 "StuckDoor" "family" "LStuckDoor$Family;" ∈ wsX7_opens := by decide +kernel
def rmX7_opens : Room := { frames := 67, cells := 0, slots := 0, locals := 1533 }
def fX7_opens_E (x1 : Int32) (x2 : Int32) (w : Mm) : Option (Int32 × Mm) := bo (fX7_refusalOfDuel x1 x2 w) (fun r_2 => (if r_2 = 0 then bd (fX1_firstBest (fX1_worth DEP) x1 x2 w) (fun r_6 w_7 => some (r_6, w_7)) else some (r_2, w)))
set_option maxRecDepth 20000 in
theorem bX7_opens_E {p : Program} {l : Launch} {e : Env} {s : State} {m : MethodId} {args : Array Value} {below : List Frame} {meth : Method} {c : Code} {Q : State → Prop} {D : va_G} {c3 : C3} {ad : Nat → Nat} {A : Nat → Prop} {r : Int32} {w' : Mm} (X : Cx p s m args c cX7_opens 4 RX7 wsX7_opens D c3 (encC c3 ad) gC A) (hret : Ri p l e (rmX7_opens) s m args below meth c Q cX7_opens D (encC c3 ad) A r w') : ∀ (x1 : Int32) (x2 : Int32) (w : Mm) (H : Heap) (locs : List Loc) (ls : Array Slot), va_P D vwCl ((encC c3 ad) w) H → va_S A s.heap H locs → lv_has ls 4 [(0, .ref (ad 0)), (1, .int x1), (2, .int x2)] → fX7_opens_E x1 x2 w = some (r, w') → W p l e (rmX7_opens) s m args below meth c H locs 0 0 Q (F0 m 0 ls []) := by
  have hx := X.1
  have hb := X.2.1
  have hml := X.2.2.1
  have hown := X.2.2.2.1
  have hts := X.2.2.2.2.1
  intro x1 x2 w H locs ls hP hS hl h
  unfold fX7_opens_E at h
  refine lv_aload_n hx hb dX7_opens_0 rfl (lv_at hl 0 rfl) ?_
  refine lv_iload_n hx hb dX7_opens_1 rfl (lv_at hl 1 rfl) ?_
  refine lv_iload_n hx hb dX7_opens_2 rfl (lv_at hl 2 rfl) ?_
  obtain ⟨r_2, e_1, h⟩ := bo_s h
  refine x_goi X hS (x_runV (As := [.int x1, .int x2]) (rest := []) X gC_ok hP hS (ctX7_refusalOfDuel l D c3 ad w _ x1 x2 _ e_1) (cwV 2 hts gX7_opens_X7_refusalOfDuel rfl rfl rfl (by decide +kernel) ⟨by decide, by decide⟩) (gC0 c3 ad w) rfl rfl rfl hl.1 rfl (Nat.le_of_ble_eq_true rfl) dX7_opens_3) (fun H locs hP hS => ?_)
  refine lv_istore_n (lv' := [(3, .int r_2), (0, .ref (ad 0)), (1, .int x1), (2, .int x2)]) hx hb dX7_opens_6 rfl hl (by decide) rfl (fun ls hl => ?_)
  refine lv_iload_n hx hb dX7_opens_7 rfl (lv_at hl 0 rfl) ?_
  refine lv_if_eq (tgt := 15) hx hb dX7_opens_8 (by decide) (fun c_4 => ?_) (fun c_4 => ?_)
  · replace h := it_p c_4 h
    refine lv_aload_n hx hb dX7_opens_15 rfl (lv_at hl 1 rfl) ?_
    refine x_get (rest := []) X hP (gC0 c3 ad w) rfl iwX7_opens_X7 3 (by decide) lkX7_opens_27 rfl dX7_opens_16 ?_
    refine lv_iload_n hx hb dX7_opens_19 rfl (lv_at hl 2 rfl) ?_
    refine lv_iload_n hx hb dX7_opens_20 rfl (lv_at hl 3 rfl) ?_
    obtain ⟨r_6, w_7, e_5, h⟩ := bd_s h
    refine x_goi X hS (x_runS (As := [.ref (ad 23), .int x1, .int x2]) (rest := []) X gC_ok hP hS (ctX1_firstBest l D c3 ad w _ (fun a0 a1 a2 a3 v sz r2 v2 h2 => ctX1_worth l D c3 ad v sz DEP a0 a1 a2 a3 r2 v2 h2) x1 x2 _ _ e_5) (va_cwS 3 hts gX7_opens_X1_firstBest rfl rfl rfl (by decide +kernel) (by decide)) rfl hl.1 rfl (Nat.le_of_ble_eq_true rfl) dX7_opens_21) (fun H locs hP hS => ?_)
    obtain ⟨rfl, rfl⟩ := Prod.mk.inj (Option.some.inj h)
    exact hret _ _ _ _ hP hS dX7_opens_24
  · replace h := it_n c_4 h
    refine lv_iload_n hx hb dX7_opens_11 rfl (lv_at hl 0 rfl) ?_
    refine lv_goto (tgt := 24) hx hb dX7_opens_12 (by decide) ?_
    obtain ⟨rfl, rfl⟩ := Prod.mk.inj (Option.some.inj h)
    exact hret _ _ _ _ hP hS dX7_opens_24
def fX7_opens (x1 : Int32) (x2 : Int32) (w : Mm) : Option (Int32 × Mm) := fX7_opens_E x1 x2 w
theorem ctX7_opens (l : Launch) (D : va_G) (c3 : C3) (ad : Nat → Nat) (w : Mm) (sz : Nat) (x1 : Int32) (x2 : Int32) (r : Int32) (w' : Mm) (h : fX7_opens x1 x2 w = some (r, w')) : Ci l yX7_opens wsX7_opens rmX7_opens D c3 (encC c3 ad) gC [.ref (ad 0), .int x1, .int x2] w sz r w' := by
  refine Ci.of (cc := cX7_opens) (maxL := 4) (encC_ok c3 ad) (by decide) rfl (Nat.le_of_ble_eq_true rfl) ?_
  intro p e s m below meth c A Q ls X hret hP hS hl
  exact bX7_opens_E X hret x1 x2 w _ _ ls hP hS hl h
def rmX0_fit : Room := { frames := 0, cells := 0, slots := 0, locals := 0 }
def fX0_fit_E (x0 : Int32) (x1 : Int32) : Option (Int32) := (if x0 < 0 then some 0 else (if 12 < x0 then some 0 else (if x1 < 0 then some 0 else (if 12 < x1 then some 0 else some 1))))
set_option maxRecDepth 20000 in
theorem bX0_fit_E {p : Program} {l : Launch} {e : Env} {s : State} {m : MethodId} {args : Array Value} {below : List Frame} {meth : Method} {c : Code} {Q : State → Prop} {D : va_G} {c3 : C3} {ad : Nat → Nat} {A : Nat → Prop} {r : Int32} {w : Mm} (X : Cx p s m args c cX0_fit 2 RX0 wsX0_fit D c3 (encC c3 ad) gC A) (hret : Rz p l e (rmX0_fit) s m args below meth c Q cX0_fit D (encC c3 ad) A r w) : ∀ (x0 : Int32) (x1 : Int32) (H : Heap) (locs : List Loc) (ls : Array Slot), va_P D vwCl ((encC c3 ad) w) H → va_S A s.heap H locs → lv_has ls 2 [(0, .int x0), (1, .int x1)] → fX0_fit_E x0 x1 = some r → W p l e (rmX0_fit) s m args below meth c H locs 0 0 Q (F0 m 0 ls []) := by
  have hx := X.1
  have hb := X.2.1
  have hml := X.2.2.1
  have hown := X.2.2.2.1
  have hts := X.2.2.2.2.1
  intro x0 x1 H locs ls hP hS hl h
  unfold fX0_fit_E at h
  refine lv_iload_n hx hb dX0_fit_0 rfl (lv_at hl 0 rfl) ?_
  refine lv_if_lt (tgt := 24) hx hb dX0_fit_1 (by decide) (fun c_1 => ?_) (fun c_1 => ?_)
  · replace h := it_p c_1 h
    refine lv_iconst (v := 0) hx hb dX0_fit_24 (by decide) ?_
    obtain rfl := Option.some.inj h
    exact hret (Or.inl rfl) _ _ _ _ hP hS dX0_fit_25
  · replace h := it_n c_1 h
    refine lv_iload_n hx hb dX0_fit_4 rfl (lv_at hl 0 rfl) ?_
    refine lv_bipush (v := 12) hx hb dX0_fit_5 (by decide) ?_
    refine lv_icmp_gt (tgt := 24) hx hb dX0_fit_7 (by decide) (fun c_2 => ?_) (fun c_2 => ?_)
    · replace h := it_p c_2 h
      refine lv_iconst (v := 0) hx hb dX0_fit_24 (by decide) ?_
      obtain rfl := Option.some.inj h
      exact hret (Or.inl rfl) _ _ _ _ hP hS dX0_fit_25
    · replace h := it_n c_2 h
      refine lv_iload_n hx hb dX0_fit_10 rfl (lv_at hl 1 rfl) ?_
      refine lv_if_lt (tgt := 24) hx hb dX0_fit_11 (by decide) (fun c_3 => ?_) (fun c_3 => ?_)
      · replace h := it_p c_3 h
        refine lv_iconst (v := 0) hx hb dX0_fit_24 (by decide) ?_
        obtain rfl := Option.some.inj h
        exact hret (Or.inl rfl) _ _ _ _ hP hS dX0_fit_25
      · replace h := it_n c_3 h
        refine lv_iload_n hx hb dX0_fit_14 rfl (lv_at hl 1 rfl) ?_
        refine lv_bipush (v := 12) hx hb dX0_fit_15 (by decide) ?_
        refine lv_icmp_gt (tgt := 24) hx hb dX0_fit_17 (by decide) (fun c_4 => ?_) (fun c_4 => ?_)
        · replace h := it_p c_4 h
          refine lv_iconst (v := 0) hx hb dX0_fit_24 (by decide) ?_
          obtain rfl := Option.some.inj h
          exact hret (Or.inl rfl) _ _ _ _ hP hS dX0_fit_25
        · replace h := it_n c_4 h
          refine lv_iconst (v := 1) hx hb dX0_fit_20 (by decide) ?_
          refine lv_goto (tgt := 25) hx hb dX0_fit_21 (by decide) ?_
          obtain rfl := Option.some.inj h
          exact hret (Or.inr rfl) _ _ _ _ hP hS dX0_fit_25
def fX0_fit (x0 : Int32) (x1 : Int32) : Option (Int32) := fX0_fit_E x0 x1
theorem ctX0_fit (l : Launch) (D : va_G) (c3 : C3) (ad : Nat → Nat) (w : Mm) (sz : Nat) (x0 : Int32) (x1 : Int32) (r : Int32) (h : fX0_fit x0 x1 = some r) : Ci l yX0_fit wsX0_fit rmX0_fit D c3 (encC c3 ad) gC [.int x0, .int x1] w sz r w := by
  refine Ci.ofz (cc := cX0_fit) (maxL := 2) (encC_ok c3 ad) (by decide) rfl (Nat.le_of_ble_eq_true rfl) ?_
  intro p e s m below meth c A Q ls X hret hP hS hl
  exact bX0_fit_E X hret x0 x1 _ _ ls hP hS hl h
def rmJ7_fill_d0a16_42 : Room := { frames := 0, cells := 0, slots := 0, locals := 0 }
def fJ7_fill_d0a16_42_6 (y1 : Int64) (x4 : Int32) : Nat → Int32 → Mm → Option (Mm)
  | 0, _, _ => none
  | n + 1, x3, w => (if x4 ≤ x3 then some w else gd (inb x3 13 = true) (nm (sL w 42 x3.toNatClampNeg y1) (fun w_3 => fJ7_fill_d0a16_42_6 y1 x4 n (x3 + 1) w_3)))
set_option maxRecDepth 20000 in
theorem bJ7_fill_d0a16_42_6 {p : Program} {l : Launch} {e : Env} {s : State} {m : MethodId} {args : Array Value} {below : List Frame} {meth : Method} {c : Code} {Q : State → Prop} {D : va_G} {c3 : C3} {ad : Nat → Nat} {A : Nat → Prop} {w' : Mm} (X : Cx p s m args c cJ7_fill_d0a16 5 RJ7 wsJ7_fill_d0a16 D c3 (encC c3 ad) gC A) (hret : Rv p l e (rmJ7_fill_d0a16_42) s m args below meth c Q cJ7_fill_d0a16 D (encC c3 ad) A w') : ∀ (y1 : Int64) (x4 : Int32) (n : Nat) (x3 : Int32) (w : Mm) (H : Heap) (locs : List Loc) (ls : Array Slot), va_P D vwCl ((encC c3 ad) w) H → va_S A s.heap H locs → lv_has ls 5 [(0, .ref (ad 42)), (1, .long y1), (3, .int x3), (4, .int x4)] → fJ7_fill_d0a16_42_6 y1 x4 n x3 w = some w' → W p l e (rmJ7_fill_d0a16_42) s m args below meth c H locs 0 0 Q (F0 m 6 ls []) := by
  have hx := X.1
  have hb := X.2.1
  have hml := X.2.2.1
  have hown := X.2.2.2.1
  have hts := X.2.2.2.2.1
  intro y1 x4 n
  induction n with
  | zero =>
    intro x3 w H locs ls hP hS hl h
    exact absurd h (by simp [fJ7_fill_d0a16_42_6])
  | succ n ih =>
    intro x3 w H locs ls hP hS hl h
    rw [fJ7_fill_d0a16_42_6] at h
    refine lv_iload_n hx hb dJ7_fill_d0a16_6 rfl (lv_at hl 2 rfl) ?_
    refine lv_iload hx hb dJ7_fill_d0a16_7 (lv_at hl 3 rfl) ?_
    refine lv_icmp_ge (tgt := 22) hx hb dJ7_fill_d0a16_9 (by decide) (fun c_1 => ?_) (fun c_1 => ?_)
    · replace h := it_p c_1 h
      obtain rfl := Option.some.inj h
      exact hret _ _ _ _ hP hS dJ7_fill_d0a16_22
    · replace h := it_n c_1 h
      refine lv_aload_n hx hb dJ7_fill_d0a16_12 rfl (lv_at hl 0 rfl) ?_
      refine lv_iload_n hx hb dJ7_fill_d0a16_13 rfl (lv_at hl 2 rfl) ?_
      refine lv_lload_n hx hb dJ7_fill_d0a16_14 rfl (lv_at hl 1 rfl) ?_
      obtain ⟨g_2, h⟩ := gd_s h
      refine x_last X hP hS (gC42 c3 ad w) (sC42 c3 ad w _ _) g_2 dJ7_fill_d0a16_15 (fun H locs hP hS => ?_)
      refine x_nmw h hP (fun w_3 h hP => ?_)
      refine lv_iinc (v := (x3 + 1)) (lv' := [(3, .int (x3 + 1)), (0, .ref (ad 42)), (1, .long y1), (4, .int x4)]) hx hb dJ7_fill_d0a16_16 hl (k := 2) rfl rfl (by decide) rfl (fun ls hl => ?_)
      refine lv_goto (tgt := 6) hx hb dJ7_fill_d0a16_19 (by decide) ?_
      exact ih (x3 + 1) w_3 _ _ _ hP hS (lv_sub hl [1, 2, 0, 3] rfl) h
def fJ7_fill_d0a16_42_E (y1 : Int64) (w : Mm) : Option (Mm) := fJ7_fill_d0a16_42_6 y1 13 FU 0 w
set_option maxRecDepth 20000 in
theorem bJ7_fill_d0a16_42_E {p : Program} {l : Launch} {e : Env} {s : State} {m : MethodId} {args : Array Value} {below : List Frame} {meth : Method} {c : Code} {Q : State → Prop} {D : va_G} {c3 : C3} {ad : Nat → Nat} {A : Nat → Prop} {w' : Mm} (X : Cx p s m args c cJ7_fill_d0a16 5 RJ7 wsJ7_fill_d0a16 D c3 (encC c3 ad) gC A) (hret : Rv p l e (rmJ7_fill_d0a16_42) s m args below meth c Q cJ7_fill_d0a16 D (encC c3 ad) A w') : ∀ (y1 : Int64) (w : Mm) (H : Heap) (locs : List Loc) (ls : Array Slot), va_P D vwCl ((encC c3 ad) w) H → va_S A s.heap H locs → lv_has ls 5 [(0, .ref (ad 42)), (1, .long y1)] → fJ7_fill_d0a16_42_E y1 w = some w' → W p l e (rmJ7_fill_d0a16_42) s m args below meth c H locs 0 0 Q (F0 m 0 ls []) := by
  have hx := X.1
  have hb := X.2.1
  have hml := X.2.2.1
  have hown := X.2.2.2.1
  have hts := X.2.2.2.2.1
  intro y1 w H locs ls hP hS hl h
  unfold fJ7_fill_d0a16_42_E at h
  refine lv_iconst (v := 0) hx hb dJ7_fill_d0a16_0 (by decide) ?_
  refine lv_istore_n (lv' := [(3, .int 0), (0, .ref (ad 42)), (1, .long y1)]) hx hb dJ7_fill_d0a16_1 rfl hl (by decide) rfl (fun ls hl => ?_)
  refine lv_aload_n hx hb dJ7_fill_d0a16_2 rfl (lv_at hl 1 rfl) ?_
  refine x_alenL (v := 13) X hP (gC42 c3 ad w) rfl dJ7_fill_d0a16_3 ?_
  refine lv_istore (lv' := [(4, .int 13), (3, .int 0), (0, .ref (ad 42)), (1, .long y1)]) hx hb dJ7_fill_d0a16_4 hl (by decide) rfl (fun ls hl => ?_)
  exact bJ7_fill_d0a16_42_6 X hret y1 13 FU 0 w _ _ _ hP hS (lv_sub hl [2, 3, 1, 0] rfl) h
def fJ7_fill_d0a16_42 (y1 : Int64) (w : Mm) : Option (Mm) := fJ7_fill_d0a16_42_E y1 w
theorem ctJ7_fill_d0a16_42 (l : Launch) (D : va_G) (c3 : C3) (ad : Nat → Nat) (w : Mm) (sz : Nat) (y1 : Int64) (w' : Mm) (h : fJ7_fill_d0a16_42 y1 w = some w') : Cv l yJ7_fill_d0a16 wsJ7_fill_d0a16 rmJ7_fill_d0a16_42 D c3 (encC c3 ad) gC [.ref (ad 42), .long y1] w sz w' := by
  refine Cv.of (cc := cJ7_fill_d0a16) (maxL := 5) (encC_ok c3 ad) (by decide) rfl (Nat.le_of_ble_eq_true rfl) ?_
  intro p e s m below meth c A Q ls X hret hP hS hl
  exact bJ7_fill_d0a16_42_E X hret y1 w _ _ ls hP hS hl h

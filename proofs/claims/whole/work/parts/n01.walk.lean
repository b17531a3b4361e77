theorem iwX5_isNumber_X5 : ∀ w ∈ wsX50, w ∈ wsX5_isNumber := fun _ h => List.mem_cons_of_mem _ (List.mem_append_right _ h)
theorem lkX5_isNumber_16 : Cond.fieldLink RX5 16 "StuckDoor$Rows" "sizes" "[I" ∈ wsX5_isNumber := by decide +kernel
def rmX5_isNumber_1 : Room := { frames := 0, cells := 0, slots := 0, locals := 0 }
def fX5_isNumber_1_E (x1 : Int32) (w : Mm) : Option (Int32) := (if x1 < 0 then some 0 else (if 6 ≤ x1 then some 0 else some 1))
set_option maxRecDepth 20000 in
theorem bX5_isNumber_1_E {p : Program} {l : Launch} {e : Env} {s : State} {m : MethodId} {args : Array Value} {below : List Frame} {meth : Method} {c : Code} {Q : State → Prop} {D : va_G} {c3 : C3} {ad : Nat → Nat} {A : Nat → Prop} {r : Int32} {w : Mm} (X : Cx p s m args c cX5_isNumber 2 RX5 wsX5_isNumber D c3 (encC c3 ad) gC A) (hret : Rz p l e (rmX5_isNumber_1) s m args below meth c Q cX5_isNumber D (encC c3 ad) A r w) : ∀ (x1 : Int32) (H : Heap) (locs : List Loc) (ls : Array Slot), va_P D vwCl ((encC c3 ad) w) H → va_S A s.heap H locs → lv_has ls 2 [(0, .ref (ad 1)), (1, .int x1)] → fX5_isNumber_1_E x1 w = some r → W p l e (rmX5_isNumber_1) s m args below meth c H locs 0 0 Q (F0 m 0 ls []) := by
  have hx := X.1
  have hb := X.2.1
  have hml := X.2.2.1
  have hown := X.2.2.2.1
  have hts := X.2.2.2.2.1
  intro x1 H locs ls hP hS hl h
  unfold fX5_isNumber_1_E at h
  refine lv_iload_n hx hb dX5_isNumber_0 rfl (lv_at hl 1 rfl) ?_
  refine lv_if_lt (tgt := 17) hx hb dX5_isNumber_1 (by decide) (fun c_1 => ?_) (fun c_1 => ?_)
  · replace h := it_p c_1 h
    refine lv_iconst (v := 0) hx hb dX5_isNumber_17 (by decide) ?_
    obtain rfl := Option.some.inj h
    exact hret (Or.inl rfl) _ _ _ _ hP hS dX5_isNumber_18
  · replace h := it_n c_1 h
    refine lv_iload_n hx hb dX5_isNumber_4 rfl (lv_at hl 1 rfl) ?_
    refine lv_aload_n hx hb dX5_isNumber_5 rfl (lv_at hl 0 rfl) ?_
    refine x_get (rest := [.int x1]) X hP (gC1 c3 ad w) rfl iwX5_isNumber_X5 1 (by decide) lkX5_isNumber_16 rfl dX5_isNumber_6 ?_
    refine x_alen (v := 6) X hP (gC3 c3 ad w) rfl dX5_isNumber_9 ?_
    refine lv_icmp_ge (tgt := 17) hx hb dX5_isNumber_10 (by decide) (fun c_2 => ?_) (fun c_2 => ?_)
    · replace h := it_p c_2 h
      refine lv_iconst (v := 0) hx hb dX5_isNumber_17 (by decide) ?_
      obtain rfl := Option.some.inj h
      exact hret (Or.inl rfl) _ _ _ _ hP hS dX5_isNumber_18
    · replace h := it_n c_2 h
      refine lv_iconst (v := 1) hx hb dX5_isNumber_13 (by decide) ?_
      refine lv_goto (tgt := 18) hx hb dX5_isNumber_14 (by decide) ?_
      obtain rfl := Option.some.inj h
      exact hret (Or.inr rfl) _ _ _ _ hP hS dX5_isNumber_18
def fX5_isNumber_1 (x1 : Int32) (w : Mm) : Option (Int32) := fX5_isNumber_1_E x1 w
theorem ctX5_isNumber_1 (l : Launch) (D : va_G) (c3 : C3) (ad : Nat → Nat) (w : Mm) (sz : Nat) (x1 : Int32) (r : Int32) (h : fX5_isNumber_1 x1 w = some r) : Ci l yX5_isNumber wsX5_isNumber rmX5_isNumber_1 D c3 (encC c3 ad) gC [.ref (ad 1), .int x1] w sz r w := by
  refine Ci.ofz (cc := cX5_isNumber) (maxL := 2) (encC_ok c3 ad) (by decide) rfl (Nat.le_of_ble_eq_true rfl) ?_
  intro p e s m below meth c A Q ls X hret hP hS hl
  exact bX5_isNumber_1_E X hret x1 _ _ ls hP hS hl h
def rmJ7_fill_53178_I : Room := { frames := 0, cells := 0, slots := 0, locals := 0 }
def fJ7_fill_53178_I_5 (q0 : Nat) (x1 : Int32) (x3 : Int32) : Nat → Int32 → Mm → Option (Mm)
  | 0, _, _ => none
  | n + 1, x2, w => (if x3 ≤ x2 then some w else gd (4 ≤ q0 ∧ q0 < 10) (gd (inb x2 40 = true) (nm (sA w q0 x2.toNatClampNeg x1) (fun w_4 => fJ7_fill_53178_I_5 q0 x1 x3 n (x2 + 1) w_4))))
set_option maxRecDepth 20000 in
theorem bJ7_fill_53178_I_5 {p : Program} {l : Launch} {e : Env} {s : State} {m : MethodId} {args : Array Value} {below : List Frame} {meth : Method} {c : Code} {Q : State → Prop} {D : va_G} {c3 : C3} {ad : Nat → Nat} {A : Nat → Prop} {w' : Mm} (X : Cx p s m args c cJ7_fill_53178 4 RJ7 wsJ7_fill_53178 D c3 (encC c3 ad) gC A) (hret : Rv p l e (rmJ7_fill_53178_I) s m args below meth c Q cJ7_fill_53178 D (encC c3 ad) A w') : ∀ (q0 : Nat) (x1 : Int32) (x3 : Int32) (n : Nat) (x2 : Int32) (w : Mm) (H : Heap) (locs : List Loc) (ls : Array Slot), va_P D vwCl ((encC c3 ad) w) H → va_S A s.heap H locs → lv_has ls 4 [(0, .ref (ad q0)), (1, .int x1), (2, .int x2), (3, .int x3)] → fJ7_fill_53178_I_5 q0 x1 x3 n x2 w = some w' → W p l e (rmJ7_fill_53178_I) s m args below meth c H locs 0 0 Q (F0 m 5 ls []) := by
  have hx := X.1
  have hb := X.2.1
  have hml := X.2.2.1
  have hown := X.2.2.2.1
  have hts := X.2.2.2.2.1
  intro q0 x1 x3 n
  induction n with
  | zero =>
    intro x2 w H locs ls hP hS hl h
    exact absurd h (by simp [fJ7_fill_53178_I_5])
  | succ n ih =>
    intro x2 w H locs ls hP hS hl h
    rw [fJ7_fill_53178_I_5] at h
    refine lv_iload_n hx hb dJ7_fill_53178_5 rfl (lv_at hl 2 rfl) ?_
    refine lv_iload_n hx hb dJ7_fill_53178_6 rfl (lv_at hl 3 rfl) ?_
    refine lv_icmp_ge (tgt := 20) hx hb dJ7_fill_53178_7 (by decide) (fun c_1 => ?_) (fun c_1 => ?_)
    · replace h := it_p c_1 h
      obtain rfl := Option.some.inj h
      exact hret _ _ _ _ hP hS dJ7_fill_53178_20
    · replace h := it_n c_1 h
      refine lv_aload_n hx hb dJ7_fill_53178_10 rfl (lv_at hl 0 rfl) ?_
      refine lv_iload_n hx hb dJ7_fill_53178_11 rfl (lv_at hl 2 rfl) ?_
      refine lv_iload_n hx hb dJ7_fill_53178_12 rfl (lv_at hl 1 rfl) ?_
      obtain ⟨g_2, h⟩ := gd_s h
      obtain ⟨g_3, h⟩ := gd_s h
      refine x_iast X hP hS (gCrI c3 ad w g_2) (sCrI c3 ad w g_2 _ _) g_3 dJ7_fill_53178_13 (fun H locs hP hS => ?_)
      refine x_nmw h hP (fun w_4 h hP => ?_)
      refine lv_iinc (v := (x2 + 1)) (lv' := [(2, .int (x2 + 1)), (0, .ref (ad q0)), (1, .int x1), (3, .int x3)]) hx hb dJ7_fill_53178_14 hl (k := 2) rfl rfl (by decide) rfl (fun ls hl => ?_)
      refine lv_goto (tgt := 5) hx hb dJ7_fill_53178_17 (by decide) ?_
      exact ih (x2 + 1) w_4 _ _ _ hP hS (lv_sub hl [1, 2, 0, 3] rfl) h
def fJ7_fill_53178_I_E (q0 : Nat) (x1 : Int32) (w : Mm) : Option (Mm) := gd (4 ≤ q0 ∧ q0 < 10) (fJ7_fill_53178_I_5 q0 x1 40 FU 0 w)
set_option maxRecDepth 20000 in
theorem bJ7_fill_53178_I_E {p : Program} {l : Launch} {e : Env} {s : State} {m : MethodId} {args : Array Value} {below : List Frame} {meth : Method} {c : Code} {Q : State → Prop} {D : va_G} {c3 : C3} {ad : Nat → Nat} {A : Nat → Prop} {w' : Mm} (X : Cx p s m args c cJ7_fill_53178 4 RJ7 wsJ7_fill_53178 D c3 (encC c3 ad) gC A) (hret : Rv p l e (rmJ7_fill_53178_I) s m args below meth c Q cJ7_fill_53178 D (encC c3 ad) A w') : ∀ (q0 : Nat) (x1 : Int32) (w : Mm) (H : Heap) (locs : List Loc) (ls : Array Slot), va_P D vwCl ((encC c3 ad) w) H → va_S A s.heap H locs → lv_has ls 4 [(0, .ref (ad q0)), (1, .int x1)] → fJ7_fill_53178_I_E q0 x1 w = some w' → W p l e (rmJ7_fill_53178_I) s m args below meth c H locs 0 0 Q (F0 m 0 ls []) := by
  have hx := X.1
  have hb := X.2.1
  have hml := X.2.2.1
  have hown := X.2.2.2.1
  have hts := X.2.2.2.2.1
  intro q0 x1 w H locs ls hP hS hl h
  unfold fJ7_fill_53178_I_E at h
  refine lv_iconst (v := 0) hx hb dJ7_fill_53178_0 (by decide) ?_
  refine lv_istore_n (lv' := [(2, .int 0), (0, .ref (ad q0)), (1, .int x1)]) hx hb dJ7_fill_53178_1 rfl hl (by decide) rfl (fun ls hl => ?_)
  refine lv_aload_n hx hb dJ7_fill_53178_2 rfl (lv_at hl 1 rfl) ?_
  obtain ⟨g_5, h⟩ := gd_s h
  refine x_alen (v := 40) X hP (gCrI c3 ad w g_5) rfl dJ7_fill_53178_3 ?_
  refine lv_istore_n (lv' := [(3, .int 40), (2, .int 0), (0, .ref (ad q0)), (1, .int x1)]) hx hb dJ7_fill_53178_4 rfl hl (by decide) rfl (fun ls hl => ?_)
  exact bJ7_fill_53178_I_5 X hret q0 x1 40 FU 0 w _ _ _ hP hS (lv_sub hl [2, 3, 1, 0] rfl) h
def fJ7_fill_53178_I (q0 : Nat) (x1 : Int32) (w : Mm) : Option (Mm) := fJ7_fill_53178_I_E q0 x1 w
theorem ctJ7_fill_53178_I (l : Launch) (D : va_G) (c3 : C3) (ad : Nat → Nat) (w : Mm) (sz : Nat) (q0 : Nat) (x1 : Int32) (w' : Mm) (h : fJ7_fill_53178_I q0 x1 w = some w') : Cv l yJ7_fill_53178 wsJ7_fill_53178 rmJ7_fill_53178_I D c3 (encC c3 ad) gC [.ref (ad q0), .int x1] w sz w' := by
  refine Cv.of (cc := cJ7_fill_53178) (maxL := 4) (encC_ok c3 ad) (by decide) rfl (Nat.le_of_ble_eq_true rfl) ?_
  intro p e s m below meth c A Q ls X hret hP hS hl
  exact bJ7_fill_53178_I_E X hret q0 x1 w _ _ ls hP hS hl h
theorem iwX5_make_X5 : ∀ w ∈ wsX50, w ∈ wsX5_make := fun _ h => List.mem_cons_of_mem _ (List.mem_append_right _ h)
theorem lkX5_make_11 : Cond.fieldLink RX5 11 "StuckDoor$Rows" "places" "[[I" ∈ wsX5_make := by decide +kernel
theorem lkX5_make_16 : Cond.fieldLink RX5 16 "StuckDoor$Rows" "sizes" "[I" ∈ wsX5_make := by decide +kernel
def rmX5_make_1 : Room := { frames := 1, cells := 0, slots := 0, locals := 23 }
def fX5_make_1_E (x1 : Int32) (x2 : Int32) (x3 : Int32) (w : Mm) : Option (Mm) := bo (fX5_isNumber_1 x1 w) (fun r_2 => (if r_2 = 0 then some w else (if x2 < 0 then some w else gd (inb x1 6 = true) ((if 40 < x2 then some w else nm (sA w 3 x1.toNatClampNeg x2) (fun w_9 => bo (fJ7_fill_53178_I (4 + x1.toNatClampNeg) x3 w_9) (fun w_13 => some w_13)))))))
set_option maxRecDepth 20000 in
theorem bX5_make_1_E {p : Program} {l : Launch} {e : Env} {s : State} {m : MethodId} {args : Array Value} {below : List Frame} {meth : Method} {c : Code} {Q : State → Prop} {D : va_G} {c3 : C3} {ad : Nat → Nat} {A : Nat → Prop} {w' : Mm} (X : Cx p s m args c cX5_make 4 RX5 wsX5_make D c3 (encC c3 ad) gC A) (hret : Rv p l e (rmX5_make_1) s m args below meth c Q cX5_make D (encC c3 ad) A w') : ∀ (x1 : Int32) (x2 : Int32) (x3 : Int32) (w : Mm) (H : Heap) (locs : List Loc) (ls : Array Slot), va_P D vwCl ((encC c3 ad) w) H → va_S A s.heap H locs → lv_has ls 4 [(0, .ref (ad 1)), (1, .int x1), (2, .int x2), (3, .int x3)] → fX5_make_1_E x1 x2 x3 w = some w' → W p l e (rmX5_make_1) s m args below meth c H locs 0 0 Q (F0 m 0 ls []) := by
  have hx := X.1
  have hb := X.2.1
  have hml := X.2.2.1
  have hown := X.2.2.2.1
  have hts := X.2.2.2.2.1
  intro x1 x2 x3 w H locs ls hP hS hl h
  unfold fX5_make_1_E at h
  refine lv_aload_n hx hb dX5_make_0 rfl (lv_at hl 0 rfl) ?_
  refine lv_iload_n hx hb dX5_make_1 rfl (lv_at hl 1 rfl) ?_
  obtain ⟨r_2, e_1, h⟩ := bo_s h
  refine x_goi X hS (x_runV (As := [.int x1]) (rest := []) X gC_ok hP hS (ctX5_isNumber_1 l D c3 ad w _ x1 _ e_1) (cwV 1 hts gX5_make_X5_isNumber rfl rfl rfl (by decide +kernel) ⟨by decide, by decide⟩) (gC1 c3 ad w) rfl rfl rfl hl.1 rfl (Nat.le_of_ble_eq_true rfl) dX5_make_2) (fun H locs hP hS => ?_)
  refine lv_if_eq (tgt := 40) hx hb dX5_make_5 (by decide) (fun c_4 => ?_) (fun c_4 => ?_)
  · replace h := it_p c_4 h
    obtain rfl := Option.some.inj h
    exact hret _ _ _ _ hP hS dX5_make_40
  · replace h := it_n c_4 h
    refine lv_iload_n hx hb dX5_make_8 rfl (lv_at hl 2 rfl) ?_
    refine lv_if_lt (tgt := 40) hx hb dX5_make_9 (by decide) (fun c_5 => ?_) (fun c_5 => ?_)
    · replace h := it_p c_5 h
      obtain rfl := Option.some.inj h
      exact hret _ _ _ _ hP hS dX5_make_40
    · replace h := it_n c_5 h
      refine lv_iload_n hx hb dX5_make_12 rfl (lv_at hl 2 rfl) ?_
      refine lv_aload_n hx hb dX5_make_13 rfl (lv_at hl 0 rfl) ?_
      refine x_get (rest := [.int x2]) X hP (gC1 c3 ad w) rfl iwX5_make_X5 0 (by decide) lkX5_make_11 rfl dX5_make_14 ?_
      refine lv_iload_n hx hb dX5_make_17 rfl (lv_at hl 1 rfl) ?_
      obtain ⟨g_6, h⟩ := gd_s h
      have q_7 := rgn 4 g_6
      refine x_aald (z := ad (4 + x1.toNatClampNeg)) X hP (gC2 c3 ad w) g_6 rfl dX5_make_18 ?_
      refine x_alen (v := 40) X hP (gCrI c3 ad w q_7) rfl dX5_make_19 ?_
      refine lv_icmp_gt (tgt := 40) hx hb dX5_make_20 (by decide) (fun c_8 => ?_) (fun c_8 => ?_)
      · replace h := it_p c_8 h
        obtain rfl := Option.some.inj h
        exact hret _ _ _ _ hP hS dX5_make_40
      · replace h := it_n c_8 h
        refine lv_aload_n hx hb dX5_make_23 rfl (lv_at hl 0 rfl) ?_
        refine x_get (rest := []) X hP (gC1 c3 ad w) rfl iwX5_make_X5 1 (by decide) lkX5_make_16 rfl dX5_make_24 ?_
        refine lv_iload_n hx hb dX5_make_27 rfl (lv_at hl 1 rfl) ?_
        refine lv_iload_n hx hb dX5_make_28 rfl (lv_at hl 2 rfl) ?_
        refine x_iast X hP hS (gC3 c3 ad w) (sC3 c3 ad w _ _) g_6 dX5_make_29 (fun H locs hP hS => ?_)
        refine x_nmw h hP (fun w_9 h hP => ?_)
        refine lv_aload_n hx hb dX5_make_30 rfl (lv_at hl 0 rfl) ?_
        refine x_get (rest := []) X hP (gC1 c3 ad w_9) rfl iwX5_make_X5 0 (by decide) lkX5_make_11 rfl dX5_make_31 ?_
        refine lv_iload_n hx hb dX5_make_34 rfl (lv_at hl 1 rfl) ?_
        have q_10 := rgn 4 g_6
        refine x_aald (z := ad (4 + x1.toNatClampNeg)) X hP (gC2 c3 ad w_9) g_6 rfl dX5_make_35 ?_
        refine lv_iload_n hx hb dX5_make_36 rfl (lv_at hl 3 rfl) ?_
        obtain ⟨w_13, e_11, h⟩ := bo_s h
        refine x_gov X hS (x_runS (As := [.ref (ad (4 + x1.toNatClampNeg)), .int x3]) (rest := []) X gC_ok hP hS (ctJ7_fill_53178_I l D c3 ad w_9 _ (4 + x1.toNatClampNeg) x3 _ e_11) (va_cwS 2 hts gX5_make_J7_fill_53178 rfl rfl rfl (by decide +kernel) ⟨by decide, by decide⟩) rfl hl.1 rfl (Nat.le_of_ble_eq_true rfl) dX5_make_37) (fun H locs hP hS => ?_)
        obtain rfl := Option.some.inj h
        exact hret _ _ _ _ hP hS dX5_make_40
def fX5_make_1 (x1 : Int32) (x2 : Int32) (x3 : Int32) (w : Mm) : Option (Mm) := fX5_make_1_E x1 x2 x3 w
theorem ctX5_make_1 (l : Launch) (D : va_G) (c3 : C3) (ad : Nat → Nat) (w : Mm) (sz : Nat) (x1 : Int32) (x2 : Int32) (x3 : Int32) (w' : Mm) (h : fX5_make_1 x1 x2 x3 w = some w') : Cv l yX5_make wsX5_make rmX5_make_1 D c3 (encC c3 ad) gC [.ref (ad 1), .int x1, .int x2, .int x3] w sz w' := by
  refine Cv.of (cc := cX5_make) (maxL := 4) (encC_ok c3 ad) (by decide) rfl (Nat.le_of_ble_eq_true rfl) ?_
  intro p e s m below meth c A Q ls X hret hP hS hl
  exact bX5_make_1_E X hret x1 x2 x3 w _ _ ls hP hS hl h
theorem iwX7_refuse_X7 : ∀ w ∈ wsX70, w ∈ wsX7_refuse := fun _ h => List.mem_cons_of_mem _ (List.mem_append_right _ h)
theorem lkX7_refuse_52 : Cond.fieldLink RX7 52 "StuckDoor" "found" "[I" ∈ wsX7_refuse := by decide +kernel
theorem lkX7_refuse_56 : Cond.fieldLink RX7 56 "StuckDoor" "latest" "I" ∈ wsX7_refuse := by decide +kernel
def rmX7_refuse : Room := { frames := 0, cells := 0, slots := 0, locals := 0 }
def fX7_refuse_E (x1 : Int32) (w : Mm) : Option (Int32 × Mm) := nm (sA w 0 8 x1) (fun w_1 => gd (inb x1 6 = true) (nm (sA w_1 43 x1.toNatClampNeg ((w_1.1 43 x1.toNatClampNeg) + 1)) (fun w_3 => some ((-3), w_3))))
set_option maxRecDepth 20000 in
theorem bX7_refuse_E {p : Program} {l : Launch} {e : Env} {s : State} {m : MethodId} {args : Array Value} {below : List Frame} {meth : Method} {c : Code} {Q : State → Prop} {D : va_G} {c3 : C3} {ad : Nat → Nat} {A : Nat → Prop} {r : Int32} {w' : Mm} (X : Cx p s m args c cX7_refuse 2 RX7 wsX7_refuse D c3 (encC c3 ad) gC A) (hret : Ri p l e (rmX7_refuse) s m args below meth c Q cX7_refuse D (encC c3 ad) A r w') : ∀ (x1 : Int32) (w : Mm) (H : Heap) (locs : List Loc) (ls : Array Slot), va_P D vwCl ((encC c3 ad) w) H → va_S A s.heap H locs → lv_has ls 2 [(0, .ref (ad 0)), (1, .int x1)] → fX7_refuse_E x1 w = some (r, w') → W p l e (rmX7_refuse) s m args below meth c H locs 0 0 Q (F0 m 0 ls []) := by
  have hx := X.1
  have hb := X.2.1
  have hml := X.2.2.1
  have hown := X.2.2.2.1
  have hts := X.2.2.2.2.1
  intro x1 w H locs ls hP hS hl h
  unfold fX7_refuse_E at h
  refine lv_aload_n hx hb dX7_refuse_0 rfl (lv_at hl 0 rfl) ?_
  refine lv_iload_n hx hb dX7_refuse_1 rfl (lv_at hl 1 rfl) ?_
  refine x_put (v := .int x1) X hP hS (gC0 c3 ad w) rfl iwX7_refuse_X7 tyX7 tyX7_ok nmX7 8 (by decide) lkX7_refuse_56 rfl rfl rfl (Nat.le_of_ble_eq_true rfl) (pC0_8 c3 ad w x1) dX7_refuse_2 (fun H locs hP hS => ?_)
  refine x_nmw h hP (fun w_1 h hP => ?_)
  refine lv_aload_n hx hb dX7_refuse_5 rfl (lv_at hl 0 rfl) ?_
  refine x_get (rest := []) X hP (gC0 c3 ad w_1) rfl iwX7_refuse_X7 7 (by decide) lkX7_refuse_52 rfl dX7_refuse_6 ?_
  refine lv_iload_n hx hb dX7_refuse_9 rfl (lv_at hl 1 rfl) ?_
  refine lv_dup2_11 hx hb dX7_refuse_10 rfl rfl ?_
  obtain ⟨g_2, h⟩ := gd_s h
  refine x_iald X hP (gC43 c3 ad w_1) g_2 dX7_refuse_11 ?_
  refine lv_iconst (v := 1) hx hb dX7_refuse_12 (by decide) ?_
  refine lv_iadd hx hb dX7_refuse_13 ?_
  refine x_iast X hP hS (gC43 c3 ad w_1) (sC43 c3 ad w_1 _ _) g_2 dX7_refuse_14 (fun H locs hP hS => ?_)
  refine x_nmw h hP (fun w_3 h hP => ?_)
  refine lv_bipush (v := (-3)) hx hb dX7_refuse_15 (by decide) ?_
  obtain ⟨rfl, rfl⟩ := Prod.mk.inj (Option.some.inj h)
  exact hret _ _ _ _ hP hS dX7_refuse_17
def fX7_refuse (x1 : Int32) (w : Mm) : Option (Int32 × Mm) := fX7_refuse_E x1 w
theorem ctX7_refuse (l : Launch) (D : va_G) (c3 : C3) (ad : Nat → Nat) (w : Mm) (sz : Nat) (x1 : Int32) (r : Int32) (w' : Mm) (h : fX7_refuse x1 w = some (r, w')) : Ci l yX7_refuse wsX7_refuse rmX7_refuse D c3 (encC c3 ad) gC [.ref (ad 0), .int x1] w sz r w' := by
  refine Ci.of (cc := cX7_refuse) (maxL := 2) (encC_ok c3 ad) (by decide) rfl (Nat.le_of_ble_eq_true rfl) ?_
  intro p e s m below meth c A Q ls X hret hP hS hl
  exact bX7_refuse_E X hret x1 w _ _ ls hP hS hl h
theorem iwX7_row_X7 : ∀ w ∈ wsX70, w ∈ wsX7_row := fun _ h => List.mem_cons_of_mem _ (List.mem_append_left _ (List.mem_append_right _ h))
theorem lkX7_row_14 : Cond.fieldLink RX7 14 "StuckDoor" "ints" "LStuckDoor$Rows;" ∈ wsX7_row := by decide +kernel
def rmX7_row : Room := { frames := 2, cells := 0, slots := 0, locals := 46 }
def fX7_row_E (x1 : Int32) (x2 : Int32) (w : Mm) : Option (Int32 × Mm) := bo (fX5_isNumber_1 x1 w) (fun r_2 => (if r_2 = 0 then some ((-1), w) else (if x2 ≤ 40 then (if 0 ≤ x2 then bo (fX5_make_1 x1 x2 0 w) (fun w_9 => some (x2, w_9)) else bd (fX7_refuse 5 w) (fun r_11 w_12 => some (r_11, w_12))) else some ((-1), w))))
set_option maxRecDepth 20000 in
theorem bX7_row_E {p : Program} {l : Launch} {e : Env} {s : State} {m : MethodId} {args : Array Value} {below : List Frame} {meth : Method} {c : Code} {Q : State → Prop} {D : va_G} {c3 : C3} {ad : Nat → Nat} {A : Nat → Prop} {r : Int32} {w' : Mm} (X : Cx p s m args c cX7_row 3 RX7 wsX7_row D c3 (encC c3 ad) gC A) (hret : Ri p l e (rmX7_row) s m args below meth c Q cX7_row D (encC c3 ad) A r w') : ∀ (x1 : Int32) (x2 : Int32) (w : Mm) (H : Heap) (locs : List Loc) (ls : Array Slot), va_P D vwCl ((encC c3 ad) w) H → va_S A s.heap H locs → lv_has ls 3 [(0, .ref (ad 0)), (1, .int x1), (2, .int x2)] → fX7_row_E x1 x2 w = some (r, w') → W p l e (rmX7_row) s m args below meth c H locs 0 0 Q (F0 m 0 ls []) := by
  have hx := X.1
  have hb := X.2.1
  have hml := X.2.2.1
  have hown := X.2.2.2.1
  have hts := X.2.2.2.2.1
  intro x1 x2 w H locs ls hP hS hl h
  unfold fX7_row_E at h
  refine lv_aload_n hx hb dX7_row_0 rfl (lv_at hl 0 rfl) ?_
  refine x_get (rest := []) X hP (gC0 c3 ad w) rfl iwX7_row_X7 0 (by decide) lkX7_row_14 rfl dX7_row_1 ?_
  refine lv_iload_n hx hb dX7_row_4 rfl (lv_at hl 1 rfl) ?_
  obtain ⟨r_2, e_1, h⟩ := bo_s h
  refine x_goi X hS (x_runV (As := [.int x1]) (rest := []) X gC_ok hP hS (ctX5_isNumber_1 l D c3 ad w _ x1 _ e_1) (cwV 1 hts gX7_row_X5_isNumber rfl rfl rfl (by decide +kernel) ⟨by decide, by decide⟩) (gC1 c3 ad w) rfl rfl rfl hl.1 rfl (Nat.le_of_ble_eq_true rfl) dX7_row_5) (fun H locs hP hS => ?_)
  refine lv_if_eq (tgt := 17) hx hb dX7_row_8 (by decide) (fun c_4 => ?_) (fun c_4 => ?_)
  · replace h := it_p c_4 h
    refine lv_iconst (v := (-1)) hx hb dX7_row_17 (by decide) ?_
    obtain ⟨rfl, rfl⟩ := Prod.mk.inj (Option.some.inj h)
    exact hret _ _ _ _ hP hS dX7_row_18
  · replace h := it_n c_4 h
    refine lv_iload_n hx hb dX7_row_11 rfl (lv_at hl 2 rfl) ?_
    refine lv_bipush (v := 40) hx hb dX7_row_12 (by decide) ?_
    refine lv_icmp_le (tgt := 19) hx hb dX7_row_14 (by decide) (fun c_5 => ?_) (fun c_5 => ?_)
    · replace h := it_p c_5 h
      refine lv_iload_n hx hb dX7_row_19 rfl (lv_at hl 2 rfl) ?_
      refine lv_if_ge (tgt := 29) hx hb dX7_row_20 (by decide) (fun c_6 => ?_) (fun c_6 => ?_)
      · replace h := it_p c_6 h
        refine lv_aload_n hx hb dX7_row_29 rfl (lv_at hl 0 rfl) ?_
        refine x_get (rest := []) X hP (gC0 c3 ad w) rfl iwX7_row_X7 0 (by decide) lkX7_row_14 rfl dX7_row_30 ?_
        refine lv_iload_n hx hb dX7_row_33 rfl (lv_at hl 1 rfl) ?_
        refine lv_iload_n hx hb dX7_row_34 rfl (lv_at hl 2 rfl) ?_
        refine lv_iconst (v := 0) hx hb dX7_row_35 (by decide) ?_
        obtain ⟨w_9, e_7, h⟩ := bo_s h
        refine x_gov X hS (x_runV (As := [.int x1, .int x2, .int 0]) (rest := []) X gC_ok hP hS (ctX5_make_1 l D c3 ad w _ x1 x2 0 _ e_7) (cwV 3 hts gX7_row_X5_make rfl rfl rfl (by decide +kernel) ⟨by decide, by decide⟩) (gC1 c3 ad w) rfl rfl rfl hl.1 rfl (Nat.le_of_ble_eq_true rfl) dX7_row_36) (fun H locs hP hS => ?_)
        refine lv_iload_n hx hb dX7_row_39 rfl (lv_at hl 2 rfl) ?_
        obtain ⟨rfl, rfl⟩ := Prod.mk.inj (Option.some.inj h)
        exact hret _ _ _ _ hP hS dX7_row_40
      · replace h := it_n c_6 h
        refine lv_aload_n hx hb dX7_row_23 rfl (lv_at hl 0 rfl) ?_
        refine lv_iconst (v := 5) hx hb dX7_row_24 (by decide) ?_
        obtain ⟨r_11, w_12, e_10, h⟩ := bd_s h
        refine x_goi X hS (x_runV (As := [.int 5]) (rest := []) X gC_ok hP hS (ctX7_refuse l D c3 ad w _ 5 _ _ e_10) (cwV 1 hts gX7_row_X7_refuse rfl rfl rfl (by decide +kernel) ⟨by decide, by decide⟩) (gC0 c3 ad w) rfl rfl rfl hl.1 rfl (Nat.le_of_ble_eq_true rfl) dX7_row_25) (fun H locs hP hS => ?_)
        obtain ⟨rfl, rfl⟩ := Prod.mk.inj (Option.some.inj h)
        exact hret _ _ _ _ hP hS dX7_row_28
    · replace h := it_n c_5 h
      refine lv_iconst (v := (-1)) hx hb dX7_row_17 (by decide) ?_
      obtain ⟨rfl, rfl⟩ := Prod.mk.inj (Option.some.inj h)
      exact hret _ _ _ _ hP hS dX7_row_18
def fX7_row (x1 : Int32) (x2 : Int32) (w : Mm) : Option (Int32 × Mm) := fX7_row_E x1 x2 w
theorem ctX7_row (l : Launch) (D : va_G) (c3 : C3) (ad : Nat → Nat) (w : Mm) (sz : Nat) (x1 : Int32) (x2 : Int32) (r : Int32) (w' : Mm) (h : fX7_row x1 x2 w = some (r, w')) : Ci l yX7_row wsX7_row rmX7_row D c3 (encC c3 ad) gC [.ref (ad 0), .int x1, .int x2] w sz r w' := by
  refine Ci.of (cc := cX7_row) (maxL := 3) (encC_ok c3 ad) (by decide) rfl (Nat.le_of_ble_eq_true rfl) ?_
  intro p e s m below meth c A Q ls X hret hP hS hl
  exact bX7_row_E X hret x1 x2 w _ _ ls hP hS hl h
theorem iwX5_isThere_X5 : ∀ w ∈ wsX50, w ∈ wsX5_isThere := fun _ h => List.mem_cons_of_mem _ (List.mem_append_right _ h)
theorem lkX5_isThere_16 : Cond.fieldLink RX5 16 "StuckDoor$Rows" "sizes" "[I" ∈ wsX5_isThere := by decide +kernel
def rmX5_isThere_1 : Room := { frames := 1, cells := 0, slots := 0, locals := 21 }
def fX5_isThere_1_E (x1 : Int32) (w : Mm) : Option (Int32) := bo (fX5_isNumber_1 x1 w) (fun r_2 => (if r_2 = 0 then some 0 else gd (inb x1 6 = true) ((if (w.1 3 x1.toNatClampNeg) = (-1) then some 0 else some 1))))
set_option maxRecDepth 20000 in
theorem bX5_isThere_1_E {p : Program} {l : Launch} {e : Env} {s : State} {m : MethodId} {args : Array Value} {below : List Frame} {meth : Method} {c : Code} {Q : State → Prop} {D : va_G} {c3 : C3} {ad : Nat → Nat} {A : Nat → Prop} {r : Int32} {w : Mm} (X : Cx p s m args c cX5_isThere 2 RX5 wsX5_isThere D c3 (encC c3 ad) gC A) (hret : Rz p l e (rmX5_isThere_1) s m args below meth c Q cX5_isThere D (encC c3 ad) A r w) : ∀ (x1 : Int32) (H : Heap) (locs : List Loc) (ls : Array Slot), va_P D vwCl ((encC c3 ad) w) H → va_S A s.heap H locs → lv_has ls 2 [(0, .ref (ad 1)), (1, .int x1)] → fX5_isThere_1_E x1 w = some r → W p l e (rmX5_isThere_1) s m args below meth c H locs 0 0 Q (F0 m 0 ls []) := by
  have hx := X.1
  have hb := X.2.1
  have hml := X.2.2.1
  have hown := X.2.2.2.1
  have hts := X.2.2.2.2.1
  intro x1 H locs ls hP hS hl h
  unfold fX5_isThere_1_E at h
  refine lv_aload_n hx hb dX5_isThere_0 rfl (lv_at hl 0 rfl) ?_
  refine lv_iload_n hx hb dX5_isThere_1 rfl (lv_at hl 1 rfl) ?_
  obtain ⟨r_2, e_1, h⟩ := bo_s h
  refine x_goi X hS (x_runV (As := [.int x1]) (rest := []) X gC_ok hP hS (ctX5_isNumber_1 l D c3 ad w _ x1 _ e_1) (cwV 1 hts gX5_isThere_X5_isNumber rfl rfl rfl (by decide +kernel) ⟨by decide, by decide⟩) (gC1 c3 ad w) rfl rfl rfl hl.1 rfl (Nat.le_of_ble_eq_true rfl) dX5_isThere_2) (fun H locs hP hS => ?_)
  refine lv_if_eq (tgt := 22) hx hb dX5_isThere_5 (by decide) (fun c_4 => ?_) (fun c_4 => ?_)
  · replace h := it_p c_4 h
    refine lv_iconst (v := 0) hx hb dX5_isThere_22 (by decide) ?_
    obtain rfl := Option.some.inj h
    exact hret (Or.inl rfl) _ _ _ _ hP hS dX5_isThere_23
  · replace h := it_n c_4 h
    refine lv_aload_n hx hb dX5_isThere_8 rfl (lv_at hl 0 rfl) ?_
    refine x_get (rest := []) X hP (gC1 c3 ad w) rfl iwX5_isThere_X5 1 (by decide) lkX5_isThere_16 rfl dX5_isThere_9 ?_
    refine lv_iload_n hx hb dX5_isThere_12 rfl (lv_at hl 1 rfl) ?_
    obtain ⟨g_5, h⟩ := gd_s h
    refine x_iald X hP (gC3 c3 ad w) g_5 dX5_isThere_13 ?_
    refine lv_iconst (v := (-1)) hx hb dX5_isThere_14 (by decide) ?_
    refine lv_icmp_eq (tgt := 22) hx hb dX5_isThere_15 (by decide) (fun c_6 => ?_) (fun c_6 => ?_)
    · replace h := it_p c_6 h
      refine lv_iconst (v := 0) hx hb dX5_isThere_22 (by decide) ?_
      obtain rfl := Option.some.inj h
      exact hret (Or.inl rfl) _ _ _ _ hP hS dX5_isThere_23
    · replace h := it_n c_6 h
      refine lv_iconst (v := 1) hx hb dX5_isThere_18 (by decide) ?_
      refine lv_goto (tgt := 23) hx hb dX5_isThere_19 (by decide) ?_
      obtain rfl := Option.some.inj h
      exact hret (Or.inr rfl) _ _ _ _ hP hS dX5_isThere_23
def fX5_isThere_1 (x1 : Int32) (w : Mm) : Option (Int32) := fX5_isThere_1_E x1 w
theorem ctX5_isThere_1 (l : Launch) (D : va_G) (c3 : C3) (ad : Nat → Nat) (w : Mm) (sz : Nat) (x1 : Int32) (r : Int32) (h : fX5_isThere_1 x1 w = some r) : Ci l yX5_isThere wsX5_isThere rmX5_isThere_1 D c3 (encC c3 ad) gC [.ref (ad 1), .int x1] w sz r w := by
  refine Ci.ofz (cc := cX5_isThere) (maxL := 2) (encC_ok c3 ad) (by decide) rfl (Nat.le_of_ble_eq_true rfl) ?_
  intro p e s m below meth c A Q ls X hret hP hS hl
  exact bX5_isThere_1_E X hret x1 _ _ ls hP hS hl h
def rmX7_refusalOfRow_0_1 : Room := { frames := 2, cells := 0, slots := 0, locals := 42 }
def fX7_refusalOfRow_0_1_E (x2 : Int32) (w : Mm) : Option (Int32 × Mm) := bo (fX5_isNumber_1 x2 w) (fun r_2 => (if r_2 = 0 then some ((-1), w) else bo (fX5_isThere_1 x2 w) (fun r_6 => (if r_6 = 0 then bd (fX7_refuse 1 w) (fun r_10 w_11 => some (r_10, w_11)) else some (0, w)))))
set_option maxRecDepth 20000 in
theorem bX7_refusalOfRow_0_1_E {p : Program} {l : Launch} {e : Env} {s : State} {m : MethodId} {args : Array Value} {below : List Frame} {meth : Method} {c : Code} {Q : State → Prop} {D : va_G} {c3 : C3} {ad : Nat → Nat} {A : Nat → Prop} {r : Int32} {w' : Mm} (X : Cx p s m args c cX7_refusalOfRow 3 RX7 wsX7_refusalOfRow D c3 (encC c3 ad) gC A) (hret : Ri p l e (rmX7_refusalOfRow_0_1) s m args below meth c Q cX7_refusalOfRow D (encC c3 ad) A r w') : ∀ (x2 : Int32) (w : Mm) (H : Heap) (locs : List Loc) (ls : Array Slot), va_P D vwCl ((encC c3 ad) w) H → va_S A s.heap H locs → lv_has ls 3 [(0, .ref (ad 0)), (1, .ref (ad 1)), (2, .int x2)] → fX7_refusalOfRow_0_1_E x2 w = some (r, w') → W p l e (rmX7_refusalOfRow_0_1) s m args below meth c H locs 0 0 Q (F0 m 0 ls []) := by
  have hx := X.1
  have hb := X.2.1
  have hml := X.2.2.1
  have hown := X.2.2.2.1
  have hts := X.2.2.2.2.1
  intro x2 w H locs ls hP hS hl h
  unfold fX7_refusalOfRow_0_1_E at h
  refine lv_aload_n hx hb dX7_refusalOfRow_0 rfl (lv_at hl 1 rfl) ?_
  refine lv_iload_n hx hb dX7_refusalOfRow_1 rfl (lv_at hl 2 rfl) ?_
  obtain ⟨r_2, e_1, h⟩ := bo_s h
  refine x_goi X hS (x_runV (As := [.int x2]) (rest := []) X gC_ok hP hS (ctX5_isNumber_1 l D c3 ad w _ x2 _ e_1) (cwV 1 hts gX7_refusalOfRow_X5_isNumber rfl rfl rfl (by decide +kernel) ⟨by decide, by decide⟩) (gC1 c3 ad w) rfl rfl rfl hl.1 rfl (Nat.le_of_ble_eq_true rfl) dX7_refusalOfRow_2) (fun H locs hP hS => ?_)
  refine lv_if_ne (tgt := 10) hx hb dX7_refusalOfRow_5 (by decide) (fun c_4 => ?_) (fun c_4 => ?_)
  · replace h := it_n c_4 h
    refine lv_aload_n hx hb dX7_refusalOfRow_10 rfl (lv_at hl 1 rfl) ?_
    refine lv_iload_n hx hb dX7_refusalOfRow_11 rfl (lv_at hl 2 rfl) ?_
    obtain ⟨r_6, e_5, h⟩ := bo_s h
    refine x_goi X hS (x_runV (As := [.int x2]) (rest := []) X gC_ok hP hS (ctX5_isThere_1 l D c3 ad w _ x2 _ e_5) (cwV 1 hts gX7_refusalOfRow_X5_isThere rfl rfl rfl (by decide +kernel) ⟨by decide, by decide⟩) (gC1 c3 ad w) rfl rfl rfl hl.1 rfl (Nat.le_of_ble_eq_true rfl) dX7_refusalOfRow_12) (fun H locs hP hS => ?_)
    refine lv_if_eq (tgt := 22) hx hb dX7_refusalOfRow_15 (by decide) (fun c_8 => ?_) (fun c_8 => ?_)
    · replace h := it_p c_8 h
      refine lv_aload_n hx hb dX7_refusalOfRow_22 rfl (lv_at hl 0 rfl) ?_
      refine lv_iconst (v := 1) hx hb dX7_refusalOfRow_23 (by decide) ?_
      obtain ⟨r_10, w_11, e_9, h⟩ := bd_s h
      refine x_goi X hS (x_runV (As := [.int 1]) (rest := []) X gC_ok hP hS (ctX7_refuse l D c3 ad w _ 1 _ _ e_9) (cwV 1 hts gX7_refusalOfRow_X7_refuse rfl rfl rfl (by decide +kernel) ⟨by decide, by decide⟩) (gC0 c3 ad w) rfl rfl rfl hl.1 rfl (Nat.le_of_ble_eq_true rfl) dX7_refusalOfRow_24) (fun H locs hP hS => ?_)
      obtain ⟨rfl, rfl⟩ := Prod.mk.inj (Option.some.inj h)
      exact hret _ _ _ _ hP hS dX7_refusalOfRow_27
    · replace h := it_n c_8 h
      refine lv_iconst (v := 0) hx hb dX7_refusalOfRow_18 (by decide) ?_
      refine lv_goto (tgt := 27) hx hb dX7_refusalOfRow_19 (by decide) ?_
      obtain ⟨rfl, rfl⟩ := Prod.mk.inj (Option.some.inj h)
      exact hret _ _ _ _ hP hS dX7_refusalOfRow_27
  · replace h := it_p c_4 h
    refine lv_iconst (v := (-1)) hx hb dX7_refusalOfRow_8 (by decide) ?_
    obtain ⟨rfl, rfl⟩ := Prod.mk.inj (Option.some.inj h)
    exact hret _ _ _ _ hP hS dX7_refusalOfRow_9
def fX7_refusalOfRow_0_1 (x2 : Int32) (w : Mm) : Option (Int32 × Mm) := fX7_refusalOfRow_0_1_E x2 w
theorem ctX7_refusalOfRow_0_1 (l : Launch) (D : va_G) (c3 : C3) (ad : Nat → Nat) (w : Mm) (sz : Nat) (x2 : Int32) (r : Int32) (w' : Mm) (h : fX7_refusalOfRow_0_1 x2 w = some (r, w')) : Ci l yX7_refusalOfRow wsX7_refusalOfRow rmX7_refusalOfRow_0_1 D c3 (encC c3 ad) gC [.ref (ad 0), .ref (ad 1), .int x2] w sz r w' := by
  refine Ci.of (cc := cX7_refusalOfRow) (maxL := 3) (encC_ok c3 ad) (by decide) rfl (Nat.le_of_ble_eq_true rfl) ?_
  intro p e s m below meth c A Q ls X hret hP hS hl
  exact bX7_refusalOfRow_0_1_E X hret x2 w _ _ ls hP hS hl h
theorem iwX5_hasPlace_X5 : ∀ w ∈ wsX50, w ∈ wsX5_hasPlace := fun _ h => List.mem_cons_of_mem _ (List.mem_append_right _ h)
theorem lkX5_hasPlace_16 : Cond.fieldLink RX5 16 "StuckDoor$Rows" "sizes" "[I" ∈ wsX5_hasPlace := by decide +kernel
def rmX5_hasPlace_1 : Room := { frames := 2, cells := 0, slots := 0, locals := 42 }
def fX5_hasPlace_1_E (x1 : Int32) (x2 : Int32) (w : Mm) : Option (Int32) := bo (fX5_isThere_1 x1 w) (fun r_2 => (if r_2 = 0 then some 0 else (if x2 < 0 then some 0 else gd (inb x1 6 = true) ((if (w.1 3 x1.toNatClampNeg) ≤ x2 then some 0 else some 1)))))
set_option maxRecDepth 20000 in
theorem bX5_hasPlace_1_E {p : Program} {l : Launch} {e : Env} {s : State} {m : MethodId} {args : Array Value} {below : List Frame} {meth : Method} {c : Code} {Q : State → Prop} {D : va_G} {c3 : C3} {ad : Nat → Nat} {A : Nat → Prop} {r : Int32} {w : Mm} (X : Cx p s m args c cX5_hasPlace 3 RX5 wsX5_hasPlace D c3 (encC c3 ad) gC A) (hret : Rz p l e (rmX5_hasPlace_1) s m args below meth c Q cX5_hasPlace D (encC c3 ad) A r w) : ∀ (x1 : Int32) (x2 : Int32) (H : Heap) (locs : List Loc) (ls : Array Slot), va_P D vwCl ((encC c3 ad) w) H → va_S A s.heap H locs → lv_has ls 3 [(0, .ref (ad 1)), (1, .int x1), (2, .int x2)] → fX5_hasPlace_1_E x1 x2 w = some r → W p l e (rmX5_hasPlace_1) s m args below meth c H locs 0 0 Q (F0 m 0 ls []) := by
  have hx := X.1
  have hb := X.2.1
  have hml := X.2.2.1
  have hown := X.2.2.2.1
  have hts := X.2.2.2.2.1
  intro x1 x2 H locs ls hP hS hl h
  unfold fX5_hasPlace_1_E at h
  refine lv_aload_n hx hb dX5_hasPlace_0 rfl (lv_at hl 0 rfl) ?_
  refine lv_iload_n hx hb dX5_hasPlace_1 rfl (lv_at hl 1 rfl) ?_
  obtain ⟨r_2, e_1, h⟩ := bo_s h
  refine x_goi X hS (x_runV (As := [.int x1]) (rest := []) X gC_ok hP hS (ctX5_isThere_1 l D c3 ad w _ x1 _ e_1) (cwV 1 hts gX5_hasPlace_X5_isThere rfl rfl rfl (by decide +kernel) ⟨by decide, by decide⟩) (gC1 c3 ad w) rfl rfl rfl hl.1 rfl (Nat.le_of_ble_eq_true rfl) dX5_hasPlace_2) (fun H locs hP hS => ?_)
  refine lv_if_eq (tgt := 26) hx hb dX5_hasPlace_5 (by decide) (fun c_4 => ?_) (fun c_4 => ?_)
  · replace h := it_p c_4 h
    refine lv_iconst (v := 0) hx hb dX5_hasPlace_26 (by decide) ?_
    obtain rfl := Option.some.inj h
    exact hret (Or.inl rfl) _ _ _ _ hP hS dX5_hasPlace_27
  · replace h := it_n c_4 h
    refine lv_iload_n hx hb dX5_hasPlace_8 rfl (lv_at hl 2 rfl) ?_
    refine lv_if_lt (tgt := 26) hx hb dX5_hasPlace_9 (by decide) (fun c_5 => ?_) (fun c_5 => ?_)
    · replace h := it_p c_5 h
      refine lv_iconst (v := 0) hx hb dX5_hasPlace_26 (by decide) ?_
      obtain rfl := Option.some.inj h
      exact hret (Or.inl rfl) _ _ _ _ hP hS dX5_hasPlace_27
    · replace h := it_n c_5 h
      refine lv_iload_n hx hb dX5_hasPlace_12 rfl (lv_at hl 2 rfl) ?_
      refine lv_aload_n hx hb dX5_hasPlace_13 rfl (lv_at hl 0 rfl) ?_
      refine x_get (rest := [.int x2]) X hP (gC1 c3 ad w) rfl iwX5_hasPlace_X5 1 (by decide) lkX5_hasPlace_16 rfl dX5_hasPlace_14 ?_
      refine lv_iload_n hx hb dX5_hasPlace_17 rfl (lv_at hl 1 rfl) ?_
      obtain ⟨g_6, h⟩ := gd_s h
      refine x_iald X hP (gC3 c3 ad w) g_6 dX5_hasPlace_18 ?_
      refine lv_icmp_ge (tgt := 26) hx hb dX5_hasPlace_19 (by decide) (fun c_7 => ?_) (fun c_7 => ?_)
      · replace h := it_p c_7 h
        refine lv_iconst (v := 0) hx hb dX5_hasPlace_26 (by decide) ?_
        obtain rfl := Option.some.inj h
        exact hret (Or.inl rfl) _ _ _ _ hP hS dX5_hasPlace_27
      · replace h := it_n c_7 h
        refine lv_iconst (v := 1) hx hb dX5_hasPlace_22 (by decide) ?_
        refine lv_goto (tgt := 27) hx hb dX5_hasPlace_23 (by decide) ?_
        obtain rfl := Option.some.inj h
        exact hret (Or.inr rfl) _ _ _ _ hP hS dX5_hasPlace_27
def fX5_hasPlace_1 (x1 : Int32) (x2 : Int32) (w : Mm) : Option (Int32) := fX5_hasPlace_1_E x1 x2 w
theorem ctX5_hasPlace_1 (l : Launch) (D : va_G) (c3 : C3) (ad : Nat → Nat) (w : Mm) (sz : Nat) (x1 : Int32) (x2 : Int32) (r : Int32) (h : fX5_hasPlace_1 x1 x2 w = some r) : Ci l yX5_hasPlace wsX5_hasPlace rmX5_hasPlace_1 D c3 (encC c3 ad) gC [.ref (ad 1), .int x1, .int x2] w sz r w := by
  refine Ci.ofz (cc := cX5_hasPlace) (maxL := 3) (encC_ok c3 ad) (by decide) rfl (Nat.le_of_ble_eq_true rfl) ?_
  intro p e s m below meth c A Q ls X hret hP hS hl
  exact bX5_hasPlace_1_E X hret x1 x2 _ _ ls hP hS hl h
def rmX7_refusalOfPlace_0_1 : Room := { frames := 3, cells := 0, slots := 0, locals := 64 }
def fX7_refusalOfPlace_0_1_E (x2 : Int32) (x3 : Int32) (w : Mm) : Option (Int32 × Mm) := bd (fX7_refusalOfRow_0_1 x2 w) (fun r_2 w_3 => (if r_2 = 0 then bo (fX5_hasPlace_1 x2 x3 w_3) (fun r_6 => (if r_6 = 0 then bd (fX7_refuse 2 w_3) (fun r_10 w_11 => some (r_10, w_11)) else some (0, w_3))) else some (r_2, w_3)))
set_option maxRecDepth 20000 in
theorem bX7_refusalOfPlace_0_1_E {p : Program} {l : Launch} {e : Env} {s : State} {m : MethodId} {args : Array Value} {below : List Frame} {meth : Method} {c : Code} {Q : State → Prop} {D : va_G} {c3 : C3} {ad : Nat → Nat} {A : Nat → Prop} {r : Int32} {w' : Mm} (X : Cx p s m args c cX7_refusalOfPlace 5 RX7 wsX7_refusalOfPlace D c3 (encC c3 ad) gC A) (hret : Ri p l e (rmX7_refusalOfPlace_0_1) s m args below meth c Q cX7_refusalOfPlace D (encC c3 ad) A r w') : ∀ (x2 : Int32) (x3 : Int32) (w : Mm) (H : Heap) (locs : List Loc) (ls : Array Slot), va_P D vwCl ((encC c3 ad) w) H → va_S A s.heap H locs → lv_has ls 5 [(0, .ref (ad 0)), (1, .ref (ad 1)), (2, .int x2), (3, .int x3)] → fX7_refusalOfPlace_0_1_E x2 x3 w = some (r, w') → W p l e (rmX7_refusalOfPlace_0_1) s m args below meth c H locs 0 0 Q (F0 m 0 ls []) := by
  have hx := X.1
  have hb := X.2.1
  have hml := X.2.2.1
  have hown := X.2.2.2.1
  have hts := X.2.2.2.2.1
  intro x2 x3 w H locs ls hP hS hl h
  unfold fX7_refusalOfPlace_0_1_E at h
  refine lv_aload_n hx hb dX7_refusalOfPlace_0 rfl (lv_at hl 0 rfl) ?_
  refine lv_aload_n hx hb dX7_refusalOfPlace_1 rfl (lv_at hl 1 rfl) ?_
  refine lv_iload_n hx hb dX7_refusalOfPlace_2 rfl (lv_at hl 2 rfl) ?_
  obtain ⟨r_2, w_3, e_1, h⟩ := bd_s h
  refine x_goi X hS (x_runV (As := [.ref (ad 1), .int x2]) (rest := []) X gC_ok hP hS (ctX7_refusalOfRow_0_1 l D c3 ad w _ x2 _ _ e_1) (cwV 2 hts gX7_refusalOfPlace_X7_refusalOfRow rfl rfl rfl (by decide +kernel) ⟨by decide, by decide⟩) (gC0 c3 ad w) rfl rfl rfl hl.1 rfl (Nat.le_of_ble_eq_true rfl) dX7_refusalOfPlace_3) (fun H locs hP hS => ?_)
  refine lv_istore (lv' := [(4, .int r_2), (0, .ref (ad 0)), (1, .ref (ad 1)), (2, .int x2), (3, .int x3)]) hx hb dX7_refusalOfPlace_6 hl (by decide) rfl (fun ls hl => ?_)
  refine lv_iload hx hb dX7_refusalOfPlace_8 (lv_at hl 0 rfl) ?_
  refine lv_if_eq (tgt := 16) hx hb dX7_refusalOfPlace_10 (by decide) (fun c_4 => ?_) (fun c_4 => ?_)
  · replace h := it_p c_4 h
    refine lv_aload_n hx hb dX7_refusalOfPlace_16 rfl (lv_at hl 2 rfl) ?_
    refine lv_iload_n hx hb dX7_refusalOfPlace_17 rfl (lv_at hl 3 rfl) ?_
    refine lv_iload_n hx hb dX7_refusalOfPlace_18 rfl (lv_at hl 4 rfl) ?_
    obtain ⟨r_6, e_5, h⟩ := bo_s h
    refine x_goi X hS (x_runV (As := [.int x2, .int x3]) (rest := []) X gC_ok hP hS (ctX5_hasPlace_1 l D c3 ad w_3 _ x2 x3 _ e_5) (cwV 2 hts gX7_refusalOfPlace_X5_hasPlace rfl rfl rfl (by decide +kernel) ⟨by decide, by decide⟩) (gC1 c3 ad w_3) rfl rfl rfl hl.1 rfl (Nat.le_of_ble_eq_true rfl) dX7_refusalOfPlace_19) (fun H locs hP hS => ?_)
    refine lv_if_eq (tgt := 29) hx hb dX7_refusalOfPlace_22 (by decide) (fun c_8 => ?_) (fun c_8 => ?_)
    · replace h := it_p c_8 h
      refine lv_aload_n hx hb dX7_refusalOfPlace_29 rfl (lv_at hl 1 rfl) ?_
      refine lv_iconst (v := 2) hx hb dX7_refusalOfPlace_30 (by decide) ?_
      obtain ⟨r_10, w_11, e_9, h⟩ := bd_s h
      refine x_goi X hS (x_runV (As := [.int 2]) (rest := []) X gC_ok hP hS (ctX7_refuse l D c3 ad w_3 _ 2 _ _ e_9) (cwV 1 hts gX7_refusalOfPlace_X7_refuse rfl rfl rfl (by decide +kernel) ⟨by decide, by decide⟩) (gC0 c3 ad w_3) rfl rfl rfl hl.1 rfl (Nat.le_of_ble_eq_true rfl) dX7_refusalOfPlace_31) (fun H locs hP hS => ?_)
      obtain ⟨rfl, rfl⟩ := Prod.mk.inj (Option.some.inj h)
      exact hret _ _ _ _ hP hS dX7_refusalOfPlace_34
    · replace h := it_n c_8 h
      refine lv_iconst (v := 0) hx hb dX7_refusalOfPlace_25 (by decide) ?_
      refine lv_goto (tgt := 34) hx hb dX7_refusalOfPlace_26 (by decide) ?_
      obtain ⟨rfl, rfl⟩ := Prod.mk.inj (Option.some.inj h)
      exact hret _ _ _ _ hP hS dX7_refusalOfPlace_34
  · replace h := it_n c_4 h
    refine lv_iload hx hb dX7_refusalOfPlace_13 (lv_at hl 0 rfl) ?_
    obtain ⟨rfl, rfl⟩ := Prod.mk.inj (Option.some.inj h)
    exact hret _ _ _ _ hP hS dX7_refusalOfPlace_15
def fX7_refusalOfPlace_0_1 (x2 : Int32) (x3 : Int32) (w : Mm) : Option (Int32 × Mm) := fX7_refusalOfPlace_0_1_E x2 x3 w
theorem ctX7_refusalOfPlace_0_1 (l : Launch) (D : va_G) (c3 : C3) (ad : Nat → Nat) (w : Mm) (sz : Nat) (x2 : Int32) (x3 : Int32) (r : Int32) (w' : Mm) (h : fX7_refusalOfPlace_0_1 x2 x3 w = some (r, w')) : Ci l yX7_refusalOfPlace wsX7_refusalOfPlace rmX7_refusalOfPlace_0_1 D c3 (encC c3 ad) gC [.ref (ad 0), .ref (ad 1), .int x2, .int x3] w sz r w' := by
  refine Ci.of (cc := cX7_refusalOfPlace) (maxL := 5) (encC_ok c3 ad) (by decide) rfl (Nat.le_of_ble_eq_true rfl) ?_
  intro p e s m below meth c A Q ls X hret hP hS hl
  exact bX7_refusalOfPlace_0_1_E X hret x2 x3 w _ _ ls hP hS hl h
theorem iwX7_lay_X5 : ∀ w ∈ wsX50, w ∈ wsX7_lay := fun _ h => List.mem_cons_of_mem _ (List.mem_append_right _ h)
theorem iwX7_lay_X7 : ∀ w ∈ wsX70, w ∈ wsX7_lay := fun _ h => List.mem_cons_of_mem _ (List.mem_append_left _ (List.mem_append_right _ h))
theorem lkX7_lay_14 : Cond.fieldLink RX7 14 "StuckDoor" "ints" "LStuckDoor$Rows;" ∈ wsX7_lay := by decide +kernel
theorem lkX7_lay_60 : Cond.fieldLink RX7 60 "StuckDoor" "askedLast" "I" ∈ wsX7_lay := by decide +kernel
theorem lkX7_lay_86 : Cond.fieldLink RX7 86 "StuckDoor$Rows" "places" "[[I" ∈ wsX7_lay := by decide +kernel
def rmX7_lay : Room := { frames := 4, cells := 0, slots := 0, locals := 88 }
def fX7_lay_E (x1 : Int32) (x2 : Int32) (x3 : Int32) (w : Mm) : Option (Int32 × Mm) := bd (fX7_refusalOfPlace_0_1 x1 x2 w) (fun r_2 w_3 => (if r_2 = 0 then gd (inb x1 6 = true) (gd (inb x2 40 = true) (nm (sA w_3 0 9 (w_3.1 (4 + x1.toNatClampNeg) x2.toNatClampNeg)) (fun w_8 => nm (sA w_8 (4 + x1.toNatClampNeg) x2.toNatClampNeg x3) (fun w_10 => some (1, w_10))))) else some (r_2, w_3)))
set_option maxRecDepth 20000 in
theorem bX7_lay_E {p : Program} {l : Launch} {e : Env} {s : State} {m : MethodId} {args : Array Value} {below : List Frame} {meth : Method} {c : Code} {Q : State → Prop} {D : va_G} {c3 : C3} {ad : Nat → Nat} {A : Nat → Prop} {r : Int32} {w' : Mm} (X : Cx p s m args c cX7_lay 5 RX7 wsX7_lay D c3 (encC c3 ad) gC A) (hret : Ri p l e (rmX7_lay) s m args below meth c Q cX7_lay D (encC c3 ad) A r w') : ∀ (x1 : Int32) (x2 : Int32) (x3 : Int32) (w : Mm) (H : Heap) (locs : List Loc) (ls : Array Slot), va_P D vwCl ((encC c3 ad) w) H → va_S A s.heap H locs → lv_has ls 5 [(0, .ref (ad 0)), (1, .int x1), (2, .int x2), (3, .int x3)] → fX7_lay_E x1 x2 x3 w = some (r, w') → W p l e (rmX7_lay) s m args below meth c H locs 0 0 Q (F0 m 0 ls []) := by
  have hx := X.1
  have hb := X.2.1
  have hml := X.2.2.1
  have hown := X.2.2.2.1
  have hts := X.2.2.2.2.1
  intro x1 x2 x3 w H locs ls hP hS hl h
  unfold fX7_lay_E at h
  refine lv_aload_n hx hb dX7_lay_0 rfl (lv_at hl 0 rfl) ?_
  refine lv_aload_n hx hb dX7_lay_1 rfl (lv_at hl 0 rfl) ?_
  refine x_get (rest := [.ref (ad 0)]) X hP (gC0 c3 ad w) rfl iwX7_lay_X7 0 (by decide) lkX7_lay_14 rfl dX7_lay_2 ?_
  refine lv_iload_n hx hb dX7_lay_5 rfl (lv_at hl 1 rfl) ?_
  refine lv_iload_n hx hb dX7_lay_6 rfl (lv_at hl 2 rfl) ?_
  obtain ⟨r_2, w_3, e_1, h⟩ := bd_s h
  refine x_goi X hS (x_runV (As := [.ref (ad 1), .int x1, .int x2]) (rest := []) X gC_ok hP hS (ctX7_refusalOfPlace_0_1 l D c3 ad w _ x1 x2 _ _ e_1) (cwV 3 hts gX7_lay_X7_refusalOfPlace rfl rfl rfl (by decide +kernel) ⟨by decide, by decide⟩) (gC0 c3 ad w) rfl rfl rfl hl.1 rfl (Nat.le_of_ble_eq_true rfl) dX7_lay_7) (fun H locs hP hS => ?_)
  refine lv_istore (lv' := [(4, .int r_2), (0, .ref (ad 0)), (1, .int x1), (2, .int x2), (3, .int x3)]) hx hb dX7_lay_10 hl (by decide) rfl (fun ls hl => ?_)
  refine lv_iload hx hb dX7_lay_12 (lv_at hl 0 rfl) ?_
  refine lv_if_eq (tgt := 20) hx hb dX7_lay_14 (by decide) (fun c_4 => ?_) (fun c_4 => ?_)
  · replace h := it_p c_4 h
    refine lv_aload_n hx hb dX7_lay_20 rfl (lv_at hl 1 rfl) ?_
    refine lv_aload_n hx hb dX7_lay_21 rfl (lv_at hl 1 rfl) ?_
    refine x_get (rest := [.ref (ad 0)]) X hP (gC0 c3 ad w_3) rfl iwX7_lay_X7 0 (by decide) lkX7_lay_14 rfl dX7_lay_22 ?_
    refine x_get (rest := [.ref (ad 0)]) X hP (gC1 c3 ad w_3) rfl iwX7_lay_X5 0 (by decide) lkX7_lay_86 rfl dX7_lay_25 ?_
    refine lv_iload_n hx hb dX7_lay_28 rfl (lv_at hl 2 rfl) ?_
    obtain ⟨g_5, h⟩ := gd_s h
    have q_6 := rgn 4 g_5
    refine x_aald (z := ad (4 + x1.toNatClampNeg)) X hP (gC2 c3 ad w_3) g_5 rfl dX7_lay_29 ?_
    refine lv_iload_n hx hb dX7_lay_30 rfl (lv_at hl 3 rfl) ?_
    obtain ⟨g_7, h⟩ := gd_s h
    refine x_iald X hP (gCrI c3 ad w_3 q_6) g_7 dX7_lay_31 ?_
    refine x_put (v := .int (w_3.1 (4 + x1.toNatClampNeg) x2.toNatClampNeg)) X hP hS (gC0 c3 ad w_3) rfl iwX7_lay_X7 tyX7 tyX7_ok nmX7 9 (by decide) lkX7_lay_60 rfl rfl rfl (Nat.le_of_ble_eq_true rfl) (pC0_9 c3 ad w_3 (w_3.1 (4 + x1.toNatClampNeg) x2.toNatClampNeg)) dX7_lay_32 (fun H locs hP hS => ?_)
    refine x_nmw h hP (fun w_8 h hP => ?_)
    refine lv_aload_n hx hb dX7_lay_35 rfl (lv_at hl 1 rfl) ?_
    refine x_get (rest := []) X hP (gC0 c3 ad w_8) rfl iwX7_lay_X7 0 (by decide) lkX7_lay_14 rfl dX7_lay_36 ?_
    refine x_get (rest := []) X hP (gC1 c3 ad w_8) rfl iwX7_lay_X5 0 (by decide) lkX7_lay_86 rfl dX7_lay_39 ?_
    refine lv_iload_n hx hb dX7_lay_42 rfl (lv_at hl 2 rfl) ?_
    have q_9 := rgn 4 g_5
    refine x_aald (z := ad (4 + x1.toNatClampNeg)) X hP (gC2 c3 ad w_8) g_5 rfl dX7_lay_43 ?_
    refine lv_iload_n hx hb dX7_lay_44 rfl (lv_at hl 3 rfl) ?_
    refine lv_iload_n hx hb dX7_lay_45 rfl (lv_at hl 4 rfl) ?_
    refine x_iast X hP hS (gCrI c3 ad w_8 q_9) (sCrI c3 ad w_8 q_9 _ _) g_7 dX7_lay_46 (fun H locs hP hS => ?_)
    refine x_nmw h hP (fun w_10 h hP => ?_)
    refine lv_iconst (v := 1) hx hb dX7_lay_47 (by decide) ?_
    obtain ⟨rfl, rfl⟩ := Prod.mk.inj (Option.some.inj h)
    exact hret _ _ _ _ hP hS dX7_lay_48
  · replace h := it_n c_4 h
    refine lv_iload hx hb dX7_lay_17 (lv_at hl 0 rfl) ?_
    obtain ⟨rfl, rfl⟩ := Prod.mk.inj (Option.some.inj h)
    exact hret _ _ _ _ hP hS dX7_lay_19
def fX7_lay (x1 : Int32) (x2 : Int32) (x3 : Int32) (w : Mm) : Option (Int32 × Mm) := fX7_lay_E x1 x2 x3 w
theorem ctX7_lay (l : Launch) (D : va_G) (c3 : C3) (ad : Nat → Nat) (w : Mm) (sz : Nat) (x1 : Int32) (x2 : Int32) (x3 : Int32) (r : Int32) (w' : Mm) (h : fX7_lay x1 x2 x3 w = some (r, w')) : Ci l yX7_lay wsX7_lay rmX7_lay D c3 (encC c3 ad) gC [.ref (ad 0), .int x1, .int x2, .int x3] w sz r w' := by
  refine Ci.of (cc := cX7_lay) (maxL := 5) (encC_ok c3 ad) (by decide) rfl (Nat.le_of_ble_eq_true rfl) ?_
  intro p e s m below meth c A Q ls X hret hP hS hl
  exact bX7_lay_E X hret x1 x2 x3 w _ _ ls hP hS hl h
theorem iwX7_at_X5 : ∀ w ∈ wsX50, w ∈ wsX7_at := fun _ h => List.mem_cons_of_mem _ (List.mem_append_right _ h)
theorem iwX7_at_X7 : ∀ w ∈ wsX70, w ∈ wsX7_at := fun _ h => List.mem_cons_of_mem _ (List.mem_append_left _ (List.mem_append_right _ h))
theorem lkX7_at_14 : Cond.fieldLink RX7 14 "StuckDoor" "ints" "LStuckDoor$Rows;" ∈ wsX7_at := by decide +kernel
theorem lkX7_at_60 : Cond.fieldLink RX7 60 "StuckDoor" "askedLast" "I" ∈ wsX7_at := by decide +kernel
theorem lkX7_at_86 : Cond.fieldLink RX7 86 "StuckDoor$Rows" "places" "[[I" ∈ wsX7_at := by decide +kernel
def rmX7_at : Room := { frames := 4, cells := 0, slots := 0, locals := 88 }
def fX7_at_E (x1 : Int32) (x2 : Int32) (w : Mm) : Option (Int32 × Mm) := bd (fX7_refusalOfPlace_0_1 x1 x2 w) (fun r_2 w_3 => (if r_2 = 0 then gd (inb x1 6 = true) (gd (inb x2 40 = true) (nm (sA w_3 0 9 (w_3.1 (4 + x1.toNatClampNeg) x2.toNatClampNeg)) (fun w_8 => some (1, w_8)))) else some (r_2, w_3)))
set_option maxRecDepth 20000 in
theorem bX7_at_E {p : Program} {l : Launch} {e : Env} {s : State} {m : MethodId} {args : Array Value} {below : List Frame} {meth : Method} {c : Code} {Q : State → Prop} {D : va_G} {c3 : C3} {ad : Nat → Nat} {A : Nat → Prop} {r : Int32} {w' : Mm} (X : Cx p s m args c cX7_at 4 RX7 wsX7_at D c3 (encC c3 ad) gC A) (hret : Ri p l e (rmX7_at) s m args below meth c Q cX7_at D (encC c3 ad) A r w') : ∀ (x1 : Int32) (x2 : Int32) (w : Mm) (H : Heap) (locs : List Loc) (ls : Array Slot), va_P D vwCl ((encC c3 ad) w) H → va_S A s.heap H locs → lv_has ls 4 [(0, .ref (ad 0)), (1, .int x1), (2, .int x2)] → fX7_at_E x1 x2 w = some (r, w') → W p l e (rmX7_at) s m args below meth c H locs 0 0 Q (F0 m 0 ls []) := by
  have hx := X.1
  have hb := X.2.1
  have hml := X.2.2.1
  have hown := X.2.2.2.1
  have hts := X.2.2.2.2.1
  intro x1 x2 w H locs ls hP hS hl h
  unfold fX7_at_E at h
  refine lv_aload_n hx hb dX7_at_0 rfl (lv_at hl 0 rfl) ?_
  refine lv_aload_n hx hb dX7_at_1 rfl (lv_at hl 0 rfl) ?_
  refine x_get (rest := [.ref (ad 0)]) X hP (gC0 c3 ad w) rfl iwX7_at_X7 0 (by decide) lkX7_at_14 rfl dX7_at_2 ?_
  refine lv_iload_n hx hb dX7_at_5 rfl (lv_at hl 1 rfl) ?_
  refine lv_iload_n hx hb dX7_at_6 rfl (lv_at hl 2 rfl) ?_
  obtain ⟨r_2, w_3, e_1, h⟩ := bd_s h
  refine x_goi X hS (x_runV (As := [.ref (ad 1), .int x1, .int x2]) (rest := []) X gC_ok hP hS (ctX7_refusalOfPlace_0_1 l D c3 ad w _ x1 x2 _ _ e_1) (cwV 3 hts gX7_at_X7_refusalOfPlace rfl rfl rfl (by decide +kernel) ⟨by decide, by decide⟩) (gC0 c3 ad w) rfl rfl rfl hl.1 rfl (Nat.le_of_ble_eq_true rfl) dX7_at_7) (fun H locs hP hS => ?_)
  refine lv_istore_n (lv' := [(3, .int r_2), (0, .ref (ad 0)), (1, .int x1), (2, .int x2)]) hx hb dX7_at_10 rfl hl (by decide) rfl (fun ls hl => ?_)
  refine lv_iload_n hx hb dX7_at_11 rfl (lv_at hl 0 rfl) ?_
  refine lv_if_eq (tgt := 17) hx hb dX7_at_12 (by decide) (fun c_4 => ?_) (fun c_4 => ?_)
  · replace h := it_p c_4 h
    refine lv_aload_n hx hb dX7_at_17 rfl (lv_at hl 1 rfl) ?_
    refine lv_aload_n hx hb dX7_at_18 rfl (lv_at hl 1 rfl) ?_
    refine x_get (rest := [.ref (ad 0)]) X hP (gC0 c3 ad w_3) rfl iwX7_at_X7 0 (by decide) lkX7_at_14 rfl dX7_at_19 ?_
    refine x_get (rest := [.ref (ad 0)]) X hP (gC1 c3 ad w_3) rfl iwX7_at_X5 0 (by decide) lkX7_at_86 rfl dX7_at_22 ?_
    refine lv_iload_n hx hb dX7_at_25 rfl (lv_at hl 2 rfl) ?_
    obtain ⟨g_5, h⟩ := gd_s h
    have q_6 := rgn 4 g_5
    refine x_aald (z := ad (4 + x1.toNatClampNeg)) X hP (gC2 c3 ad w_3) g_5 rfl dX7_at_26 ?_
    refine lv_iload_n hx hb dX7_at_27 rfl (lv_at hl 3 rfl) ?_
    obtain ⟨g_7, h⟩ := gd_s h
    refine x_iald X hP (gCrI c3 ad w_3 q_6) g_7 dX7_at_28 ?_
    refine x_put (v := .int (w_3.1 (4 + x1.toNatClampNeg) x2.toNatClampNeg)) X hP hS (gC0 c3 ad w_3) rfl iwX7_at_X7 tyX7 tyX7_ok nmX7 9 (by decide) lkX7_at_60 rfl rfl rfl (Nat.le_of_ble_eq_true rfl) (pC0_9 c3 ad w_3 (w_3.1 (4 + x1.toNatClampNeg) x2.toNatClampNeg)) dX7_at_29 (fun H locs hP hS => ?_)
    refine x_nmw h hP (fun w_8 h hP => ?_)
    refine lv_iconst (v := 1) hx hb dX7_at_32 (by decide) ?_
    obtain ⟨rfl, rfl⟩ := Prod.mk.inj (Option.some.inj h)
    exact hret _ _ _ _ hP hS dX7_at_33
  · replace h := it_n c_4 h
    refine lv_iload_n hx hb dX7_at_15 rfl (lv_at hl 0 rfl) ?_
    obtain ⟨rfl, rfl⟩ := Prod.mk.inj (Option.some.inj h)
    exact hret _ _ _ _ hP hS dX7_at_16
def fX7_at (x1 : Int32) (x2 : Int32) (w : Mm) : Option (Int32 × Mm) := fX7_at_E x1 x2 w
theorem ctX7_at (l : Launch) (D : va_G) (c3 : C3) (ad : Nat → Nat) (w : Mm) (sz : Nat) (x1 : Int32) (x2 : Int32) (r : Int32) (w' : Mm) (h : fX7_at x1 x2 w = some (r, w')) : Ci l yX7_at wsX7_at rmX7_at D c3 (encC c3 ad) gC [.ref (ad 0), .int x1, .int x2] w sz r w' := by
  refine Ci.of (cc := cX7_at) (maxL := 4) (encC_ok c3 ad) (by decide) rfl (Nat.le_of_ble_eq_true rfl) ?_
  intro p e s m below meth c A Q ls X hret hP hS hl
  exact bX7_at_E X hret x1 x2 w _ _ ls hP hS hl h
theorem iwX7_tear_X5 : ∀ w ∈ wsX50, w ∈ wsX7_tear := fun _ h => List.mem_cons_of_mem _ (List.mem_append_right _ h)
theorem iwX7_tear_X7 : ∀ w ∈ wsX70, w ∈ wsX7_tear := fun _ h => List.mem_cons_of_mem _ (List.mem_append_left _ (List.mem_append_right _ h))
theorem lkX7_tear_14 : Cond.fieldLink RX7 14 "StuckDoor" "ints" "LStuckDoor$Rows;" ∈ wsX7_tear := by decide +kernel
theorem lkX7_tear_94 : Cond.fieldLink RX7 94 "StuckDoor$Rows" "sizes" "[I" ∈ wsX7_tear := by decide +kernel
def rmX7_tear : Room := { frames := 3, cells := 0, slots := 0, locals := 64 }
def fX7_tear_E (x1 : Int32) (w : Mm) : Option (Int32 × Mm) := bd (fX7_refusalOfRow_0_1 x1 w) (fun r_2 w_3 => (if r_2 = 0 then gd (inb x1 6 = true) (nm (sA w_3 3 x1.toNatClampNeg (-1)) (fun w_6 => some (1, w_6))) else some (r_2, w_3)))
set_option maxRecDepth 20000 in
theorem bX7_tear_E {p : Program} {l : Launch} {e : Env} {s : State} {m : MethodId} {args : Array Value} {below : List Frame} {meth : Method} {c : Code} {Q : State → Prop} {D : va_G} {c3 : C3} {ad : Nat → Nat} {A : Nat → Prop} {r : Int32} {w' : Mm} (X : Cx p s m args c cX7_tear 3 RX7 wsX7_tear D c3 (encC c3 ad) gC A) (hret : Ri p l e (rmX7_tear) s m args below meth c Q cX7_tear D (encC c3 ad) A r w') : ∀ (x1 : Int32) (w : Mm) (H : Heap) (locs : List Loc) (ls : Array Slot), va_P D vwCl ((encC c3 ad) w) H → va_S A s.heap H locs → lv_has ls 3 [(0, .ref (ad 0)), (1, .int x1)] → fX7_tear_E x1 w = some (r, w') → W p l e (rmX7_tear) s m args below meth c H locs 0 0 Q (F0 m 0 ls []) := by
  have hx := X.1
  have hb := X.2.1
  have hml := X.2.2.1
  have hown := X.2.2.2.1
  have hts := X.2.2.2.2.1
  intro x1 w H locs ls hP hS hl h
  unfold fX7_tear_E at h
  refine lv_aload_n hx hb dX7_tear_0 rfl (lv_at hl 0 rfl) ?_
  refine lv_aload_n hx hb dX7_tear_1 rfl (lv_at hl 0 rfl) ?_
  refine x_get (rest := [.ref (ad 0)]) X hP (gC0 c3 ad w) rfl iwX7_tear_X7 0 (by decide) lkX7_tear_14 rfl dX7_tear_2 ?_
  refine lv_iload_n hx hb dX7_tear_5 rfl (lv_at hl 1 rfl) ?_
  obtain ⟨r_2, w_3, e_1, h⟩ := bd_s h
  refine x_goi X hS (x_runV (As := [.ref (ad 1), .int x1]) (rest := []) X gC_ok hP hS (ctX7_refusalOfRow_0_1 l D c3 ad w _ x1 _ _ e_1) (cwV 2 hts gX7_tear_X7_refusalOfRow rfl rfl rfl (by decide +kernel) ⟨by decide, by decide⟩) (gC0 c3 ad w) rfl rfl rfl hl.1 rfl (Nat.le_of_ble_eq_true rfl) dX7_tear_6) (fun H locs hP hS => ?_)
  refine lv_istore_n (lv' := [(2, .int r_2), (0, .ref (ad 0)), (1, .int x1)]) hx hb dX7_tear_9 rfl hl (by decide) rfl (fun ls hl => ?_)
  refine lv_iload_n hx hb dX7_tear_10 rfl (lv_at hl 0 rfl) ?_
  refine lv_if_eq (tgt := 16) hx hb dX7_tear_11 (by decide) (fun c_4 => ?_) (fun c_4 => ?_)
  · replace h := it_p c_4 h
    refine lv_aload_n hx hb dX7_tear_16 rfl (lv_at hl 1 rfl) ?_
    refine x_get (rest := []) X hP (gC0 c3 ad w_3) rfl iwX7_tear_X7 0 (by decide) lkX7_tear_14 rfl dX7_tear_17 ?_
    refine x_get (rest := []) X hP (gC1 c3 ad w_3) rfl iwX7_tear_X5 1 (by decide) lkX7_tear_94 rfl dX7_tear_20 ?_
    refine lv_iload_n hx hb dX7_tear_23 rfl (lv_at hl 2 rfl) ?_
    refine lv_iconst (v := (-1)) hx hb dX7_tear_24 (by decide) ?_
    obtain ⟨g_5, h⟩ := gd_s h
    refine x_iast X hP hS (gC3 c3 ad w_3) (sC3 c3 ad w_3 _ _) g_5 dX7_tear_25 (fun H locs hP hS => ?_)
    refine x_nmw h hP (fun w_6 h hP => ?_)
    refine lv_iconst (v := 1) hx hb dX7_tear_26 (by decide) ?_
    obtain ⟨rfl, rfl⟩ := Prod.mk.inj (Option.some.inj h)
    exact hret _ _ _ _ hP hS dX7_tear_27
  · replace h := it_n c_4 h
    refine lv_iload_n hx hb dX7_tear_14 rfl (lv_at hl 0 rfl) ?_
    obtain ⟨rfl, rfl⟩ := Prod.mk.inj (Option.some.inj h)
    exact hret _ _ _ _ hP hS dX7_tear_15
def fX7_tear (x1 : Int32) (w : Mm) : Option (Int32 × Mm) := fX7_tear_E x1 w
theorem ctX7_tear (l : Launch) (D : va_G) (c3 : C3) (ad : Nat → Nat) (w : Mm) (sz : Nat) (x1 : Int32) (r : Int32) (w' : Mm) (h : fX7_tear x1 w = some (r, w')) : Ci l yX7_tear wsX7_tear rmX7_tear D c3 (encC c3 ad) gC [.ref (ad 0), .int x1] w sz r w' := by
  refine Ci.of (cc := cX7_tear) (maxL := 3) (encC_ok c3 ad) (by decide) rfl (Nat.le_of_ble_eq_true rfl) ?_
  intro p e s m below meth c A Q ls X hret hP hS hl
  exact bX7_tear_E X hret x1 w _ _ ls hP hS hl h
theorem iwX5_hasPlaces_X5 : ∀ w ∈ wsX50, w ∈ wsX5_hasPlaces := fun _ h => List.mem_cons_of_mem _ (List.mem_append_right _ h)
theorem lkX5_hasPlaces_16 : Cond.fieldLink RX5 16 "StuckDoor$Rows" "sizes" "[I" ∈ wsX5_hasPlaces := by decide +kernel
def rmX5_hasPlaces_1 : Room := { frames := 2, cells := 0, slots := 0, locals := 42 }
def fX5_hasPlaces_1_E (x1 : Int32) (x2 : Int32) (x3 : Int32) (w : Mm) : Option (Int32) := bo (fX5_isThere_1 x1 w) (fun r_2 => (if r_2 = 0 then some 0 else (if x2 < 0 then some 0 else gd (inb x1 6 = true) ((if (w.1 3 x1.toNatClampNeg) < x2 then some 0 else (if x3 < 0 then some 0 else (if ((w.1 3 x1.toNatClampNeg) - x2) < x3 then some 0 else some 1)))))))
set_option maxRecDepth 20000 in
theorem bX5_hasPlaces_1_E {p : Program} {l : Launch} {e : Env} {s : State} {m : MethodId} {args : Array Value} {below : List Frame} {meth : Method} {c : Code} {Q : State → Prop} {D : va_G} {c3 : C3} {ad : Nat → Nat} {A : Nat → Prop} {r : Int32} {w : Mm} (X : Cx p s m args c cX5_hasPlaces 4 RX5 wsX5_hasPlaces D c3 (encC c3 ad) gC A) (hret : Rz p l e (rmX5_hasPlaces_1) s m args below meth c Q cX5_hasPlaces D (encC c3 ad) A r w) : ∀ (x1 : Int32) (x2 : Int32) (x3 : Int32) (H : Heap) (locs : List Loc) (ls : Array Slot), va_P D vwCl ((encC c3 ad) w) H → va_S A s.heap H locs → lv_has ls 4 [(0, .ref (ad 1)), (1, .int x1), (2, .int x2), (3, .int x3)] → fX5_hasPlaces_1_E x1 x2 x3 w = some r → W p l e (rmX5_hasPlaces_1) s m args below meth c H locs 0 0 Q (F0 m 0 ls []) := by
  have hx := X.1
  have hb := X.2.1
  have hml := X.2.2.1
  have hown := X.2.2.2.1
  have hts := X.2.2.2.2.1
  intro x1 x2 x3 H locs ls hP hS hl h
  unfold fX5_hasPlaces_1_E at h
  refine lv_aload_n hx hb dX5_hasPlaces_0 rfl (lv_at hl 0 rfl) ?_
  refine lv_iload_n hx hb dX5_hasPlaces_1 rfl (lv_at hl 1 rfl) ?_
  obtain ⟨r_2, e_1, h⟩ := bo_s h
  refine x_goi X hS (x_runV (As := [.int x1]) (rest := []) X gC_ok hP hS (ctX5_isThere_1 l D c3 ad w _ x1 _ e_1) (cwV 1 hts gX5_hasPlaces_X5_isThere rfl rfl rfl (by decide +kernel) ⟨by decide, by decide⟩) (gC1 c3 ad w) rfl rfl rfl hl.1 rfl (Nat.le_of_ble_eq_true rfl) dX5_hasPlaces_2) (fun H locs hP hS => ?_)
  refine lv_if_eq (tgt := 42) hx hb dX5_hasPlaces_5 (by decide) (fun c_4 => ?_) (fun c_4 => ?_)
  · replace h := it_p c_4 h
    refine lv_iconst (v := 0) hx hb dX5_hasPlaces_42 (by decide) ?_
    obtain rfl := Option.some.inj h
    exact hret (Or.inl rfl) _ _ _ _ hP hS dX5_hasPlaces_43
  · replace h := it_n c_4 h
    refine lv_iload_n hx hb dX5_hasPlaces_8 rfl (lv_at hl 2 rfl) ?_
    refine lv_if_lt (tgt := 42) hx hb dX5_hasPlaces_9 (by decide) (fun c_5 => ?_) (fun c_5 => ?_)
    · replace h := it_p c_5 h
      refine lv_iconst (v := 0) hx hb dX5_hasPlaces_42 (by decide) ?_
      obtain rfl := Option.some.inj h
      exact hret (Or.inl rfl) _ _ _ _ hP hS dX5_hasPlaces_43
    · replace h := it_n c_5 h
      refine lv_iload_n hx hb dX5_hasPlaces_12 rfl (lv_at hl 2 rfl) ?_
      refine lv_aload_n hx hb dX5_hasPlaces_13 rfl (lv_at hl 0 rfl) ?_
      refine x_get (rest := [.int x2]) X hP (gC1 c3 ad w) rfl iwX5_hasPlaces_X5 1 (by decide) lkX5_hasPlaces_16 rfl dX5_hasPlaces_14 ?_
      refine lv_iload_n hx hb dX5_hasPlaces_17 rfl (lv_at hl 1 rfl) ?_
      obtain ⟨g_6, h⟩ := gd_s h
      refine x_iald X hP (gC3 c3 ad w) g_6 dX5_hasPlaces_18 ?_
      refine lv_icmp_gt (tgt := 42) hx hb dX5_hasPlaces_19 (by decide) (fun c_7 => ?_) (fun c_7 => ?_)
      · replace h := it_p c_7 h
        refine lv_iconst (v := 0) hx hb dX5_hasPlaces_42 (by decide) ?_
        obtain rfl := Option.some.inj h
        exact hret (Or.inl rfl) _ _ _ _ hP hS dX5_hasPlaces_43
      · replace h := it_n c_7 h
        refine lv_iload_n hx hb dX5_hasPlaces_22 rfl (lv_at hl 3 rfl) ?_
        refine lv_if_lt (tgt := 42) hx hb dX5_hasPlaces_23 (by decide) (fun c_8 => ?_) (fun c_8 => ?_)
        · replace h := it_p c_8 h
          refine lv_iconst (v := 0) hx hb dX5_hasPlaces_42 (by decide) ?_
          obtain rfl := Option.some.inj h
          exact hret (Or.inl rfl) _ _ _ _ hP hS dX5_hasPlaces_43
        · replace h := it_n c_8 h
          refine lv_iload_n hx hb dX5_hasPlaces_26 rfl (lv_at hl 3 rfl) ?_
          refine lv_aload_n hx hb dX5_hasPlaces_27 rfl (lv_at hl 0 rfl) ?_
          refine x_get (rest := [.int x3]) X hP (gC1 c3 ad w) rfl iwX5_hasPlaces_X5 1 (by decide) lkX5_hasPlaces_16 rfl dX5_hasPlaces_28 ?_
          refine lv_iload_n hx hb dX5_hasPlaces_31 rfl (lv_at hl 1 rfl) ?_
          refine x_iald X hP (gC3 c3 ad w) g_6 dX5_hasPlaces_32 ?_
          refine lv_iload_n hx hb dX5_hasPlaces_33 rfl (lv_at hl 2 rfl) ?_
          refine lv_isub hx hb dX5_hasPlaces_34 ?_
          refine lv_icmp_gt (tgt := 42) hx hb dX5_hasPlaces_35 (by decide) (fun c_9 => ?_) (fun c_9 => ?_)
          · replace h := it_p c_9 h
            refine lv_iconst (v := 0) hx hb dX5_hasPlaces_42 (by decide) ?_
            obtain rfl := Option.some.inj h
            exact hret (Or.inl rfl) _ _ _ _ hP hS dX5_hasPlaces_43
          · replace h := it_n c_9 h
            refine lv_iconst (v := 1) hx hb dX5_hasPlaces_38 (by decide) ?_
            refine lv_goto (tgt := 43) hx hb dX5_hasPlaces_39 (by decide) ?_
            obtain rfl := Option.some.inj h
            exact hret (Or.inr rfl) _ _ _ _ hP hS dX5_hasPlaces_43
def fX5_hasPlaces_1 (x1 : Int32) (x2 : Int32) (x3 : Int32) (w : Mm) : Option (Int32) := fX5_hasPlaces_1_E x1 x2 x3 w
theorem ctX5_hasPlaces_1 (l : Launch) (D : va_G) (c3 : C3) (ad : Nat → Nat) (w : Mm) (sz : Nat) (x1 : Int32) (x2 : Int32) (x3 : Int32) (r : Int32) (h : fX5_hasPlaces_1 x1 x2 x3 w = some r) : Ci l yX5_hasPlaces wsX5_hasPlaces rmX5_hasPlaces_1 D c3 (encC c3 ad) gC [.ref (ad 1), .int x1, .int x2, .int x3] w sz r w := by
  refine Ci.ofz (cc := cX5_hasPlaces) (maxL := 4) (encC_ok c3 ad) (by decide) rfl (Nat.le_of_ble_eq_true rfl) ?_
  intro p e s m below meth c A Q ls X hret hP hS hl
  exact bX5_hasPlaces_1_E X hret x1 x2 x3 _ _ ls hP hS hl h
theorem iwX7_copy_X5 : ∀ w ∈ wsX50, w ∈ wsX7_copy := fun _ h => List.mem_cons_of_mem _ (List.mem_append_right _ h)
theorem iwX7_copy_X7 : ∀ w ∈ wsX70, w ∈ wsX7_copy := fun _ h => List.mem_cons_of_mem _ (List.mem_append_left _ (List.mem_append_right _ h))
theorem lkX7_copy_14 : Cond.fieldLink RX7 14 "StuckDoor" "ints" "LStuckDoor$Rows;" ∈ wsX7_copy := by decide +kernel
theorem lkX7_copy_86 : Cond.fieldLink RX7 86 "StuckDoor$Rows" "places" "[[I" ∈ wsX7_copy := by decide +kernel
def rmX7_copy : Room := { frames := 3, cells := 0, slots := 0, locals := 65 }
def fX7_copy_92 (w : Mm) : Option (Int32 × Mm) := bd (fX7_refuse 2 w) (fun r_2 w_3 => some (r_2, w_3))
set_option maxRecDepth 20000 in
theorem bX7_copy_92 {p : Program} {l : Launch} {e : Env} {s : State} {m : MethodId} {args : Array Value} {below : List Frame} {meth : Method} {c : Code} {Q : State → Prop} {D : va_G} {c3 : C3} {ad : Nat → Nat} {A : Nat → Prop} {r : Int32} {w' : Mm} (X : Cx p s m args c cX7_copy 6 RX7 wsX7_copy D c3 (encC c3 ad) gC A) (hret : Ri p l e (rmX7_copy) s m args below meth c Q cX7_copy D (encC c3 ad) A r w') : ∀ (w : Mm) (H : Heap) (locs : List Loc) (ls : Array Slot), va_P D vwCl ((encC c3 ad) w) H → va_S A s.heap H locs → lv_has ls 6 [(0, .ref (ad 0))] → fX7_copy_92 w = some (r, w') → W p l e (rmX7_copy) s m args below meth c H locs 0 0 Q (F0 m 92 ls []) := by
  have hx := X.1
  have hb := X.2.1
  have hml := X.2.2.1
  have hown := X.2.2.2.1
  have hts := X.2.2.2.2.1
  intro w H locs ls hP hS hl h
  unfold fX7_copy_92 at h
  refine lv_aload_n hx hb dX7_copy_92 rfl (lv_at hl 0 rfl) ?_
  refine lv_iconst (v := 2) hx hb dX7_copy_93 (by decide) ?_
  obtain ⟨r_2, w_3, e_1, h⟩ := bd_s h
  refine x_goi X hS (x_runV (As := [.int 2]) (rest := []) X gC_ok hP hS (ctX7_refuse l D c3 ad w _ 2 _ _ e_1) (cwV 1 hts gX7_copy_X7_refuse rfl rfl rfl (by decide +kernel) ⟨by decide, by decide⟩) (gC0 c3 ad w) rfl rfl rfl hl.1 rfl (Nat.le_of_ble_eq_true rfl) dX7_copy_94) (fun H locs hP hS => ?_)
  obtain ⟨rfl, rfl⟩ := Prod.mk.inj (Option.some.inj h)
  exact hret _ _ _ _ hP hS dX7_copy_97
def fX7_copy_57 (w : Mm) : Option (Int32 × Mm) := bd (fX7_refuse 1 w) (fun r_5 w_6 => some (r_5, w_6))
set_option maxRecDepth 20000 in
theorem bX7_copy_57 {p : Program} {l : Launch} {e : Env} {s : State} {m : MethodId} {args : Array Value} {below : List Frame} {meth : Method} {c : Code} {Q : State → Prop} {D : va_G} {c3 : C3} {ad : Nat → Nat} {A : Nat → Prop} {r : Int32} {w' : Mm} (X : Cx p s m args c cX7_copy 6 RX7 wsX7_copy D c3 (encC c3 ad) gC A) (hret : Ri p l e (rmX7_copy) s m args below meth c Q cX7_copy D (encC c3 ad) A r w') : ∀ (w : Mm) (H : Heap) (locs : List Loc) (ls : Array Slot), va_P D vwCl ((encC c3 ad) w) H → va_S A s.heap H locs → lv_has ls 6 [(0, .ref (ad 0))] → fX7_copy_57 w = some (r, w') → W p l e (rmX7_copy) s m args below meth c H locs 0 0 Q (F0 m 57 ls []) := by
  have hx := X.1
  have hb := X.2.1
  have hml := X.2.2.1
  have hown := X.2.2.2.1
  have hts := X.2.2.2.2.1
  intro w H locs ls hP hS hl h
  unfold fX7_copy_57 at h
  refine lv_aload_n hx hb dX7_copy_57 rfl (lv_at hl 0 rfl) ?_
  refine lv_iconst (v := 1) hx hb dX7_copy_58 (by decide) ?_
  obtain ⟨r_5, w_6, e_4, h⟩ := bd_s h
  refine x_goi X hS (x_runV (As := [.int 1]) (rest := []) X gC_ok hP hS (ctX7_refuse l D c3 ad w _ 1 _ _ e_4) (cwV 1 hts gX7_copy_X7_refuse rfl rfl rfl (by decide +kernel) ⟨by decide, by decide⟩) (gC0 c3 ad w) rfl rfl rfl hl.1 rfl (Nat.le_of_ble_eq_true rfl) dX7_copy_59) (fun H locs hP hS => ?_)
  obtain ⟨rfl, rfl⟩ := Prod.mk.inj (Option.some.inj h)
  exact hret _ _ _ _ hP hS dX7_copy_62
def fX7_copy_E (x1 : Int32) (x2 : Int32) (x3 : Int32) (x4 : Int32) (x5 : Int32) (w : Mm) : Option (Int32 × Mm) := bo (fX5_isNumber_1 x1 w) (fun r_8 => (if r_8 = 0 then some ((-1), w) else bo (fX5_isNumber_1 x3 w) (fun r_12 => (if r_12 = 0 then some ((-1), w) else (if 0 ≤ x5 then bo (fX5_isThere_1 x1 w) (fun r_17 => (if r_17 = 0 then fX7_copy_57 w else bo (fX5_isThere_1 x3 w) (fun r_21 => (if r_21 = 0 then fX7_copy_57 w else bo (fX5_hasPlaces_1 x1 x2 x5 w) (fun r_25 => (if r_25 = 0 then fX7_copy_92 w else bo (fX5_hasPlaces_1 x3 x4 x5 w) (fun r_29 => (if r_29 = 0 then fX7_copy_92 w else gd (inb x1 6 = true) (gd (inb x3 6 = true) (gd (¬ x2 < 0 ∧ ¬ x4 < 0 ∧ ¬ x5 < 0 ∧ x2.toNatClampNeg + x5.toNatClampNeg ≤ 40 ∧ x4.toNatClampNeg + x5.toNatClampNeg ≤ 40) (nm (sF w (4 + x3.toNatClampNeg) (va_cpy (w.1 (4 + x1.toNatClampNeg)) (w.1 (4 + x3.toNatClampNeg)) x2.toNatClampNeg x4.toNatClampNeg x5.toNatClampNeg)) (fun w_37 => some (1, w_37))))))))))))) else bd (fX7_refuse 5 w) (fun r_39 w_40 => some (r_39, w_40)))))))
set_option maxRecDepth 20000 in
theorem bX7_copy_E {p : Program} {l : Launch} {e : Env} {s : State} {m : MethodId} {args : Array Value} {below : List Frame} {meth : Method} {c : Code} {Q : State → Prop} {D : va_G} {c3 : C3} {ad : Nat → Nat} {A : Nat → Prop} {r : Int32} {w' : Mm} (X : Cx p s m args c cX7_copy 6 RX7 wsX7_copy D c3 (encC c3 ad) gC A) (hret : Ri p l e (rmX7_copy) s m args below meth c Q cX7_copy D (encC c3 ad) A r w') : ∀ (x1 : Int32) (x2 : Int32) (x3 : Int32) (x4 : Int32) (x5 : Int32) (w : Mm) (H : Heap) (locs : List Loc) (ls : Array Slot), va_P D vwCl ((encC c3 ad) w) H → va_S A s.heap H locs → lv_has ls 6 [(0, .ref (ad 0)), (1, .int x1), (2, .int x2), (3, .int x3), (4, .int x4), (5, .int x5)] → fX7_copy_E x1 x2 x3 x4 x5 w = some (r, w') → W p l e (rmX7_copy) s m args below meth c H locs 0 0 Q (F0 m 0 ls []) := by
  have hx := X.1
  have hb := X.2.1
  have hml := X.2.2.1
  have hown := X.2.2.2.1
  have hts := X.2.2.2.2.1
  intro x1 x2 x3 x4 x5 w H locs ls hP hS hl h
  unfold fX7_copy_E at h
  refine lv_aload_n hx hb dX7_copy_0 rfl (lv_at hl 0 rfl) ?_
  refine x_get (rest := []) X hP (gC0 c3 ad w) rfl iwX7_copy_X7 0 (by decide) lkX7_copy_14 rfl dX7_copy_1 ?_
  refine lv_iload_n hx hb dX7_copy_4 rfl (lv_at hl 1 rfl) ?_
  obtain ⟨r_8, e_7, h⟩ := bo_s h
  refine x_goi X hS (x_runV (As := [.int x1]) (rest := []) X gC_ok hP hS (ctX5_isNumber_1 l D c3 ad w _ x1 _ e_7) (cwV 1 hts gX7_copy_X5_isNumber rfl rfl rfl (by decide +kernel) ⟨by decide, by decide⟩) (gC1 c3 ad w) rfl rfl rfl hl.1 rfl (Nat.le_of_ble_eq_true rfl) dX7_copy_5) (fun H locs hP hS => ?_)
  refine lv_if_eq (tgt := 22) hx hb dX7_copy_8 (by decide) (fun c_10 => ?_) (fun c_10 => ?_)
  · replace h := it_p c_10 h
    refine lv_iconst (v := (-1)) hx hb dX7_copy_22 (by decide) ?_
    obtain ⟨rfl, rfl⟩ := Prod.mk.inj (Option.some.inj h)
    exact hret _ _ _ _ hP hS dX7_copy_23
  · replace h := it_n c_10 h
    refine lv_aload_n hx hb dX7_copy_11 rfl (lv_at hl 0 rfl) ?_
    refine x_get (rest := []) X hP (gC0 c3 ad w) rfl iwX7_copy_X7 0 (by decide) lkX7_copy_14 rfl dX7_copy_12 ?_
    refine lv_iload_n hx hb dX7_copy_15 rfl (lv_at hl 3 rfl) ?_
    obtain ⟨r_12, e_11, h⟩ := bo_s h
    refine x_goi X hS (x_runV (As := [.int x3]) (rest := []) X gC_ok hP hS (ctX5_isNumber_1 l D c3 ad w _ x3 _ e_11) (cwV 1 hts gX7_copy_X5_isNumber rfl rfl rfl (by decide +kernel) ⟨by decide, by decide⟩) (gC1 c3 ad w) rfl rfl rfl hl.1 rfl (Nat.le_of_ble_eq_true rfl) dX7_copy_16) (fun H locs hP hS => ?_)
    refine lv_if_ne (tgt := 24) hx hb dX7_copy_19 (by decide) (fun c_14 => ?_) (fun c_14 => ?_)
    · replace h := it_n c_14 h
      refine lv_iload hx hb dX7_copy_24 (lv_at hl 5 rfl) ?_
      refine lv_if_ge (tgt := 35) hx hb dX7_copy_26 (by decide) (fun c_15 => ?_) (fun c_15 => ?_)
      · replace h := it_p c_15 h
        refine lv_aload_n hx hb dX7_copy_35 rfl (lv_at hl 0 rfl) ?_
        refine x_get (rest := []) X hP (gC0 c3 ad w) rfl iwX7_copy_X7 0 (by decide) lkX7_copy_14 rfl dX7_copy_36 ?_
        refine lv_iload_n hx hb dX7_copy_39 rfl (lv_at hl 1 rfl) ?_
        obtain ⟨r_17, e_16, h⟩ := bo_s h
        refine x_goi X hS (x_runV (As := [.int x1]) (rest := []) X gC_ok hP hS (ctX5_isThere_1 l D c3 ad w _ x1 _ e_16) (cwV 1 hts gX7_copy_X5_isThere rfl rfl rfl (by decide +kernel) ⟨by decide, by decide⟩) (gC1 c3 ad w) rfl rfl rfl hl.1 rfl (Nat.le_of_ble_eq_true rfl) dX7_copy_40) (fun H locs hP hS => ?_)
        refine lv_if_eq (tgt := 57) hx hb dX7_copy_43 (by decide) (fun c_19 => ?_) (fun c_19 => ?_)
        · replace h := it_p c_19 h
          exact bX7_copy_57 X hret w _ _ _ hP hS (lv_sub hl [0] rfl) h
        · replace h := it_n c_19 h
          refine lv_aload_n hx hb dX7_copy_46 rfl (lv_at hl 0 rfl) ?_
          refine x_get (rest := []) X hP (gC0 c3 ad w) rfl iwX7_copy_X7 0 (by decide) lkX7_copy_14 rfl dX7_copy_47 ?_
          refine lv_iload_n hx hb dX7_copy_50 rfl (lv_at hl 3 rfl) ?_
          obtain ⟨r_21, e_20, h⟩ := bo_s h
          refine x_goi X hS (x_runV (As := [.int x3]) (rest := []) X gC_ok hP hS (ctX5_isThere_1 l D c3 ad w _ x3 _ e_20) (cwV 1 hts gX7_copy_X5_isThere rfl rfl rfl (by decide +kernel) ⟨by decide, by decide⟩) (gC1 c3 ad w) rfl rfl rfl hl.1 rfl (Nat.le_of_ble_eq_true rfl) dX7_copy_51) (fun H locs hP hS => ?_)
          refine lv_if_ne (tgt := 63) hx hb dX7_copy_54 (by decide) (fun c_23 => ?_) (fun c_23 => ?_)
          · replace h := it_n c_23 h
            refine lv_aload_n hx hb dX7_copy_63 rfl (lv_at hl 0 rfl) ?_
            refine x_get (rest := []) X hP (gC0 c3 ad w) rfl iwX7_copy_X7 0 (by decide) lkX7_copy_14 rfl dX7_copy_64 ?_
            refine lv_iload_n hx hb dX7_copy_67 rfl (lv_at hl 1 rfl) ?_
            refine lv_iload_n hx hb dX7_copy_68 rfl (lv_at hl 2 rfl) ?_
            refine lv_iload hx hb dX7_copy_69 (lv_at hl 5 rfl) ?_
            obtain ⟨r_25, e_24, h⟩ := bo_s h
            refine x_goi X hS (x_runV (As := [.int x1, .int x2, .int x5]) (rest := []) X gC_ok hP hS (ctX5_hasPlaces_1 l D c3 ad w _ x1 x2 x5 _ e_24) (cwV 3 hts gX7_copy_X5_hasPlaces rfl rfl rfl (by decide +kernel) ⟨by decide, by decide⟩) (gC1 c3 ad w) rfl rfl rfl hl.1 rfl (Nat.le_of_ble_eq_true rfl) dX7_copy_71) (fun H locs hP hS => ?_)
            refine lv_if_eq (tgt := 92) hx hb dX7_copy_74 (by decide) (fun c_27 => ?_) (fun c_27 => ?_)
            · replace h := it_p c_27 h
              exact bX7_copy_92 X hret w _ _ _ hP hS (lv_sub hl [0] rfl) h
            · replace h := it_n c_27 h
              refine lv_aload_n hx hb dX7_copy_77 rfl (lv_at hl 0 rfl) ?_
              refine x_get (rest := []) X hP (gC0 c3 ad w) rfl iwX7_copy_X7 0 (by decide) lkX7_copy_14 rfl dX7_copy_78 ?_
              refine lv_iload_n hx hb dX7_copy_81 rfl (lv_at hl 3 rfl) ?_
              refine lv_iload hx hb dX7_copy_82 (lv_at hl 4 rfl) ?_
              refine lv_iload hx hb dX7_copy_84 (lv_at hl 5 rfl) ?_
              obtain ⟨r_29, e_28, h⟩ := bo_s h
              refine x_goi X hS (x_runV (As := [.int x3, .int x4, .int x5]) (rest := []) X gC_ok hP hS (ctX5_hasPlaces_1 l D c3 ad w _ x3 x4 x5 _ e_28) (cwV 3 hts gX7_copy_X5_hasPlaces rfl rfl rfl (by decide +kernel) ⟨by decide, by decide⟩) (gC1 c3 ad w) rfl rfl rfl hl.1 rfl (Nat.le_of_ble_eq_true rfl) dX7_copy_86) (fun H locs hP hS => ?_)
              refine lv_if_ne (tgt := 98) hx hb dX7_copy_89 (by decide) (fun c_31 => ?_) (fun c_31 => ?_)
              · replace h := it_n c_31 h
                refine lv_aload_n hx hb dX7_copy_98 rfl (lv_at hl 0 rfl) ?_
                refine x_get (rest := []) X hP (gC0 c3 ad w) rfl iwX7_copy_X7 0 (by decide) lkX7_copy_14 rfl dX7_copy_99 ?_
                refine x_get (rest := []) X hP (gC1 c3 ad w) rfl iwX7_copy_X5 0 (by decide) lkX7_copy_86 rfl dX7_copy_102 ?_
                refine lv_iload_n hx hb dX7_copy_105 rfl (lv_at hl 1 rfl) ?_
                obtain ⟨g_32, h⟩ := gd_s h
                have q_33 := rgn 4 g_32
                refine x_aald (z := ad (4 + x1.toNatClampNeg)) X hP (gC2 c3 ad w) g_32 rfl dX7_copy_106 ?_
                refine lv_iload_n hx hb dX7_copy_107 rfl (lv_at hl 2 rfl) ?_
                refine lv_aload_n hx hb dX7_copy_108 rfl (lv_at hl 0 rfl) ?_
                refine x_get (rest := [.int x2, .ref (ad (4 + x1.toNatClampNeg))]) X hP (gC0 c3 ad w) rfl iwX7_copy_X7 0 (by decide) lkX7_copy_14 rfl dX7_copy_109 ?_
                refine x_get (rest := [.int x2, .ref (ad (4 + x1.toNatClampNeg))]) X hP (gC1 c3 ad w) rfl iwX7_copy_X5 0 (by decide) lkX7_copy_86 rfl dX7_copy_112 ?_
                refine lv_iload_n hx hb dX7_copy_115 rfl (lv_at hl 3 rfl) ?_
                obtain ⟨g_34, h⟩ := gd_s h
                have q_35 := rgn 4 g_34
                refine x_aald (z := ad (4 + x3.toNatClampNeg)) X hP (gC2 c3 ad w) g_34 rfl dX7_copy_116 ?_
                refine lv_iload hx hb dX7_copy_117 (lv_at hl 4 rfl) ?_
                refine lv_iload hx hb dX7_copy_119 (lv_at hl 5 rfl) ?_
                obtain ⟨g_36, h⟩ := gd_s h
                refine x_copy X hP hS (gCrI c3 ad w q_33) (gCrI c3 ad w q_35) (tCrI c3 ad w q_35 _) g_36 (by rw [hml]; exact hl.1.symm) (hts (.methodLink RX7 104 arraycopyName) (by decide +kernel)) (hts (.native arraycopyName) (by decide +kernel)) (hts (.static arraycopyName) (by decide +kernel)) (hts (.initialized "java/lang/System") (by decide +kernel)) (Nat.le_of_ble_eq_true rfl) (Nat.le_of_ble_eq_true rfl) dX7_copy_121 (fun H locs hP hS => ?_)
                refine x_nmw h hP (fun w_37 h hP => ?_)
                refine lv_iconst (v := 1) hx hb dX7_copy_124 (by decide) ?_
                obtain ⟨rfl, rfl⟩ := Prod.mk.inj (Option.some.inj h)
                exact hret _ _ _ _ hP hS dX7_copy_125
              · replace h := it_p c_31 h
                exact bX7_copy_92 X hret w _ _ _ hP hS (lv_sub hl [0] rfl) h
          · replace h := it_p c_23 h
            exact bX7_copy_57 X hret w _ _ _ hP hS (lv_sub hl [0] rfl) h
      · replace h := it_n c_15 h
        refine lv_aload_n hx hb dX7_copy_29 rfl (lv_at hl 0 rfl) ?_
        refine lv_iconst (v := 5) hx hb dX7_copy_30 (by decide) ?_
        obtain ⟨r_39, w_40, e_38, h⟩ := bd_s h
        refine x_goi X hS (x_runV (As := [.int 5]) (rest := []) X gC_ok hP hS (ctX7_refuse l D c3 ad w _ 5 _ _ e_38) (cwV 1 hts gX7_copy_X7_refuse rfl rfl rfl (by decide +kernel) ⟨by decide, by decide⟩) (gC0 c3 ad w) rfl rfl rfl hl.1 rfl (Nat.le_of_ble_eq_true rfl) dX7_copy_31) (fun H locs hP hS => ?_)
        obtain ⟨rfl, rfl⟩ := Prod.mk.inj (Option.some.inj h)
        exact hret _ _ _ _ hP hS dX7_copy_34
    · replace h := it_p c_14 h
      refine lv_iconst (v := (-1)) hx hb dX7_copy_22 (by decide) ?_
      obtain ⟨rfl, rfl⟩ := Prod.mk.inj (Option.some.inj h)
      exact hret _ _ _ _ hP hS dX7_copy_23
def fX7_copy (x1 : Int32) (x2 : Int32) (x3 : Int32) (x4 : Int32) (x5 : Int32) (w : Mm) : Option (Int32 × Mm) := fX7_copy_E x1 x2 x3 x4 x5 w
theorem ctX7_copy (l : Launch) (D : va_G) (c3 : C3) (ad : Nat → Nat) (w : Mm) (sz : Nat) (x1 : Int32) (x2 : Int32) (x3 : Int32) (x4 : Int32) (x5 : Int32) (r : Int32) (w' : Mm) (h : fX7_copy x1 x2 x3 x4 x5 w = some (r, w')) : Ci l yX7_copy wsX7_copy rmX7_copy D c3 (encC c3 ad) gC [.ref (ad 0), .int x1, .int x2, .int x3, .int x4, .int x5] w sz r w' := by
  refine Ci.of (cc := cX7_copy) (maxL := 6) (encC_ok c3 ad) (by decide) rfl (Nat.le_of_ble_eq_true rfl) ?_
  intro p e s m below meth c A Q ls X hret hP hS hl
  exact bX7_copy_E X hret x1 x2 x3 x4 x5 w _ _ ls hP hS hl h
theorem iwX7_mean_X5 : ∀ w ∈ wsX50, w ∈ wsX7_mean := fun _ h => List.mem_cons_of_mem _ (List.mem_append_right _ h)
theorem iwX7_mean_X7 : ∀ w ∈ wsX70, w ∈ wsX7_mean := fun _ h => List.mem_cons_of_mem _ (List.mem_append_left _ (List.mem_append_right _ h))
theorem lkX7_mean_14 : Cond.fieldLink RX7 14 "StuckDoor" "ints" "LStuckDoor$Rows;" ∈ wsX7_mean := by decide +kernel
theorem lkX7_mean_60 : Cond.fieldLink RX7 60 "StuckDoor" "askedLast" "I" ∈ wsX7_mean := by decide +kernel
theorem lkX7_mean_86 : Cond.fieldLink RX7 86 "StuckDoor$Rows" "places" "[[I" ∈ wsX7_mean := by decide +kernel
theorem lkX7_mean_94 : Cond.fieldLink RX7 94 "StuckDoor$Rows" "sizes" "[I" ∈ wsX7_mean := by decide +kernel
def rmX7_mean : Room := { frames := 3, cells := 0, slots := 0, locals := 64 }
def fX7_mean_42 (x1 : Int32) (x3 : Int32) : Nat → Int64 → Int32 → Mm → Option (Int32 × Mm)
  | 0, _, _, _ => none
  | n + 1, y4, x6, w => (if x3 ≤ x6 then gd (¬ x3.toInt64 = 0) (nm (sA w 0 9 ((y4 / x3.toInt64).toInt32)) (fun w_3 => some (1, w_3))) else gd (inb x1 6 = true) (gd (inb x6 40 = true) (nm (y4 + ((w.1 (4 + x1.toNatClampNeg) x6.toNatClampNeg).toInt64)) (fun y4_7 => fX7_mean_42 x1 x3 n y4_7 (x6 + 1) w))))
set_option maxRecDepth 20000 in
theorem bX7_mean_42 {p : Program} {l : Launch} {e : Env} {s : State} {m : MethodId} {args : Array Value} {below : List Frame} {meth : Method} {c : Code} {Q : State → Prop} {D : va_G} {c3 : C3} {ad : Nat → Nat} {A : Nat → Prop} {r : Int32} {w' : Mm} (X : Cx p s m args c cX7_mean 7 RX7 wsX7_mean D c3 (encC c3 ad) gC A) (hret : Ri p l e (rmX7_mean) s m args below meth c Q cX7_mean D (encC c3 ad) A r w') : ∀ (x1 : Int32) (x3 : Int32) (n : Nat) (y4 : Int64) (x6 : Int32) (w : Mm) (H : Heap) (locs : List Loc) (ls : Array Slot), va_P D vwCl ((encC c3 ad) w) H → va_S A s.heap H locs → lv_has ls 7 [(0, .ref (ad 0)), (1, .int x1), (3, .int x3), (4, .long y4), (6, .int x6)] → fX7_mean_42 x1 x3 n y4 x6 w = some (r, w') → W p l e (rmX7_mean) s m args below meth c H locs 0 0 Q (F0 m 42 ls []) := by
  have hx := X.1
  have hb := X.2.1
  have hml := X.2.2.1
  have hown := X.2.2.2.1
  have hts := X.2.2.2.2.1
  intro x1 x3 n
  induction n with
  | zero =>
    intro y4 x6 w H locs ls hP hS hl h
    exact absurd h (by simp [fX7_mean_42])
  | succ n ih =>
    intro y4 x6 w H locs ls hP hS hl h
    rw [fX7_mean_42] at h
    refine lv_iload hx hb dX7_mean_42 (lv_at hl 4 rfl) ?_
    refine lv_iload_n hx hb dX7_mean_44 rfl (lv_at hl 2 rfl) ?_
    refine lv_icmp_ge (tgt := 72) hx hb dX7_mean_45 (by decide) (fun c_1 => ?_) (fun c_1 => ?_)
    · replace h := it_p c_1 h
      refine lv_aload_n hx hb dX7_mean_72 rfl (lv_at hl 0 rfl) ?_
      refine lv_lload hx hb dX7_mean_73 (lv_at hl 3 rfl) ?_
      refine lv_iload_n hx hb dX7_mean_75 rfl (lv_at hl 2 rfl) ?_
      refine lv_i2l (v := x3.toInt64) hx hb dX7_mean_76 rfl ?_
      obtain ⟨g_2, h⟩ := gd_s h
      refine lv_ldiv hx hb dX7_mean_77 g_2 ?_
      refine lv_l2i (v := (y4 / x3.toInt64).toInt32) hx hb dX7_mean_78 rfl ?_
      refine x_put (v := .int ((y4 / x3.toInt64).toInt32)) X hP hS (gC0 c3 ad w) rfl iwX7_mean_X7 tyX7 tyX7_ok nmX7 9 (by decide) lkX7_mean_60 rfl rfl rfl (Nat.le_of_ble_eq_true rfl) (pC0_9 c3 ad w ((y4 / x3.toInt64).toInt32)) dX7_mean_79 (fun H locs hP hS => ?_)
      refine x_nmw h hP (fun w_3 h hP => ?_)
      refine lv_iconst (v := 1) hx hb dX7_mean_82 (by decide) ?_
      obtain ⟨rfl, rfl⟩ := Prod.mk.inj (Option.some.inj h)
      exact hret _ _ _ _ hP hS dX7_mean_83
    · replace h := it_n c_1 h
      refine lv_lload hx hb dX7_mean_48 (lv_at hl 3 rfl) ?_
      refine lv_aload_n hx hb dX7_mean_50 rfl (lv_at hl 0 rfl) ?_
      refine x_get (rest := [.long y4]) X hP (gC0 c3 ad w) rfl iwX7_mean_X7 0 (by decide) lkX7_mean_14 rfl dX7_mean_51 ?_
      refine x_get (rest := [.long y4]) X hP (gC1 c3 ad w) rfl iwX7_mean_X5 0 (by decide) lkX7_mean_86 rfl dX7_mean_54 ?_
      refine lv_iload_n hx hb dX7_mean_57 rfl (lv_at hl 1 rfl) ?_
      obtain ⟨g_4, h⟩ := gd_s h
      have q_5 := rgn 4 g_4
      refine x_aald (z := ad (4 + x1.toNatClampNeg)) X hP (gC2 c3 ad w) g_4 rfl dX7_mean_58 ?_
      refine lv_iload hx hb dX7_mean_59 (lv_at hl 4 rfl) ?_
      obtain ⟨g_6, h⟩ := gd_s h
      refine x_iald X hP (gCrI c3 ad w q_5) g_6 dX7_mean_61 ?_
      refine lv_i2l (v := (w.1 (4 + x1.toNatClampNeg) x6.toNatClampNeg).toInt64) hx hb dX7_mean_62 rfl ?_
      refine lv_ladd hx hb dX7_mean_63 ?_
      refine x_nml h (fun y4_7 h => ?_)
      refine lv_lstore (lv' := [(4, .long y4_7), (0, .ref (ad 0)), (1, .int x1), (3, .int x3), (6, .int x6)]) hx hb dX7_mean_64 hl (by decide) rfl (fun ls hl => ?_)
      refine lv_iinc (v := (x6 + 1)) (lv' := [(6, .int (x6 + 1)), (4, .long y4_7), (0, .ref (ad 0)), (1, .int x1), (3, .int x3)]) hx hb dX7_mean_66 hl (k := 4) rfl rfl (by decide) rfl (fun ls hl => ?_)
      refine lv_goto (tgt := 42) hx hb dX7_mean_69 (by decide) ?_
      exact ih y4_7 (x6 + 1) w _ _ _ hP hS (lv_sub hl [2, 3, 4, 1, 0] rfl) h
def fX7_mean_E (x1 : Int32) (w : Mm) : Option (Int32 × Mm) := bd (fX7_refusalOfRow_0_1 x1 w) (fun r_9 w_10 => (if r_9 = 0 then gd (inb x1 6 = true) (nm (w_10.1 3 x1.toNatClampNeg) (fun x3_13 => (if x3_13 = 0 then bd (fX7_refuse 4 w_10) (fun r_16 w_17 => some (r_16, w_17)) else fX7_mean_42 x1 x3_13 FU 0 0 w_10))) else some (r_9, w_10)))
set_option maxRecDepth 20000 in
theorem bX7_mean_E {p : Program} {l : Launch} {e : Env} {s : State} {m : MethodId} {args : Array Value} {below : List Frame} {meth : Method} {c : Code} {Q : State → Prop} {D : va_G} {c3 : C3} {ad : Nat → Nat} {A : Nat → Prop} {r : Int32} {w' : Mm} (X : Cx p s m args c cX7_mean 7 RX7 wsX7_mean D c3 (encC c3 ad) gC A) (hret : Ri p l e (rmX7_mean) s m args below meth c Q cX7_mean D (encC c3 ad) A r w') : ∀ (x1 : Int32) (w : Mm) (H : Heap) (locs : List Loc) (ls : Array Slot), va_P D vwCl ((encC c3 ad) w) H → va_S A s.heap H locs → lv_has ls 7 [(0, .ref (ad 0)), (1, .int x1)] → fX7_mean_E x1 w = some (r, w') → W p l e (rmX7_mean) s m args below meth c H locs 0 0 Q (F0 m 0 ls []) := by
  have hx := X.1
  have hb := X.2.1
  have hml := X.2.2.1
  have hown := X.2.2.2.1
  have hts := X.2.2.2.2.1
  intro x1 w H locs ls hP hS hl h
  unfold fX7_mean_E at h
  refine lv_aload_n hx hb dX7_mean_0 rfl (lv_at hl 0 rfl) ?_
  refine lv_aload_n hx hb dX7_mean_1 rfl (lv_at hl 0 rfl) ?_
  refine x_get (rest := [.ref (ad 0)]) X hP (gC0 c3 ad w) rfl iwX7_mean_X7 0 (by decide) lkX7_mean_14 rfl dX7_mean_2 ?_
  refine lv_iload_n hx hb dX7_mean_5 rfl (lv_at hl 1 rfl) ?_
  obtain ⟨r_9, w_10, e_8, h⟩ := bd_s h
  refine x_goi X hS (x_runV (As := [.ref (ad 1), .int x1]) (rest := []) X gC_ok hP hS (ctX7_refusalOfRow_0_1 l D c3 ad w _ x1 _ _ e_8) (cwV 2 hts gX7_mean_X7_refusalOfRow rfl rfl rfl (by decide +kernel) ⟨by decide, by decide⟩) (gC0 c3 ad w) rfl rfl rfl hl.1 rfl (Nat.le_of_ble_eq_true rfl) dX7_mean_6) (fun H locs hP hS => ?_)
  refine lv_istore_n (lv' := [(2, .int r_9), (0, .ref (ad 0)), (1, .int x1)]) hx hb dX7_mean_9 rfl hl (by decide) rfl (fun ls hl => ?_)
  refine lv_iload_n hx hb dX7_mean_10 rfl (lv_at hl 0 rfl) ?_
  refine lv_if_eq (tgt := 16) hx hb dX7_mean_11 (by decide) (fun c_11 => ?_) (fun c_11 => ?_)
  · replace h := it_p c_11 h
    refine lv_aload_n hx hb dX7_mean_16 rfl (lv_at hl 1 rfl) ?_
    refine x_get (rest := []) X hP (gC0 c3 ad w_10) rfl iwX7_mean_X7 0 (by decide) lkX7_mean_14 rfl dX7_mean_17 ?_
    refine x_get (rest := []) X hP (gC1 c3 ad w_10) rfl iwX7_mean_X5 1 (by decide) lkX7_mean_94 rfl dX7_mean_20 ?_
    refine lv_iload_n hx hb dX7_mean_23 rfl (lv_at hl 2 rfl) ?_
    obtain ⟨g_12, h⟩ := gd_s h
    refine x_iald X hP (gC3 c3 ad w_10) g_12 dX7_mean_24 ?_
    refine x_nmi h (fun x3_13 h => ?_)
    refine lv_istore_n (lv' := [(3, .int x3_13), (2, .int r_9), (0, .ref (ad 0)), (1, .int x1)]) hx hb dX7_mean_25 rfl hl (by decide) rfl (fun ls hl => ?_)
    refine lv_iload_n hx hb dX7_mean_26 rfl (lv_at hl 0 rfl) ?_
    refine lv_if_ne (tgt := 36) hx hb dX7_mean_27 (by decide) (fun c_14 => ?_) (fun c_14 => ?_)
    · replace h := it_n c_14 h
      refine lv_lconst (v := 0) hx hb dX7_mean_36 (by decide) ?_
      refine lv_lstore (lv' := [(4, .long 0), (3, .int x3_13), (2, .int r_9), (0, .ref (ad 0)), (1, .int x1)]) hx hb dX7_mean_37 hl (by decide) rfl (fun ls hl => ?_)
      refine lv_iconst (v := 0) hx hb dX7_mean_39 (by decide) ?_
      refine lv_istore (lv' := [(6, .int 0), (4, .long 0), (3, .int x3_13), (2, .int r_9), (0, .ref (ad 0)), (1, .int x1)]) hx hb dX7_mean_40 hl (by decide) rfl (fun ls hl => ?_)
      exact bX7_mean_42 X hret x1 x3_13 FU 0 0 w_10 _ _ _ hP hS (lv_sub hl [4, 5, 2, 1, 0] rfl) h
    · replace h := it_p c_14 h
      refine lv_aload_n hx hb dX7_mean_30 rfl (lv_at hl 2 rfl) ?_
      refine lv_iconst (v := 4) hx hb dX7_mean_31 (by decide) ?_
      obtain ⟨r_16, w_17, e_15, h⟩ := bd_s h
      refine x_goi X hS (x_runV (As := [.int 4]) (rest := []) X gC_ok hP hS (ctX7_refuse l D c3 ad w_10 _ 4 _ _ e_15) (cwV 1 hts gX7_mean_X7_refuse rfl rfl rfl (by decide +kernel) ⟨by decide, by decide⟩) (gC0 c3 ad w_10) rfl rfl rfl hl.1 rfl (Nat.le_of_ble_eq_true rfl) dX7_mean_32) (fun H locs hP hS => ?_)
      obtain ⟨rfl, rfl⟩ := Prod.mk.inj (Option.some.inj h)
      exact hret _ _ _ _ hP hS dX7_mean_35
  · replace h := it_n c_11 h
    refine lv_iload_n hx hb dX7_mean_14 rfl (lv_at hl 0 rfl) ?_
    obtain ⟨rfl, rfl⟩ := Prod.mk.inj (Option.some.inj h)
    exact hret _ _ _ _ hP hS dX7_mean_15
def fX7_mean (x1 : Int32) (w : Mm) : Option (Int32 × Mm) := fX7_mean_E x1 w
theorem ctX7_mean (l : Launch) (D : va_G) (c3 : C3) (ad : Nat → Nat) (w : Mm) (sz : Nat) (x1 : Int32) (r : Int32) (w' : Mm) (h : fX7_mean x1 w = some (r, w')) : Ci l yX7_mean wsX7_mean rmX7_mean D c3 (encC c3 ad) gC [.ref (ad 0), .int x1] w sz r w' := by
  refine Ci.of (cc := cX7_mean) (maxL := 7) (encC_ok c3 ad) (by decide) rfl (Nat.le_of_ble_eq_true rfl) ?_
  intro p e s m below meth c A Q ls X hret hP hS hl
  exact bX7_mean_E X hret x1 w _ _ ls hP hS hl h
def rmX5_isNumber_10 : Room := { frames := 0, cells := 0, slots := 0, locals := 0 }
def fX5_isNumber_10_E (x1 : Int32) (w : Mm) : Option (Int32) := (if x1 < 0 then some 0 else (if 4 ≤ x1 then some 0 else some 1))
set_option maxRecDepth 20000 in
theorem bX5_isNumber_10_E {p : Program} {l : Launch} {e : Env} {s : State} {m : MethodId} {args : Array Value} {below : List Frame} {meth : Method} {c : Code} {Q : State → Prop} {D : va_G} {c3 : C3} {ad : Nat → Nat} {A : Nat → Prop} {r : Int32} {w : Mm} (X : Cx p s m args c cX5_isNumber 2 RX5 wsX5_isNumber D c3 (encC c3 ad) gC A) (hret : Rz p l e (rmX5_isNumber_10) s m args below meth c Q cX5_isNumber D (encC c3 ad) A r w) : ∀ (x1 : Int32) (H : Heap) (locs : List Loc) (ls : Array Slot), va_P D vwCl ((encC c3 ad) w) H → va_S A s.heap H locs → lv_has ls 2 [(0, .ref (ad 10)), (1, .int x1)] → fX5_isNumber_10_E x1 w = some r → W p l e (rmX5_isNumber_10) s m args below meth c H locs 0 0 Q (F0 m 0 ls []) := by
  have hx := X.1
  have hb := X.2.1
  have hml := X.2.2.1
  have hown := X.2.2.2.1
  have hts := X.2.2.2.2.1
  intro x1 H locs ls hP hS hl h
  unfold fX5_isNumber_10_E at h
  refine lv_iload_n hx hb dX5_isNumber_0 rfl (lv_at hl 1 rfl) ?_
  refine lv_if_lt (tgt := 17) hx hb dX5_isNumber_1 (by decide) (fun c_1 => ?_) (fun c_1 => ?_)
  · replace h := it_p c_1 h
    refine lv_iconst (v := 0) hx hb dX5_isNumber_17 (by decide) ?_
    obtain rfl := Option.some.inj h
    exact hret (Or.inl rfl) _ _ _ _ hP hS dX5_isNumber_18
  · replace h := it_n c_1 h
    refine lv_iload_n hx hb dX5_isNumber_4 rfl (lv_at hl 1 rfl) ?_
    refine lv_aload_n hx hb dX5_isNumber_5 rfl (lv_at hl 0 rfl) ?_
    refine x_get (rest := [.int x1]) X hP (gC10 c3 ad w) rfl iwX5_isNumber_X5 1 (by decide) lkX5_isNumber_16 rfl dX5_isNumber_6 ?_
    refine x_alen (v := 4) X hP (gC12 c3 ad w) rfl dX5_isNumber_9 ?_
    refine lv_icmp_ge (tgt := 17) hx hb dX5_isNumber_10 (by decide) (fun c_2 => ?_) (fun c_2 => ?_)
    · replace h := it_p c_2 h
      refine lv_iconst (v := 0) hx hb dX5_isNumber_17 (by decide) ?_
      obtain rfl := Option.some.inj h
      exact hret (Or.inl rfl) _ _ _ _ hP hS dX5_isNumber_18
    · replace h := it_n c_2 h
      refine lv_iconst (v := 1) hx hb dX5_isNumber_13 (by decide) ?_
      refine lv_goto (tgt := 18) hx hb dX5_isNumber_14 (by decide) ?_
      obtain rfl := Option.some.inj h
      exact hret (Or.inr rfl) _ _ _ _ hP hS dX5_isNumber_18
def fX5_isNumber_10 (x1 : Int32) (w : Mm) : Option (Int32) := fX5_isNumber_10_E x1 w
theorem ctX5_isNumber_10 (l : Launch) (D : va_G) (c3 : C3) (ad : Nat → Nat) (w : Mm) (sz : Nat) (x1 : Int32) (r : Int32) (h : fX5_isNumber_10 x1 w = some r) : Ci l yX5_isNumber wsX5_isNumber rmX5_isNumber_10 D c3 (encC c3 ad) gC [.ref (ad 10), .int x1] w sz r w := by
  refine Ci.ofz (cc := cX5_isNumber) (maxL := 2) (encC_ok c3 ad) (by decide) rfl (Nat.le_of_ble_eq_true rfl) ?_
  intro p e s m below meth c A Q ls X hret hP hS hl
  exact bX5_isNumber_10_E X hret x1 _ _ ls hP hS hl h

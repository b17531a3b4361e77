def rmJ7_fill_53178_T : Room := { frames := 0, cells := 0, slots := 0, locals := 0 }
def fJ7_fill_53178_T_5 (q0 : Nat) (x1 : Int32) (x3 : Int32) : Nat → Int32 → Mm → Option (Mm)
  | 0, _, _ => none
  | n + 1, x2, w => (if x3 ≤ x2 then some w else gd (13 ≤ q0 ∧ q0 < 17) (gd (inb x2 60 = true) (nm (sA w q0 x2.toNatClampNeg x1) (fun w_4 => fJ7_fill_53178_T_5 q0 x1 x3 n (x2 + 1) w_4))))
set_option maxRecDepth 20000 in
theorem bJ7_fill_53178_T_5 {p : Program} {l : Launch} {e : Env} {s : State} {m : MethodId} {args : Array Value} {below : List Frame} {meth : Method} {c : Code} {Q : State → Prop} {D : va_G} {c3 : C3} {ad : Nat → Nat} {A : Nat → Prop} {w' : Mm} (X : Cx p s m args c cJ7_fill_53178 4 RJ7 wsJ7_fill_53178 D c3 (encC c3 ad) gC A) (hret : Rv p l e (rmJ7_fill_53178_T) s m args below meth c Q cJ7_fill_53178 D (encC c3 ad) A w') : ∀ (q0 : Nat) (x1 : Int32) (x3 : Int32) (n : Nat) (x2 : Int32) (w : Mm) (H : Heap) (locs : List Loc) (ls : Array Slot), va_P D vwCl ((encC c3 ad) w) H → va_S A s.heap H locs → lv_has ls 4 [(0, .ref (ad q0)), (1, .int x1), (2, .int x2), (3, .int x3)] → fJ7_fill_53178_T_5 q0 x1 x3 n x2 w = some w' → W p l e (rmJ7_fill_53178_T) s m args below meth c H locs 0 0 Q (F0 m 5 ls []) := by
  have hx := X.1
  have hb := X.2.1
  have hml := X.2.2.1
  have hown := X.2.2.2.1
  have hts := X.2.2.2.2.1
  intro q0 x1 x3 n
  induction n with
  | zero =>
    intro x2 w H locs ls hP hS hl h
    exact absurd h (by simp [fJ7_fill_53178_T_5])
  | succ n ih =>
    intro x2 w H locs ls hP hS hl h
    rw [fJ7_fill_53178_T_5] at h
    refine lv_iload_n hx hb dJ7_fill_53178_5 rfl (lv_at hl 2 rfl) ?_
    refine lv_iload_n hx hb dJ7_fill_53178_6 rfl (lv_at hl 3 rfl) ?_
    refine lv_icmp_ge (tgt := 20) hx hb dJ7_fill_53178_7 (by decide) (fun c_1 => ?_) (fun c_1 => ?_)
    · replace h := it_p c_1 h
      obtain rfl := Option.some.inj h
      exact hret _ _ _ _ hP hS dJ7_fill_53178_20
    · replace h := it_n c_1 h
      refine lv_aload_n hx hb dJ7_fill_53178_10 rfl (lv_at hl 0 rfl) ?_
      refine lv_iload_n hx hb dJ7_fill_53178_11 rfl (lv_at hl 2 rfl) ?_
      refine lv_iload_n hx hb dJ7_fill_53178_12 rfl (lv_at hl 1 rfl) ?_
      obtain ⟨g_2, h⟩ := gd_s h
      obtain ⟨g_3, h⟩ := gd_s h
      refine x_iast X hP hS (gCrT c3 ad w g_2) (sCrT c3 ad w g_2 _ _) g_3 dJ7_fill_53178_13 (fun H locs hP hS => ?_)
      refine x_nmw h hP (fun w_4 h hP => ?_)
      refine lv_iinc (v := (x2 + 1)) (lv' := [(2, .int (x2 + 1)), (0, .ref (ad q0)), (1, .int x1), (3, .int x3)]) hx hb dJ7_fill_53178_14 hl (k := 2) rfl rfl (by decide) rfl (fun ls hl => ?_)
      refine lv_goto (tgt := 5) hx hb dJ7_fill_53178_17 (by decide) ?_
      exact ih (x2 + 1) w_4 _ _ _ hP hS (lv_sub hl [1, 2, 0, 3] rfl) h
def fJ7_fill_53178_T_E (q0 : Nat) (x1 : Int32) (w : Mm) : Option (Mm) := gd (13 ≤ q0 ∧ q0 < 17) (fJ7_fill_53178_T_5 q0 x1 60 FU 0 w)
set_option maxRecDepth 20000 in
theorem bJ7_fill_53178_T_E {p : Program} {l : Launch} {e : Env} {s : State} {m : MethodId} {args : Array Value} {below : List Frame} {meth : Method} {c : Code} {Q : State → Prop} {D : va_G} {c3 : C3} {ad : Nat → Nat} {A : Nat → Prop} {w' : Mm} (X : Cx p s m args c cJ7_fill_53178 4 RJ7 wsJ7_fill_53178 D c3 (encC c3 ad) gC A) (hret : Rv p l e (rmJ7_fill_53178_T) s m args below meth c Q cJ7_fill_53178 D (encC c3 ad) A w') : ∀ (q0 : Nat) (x1 : Int32) (w : Mm) (H : Heap) (locs : List Loc) (ls : Array Slot), va_P D vwCl ((encC c3 ad) w) H → va_S A s.heap H locs → lv_has ls 4 [(0, .ref (ad q0)), (1, .int x1)] → fJ7_fill_53178_T_E q0 x1 w = some w' → W p l e (rmJ7_fill_53178_T) s m args below meth c H locs 0 0 Q (F0 m 0 ls []) := by
  have hx := X.1
  have hb := X.2.1
  have hml := X.2.2.1
  have hown := X.2.2.2.1
  have hts := X.2.2.2.2.1
  intro q0 x1 w H locs ls hP hS hl h
  unfold fJ7_fill_53178_T_E at h
  refine lv_iconst (v := 0) hx hb dJ7_fill_53178_0 (by decide) ?_
  refine lv_istore_n (lv' := [(2, .int 0), (0, .ref (ad q0)), (1, .int x1)]) hx hb dJ7_fill_53178_1 rfl hl (by decide) rfl (fun ls hl => ?_)
  refine lv_aload_n hx hb dJ7_fill_53178_2 rfl (lv_at hl 1 rfl) ?_
  obtain ⟨g_5, h⟩ := gd_s h
  refine x_alen (v := 60) X hP (gCrT c3 ad w g_5) rfl dJ7_fill_53178_3 ?_
  refine lv_istore_n (lv' := [(3, .int 60), (2, .int 0), (0, .ref (ad q0)), (1, .int x1)]) hx hb dJ7_fill_53178_4 rfl hl (by decide) rfl (fun ls hl => ?_)
  exact bJ7_fill_53178_T_5 X hret q0 x1 60 FU 0 w _ _ _ hP hS (lv_sub hl [2, 3, 1, 0] rfl) h
def fJ7_fill_53178_T (q0 : Nat) (x1 : Int32) (w : Mm) : Option (Mm) := fJ7_fill_53178_T_E q0 x1 w
theorem ctJ7_fill_53178_T (l : Launch) (D : va_G) (c3 : C3) (ad : Nat → Nat) (w : Mm) (sz : Nat) (q0 : Nat) (x1 : Int32) (w' : Mm) (h : fJ7_fill_53178_T q0 x1 w = some w') : Cv l yJ7_fill_53178 wsJ7_fill_53178 rmJ7_fill_53178_T D c3 (encC c3 ad) gC [.ref (ad q0), .int x1] w sz w' := by
  refine Cv.of (cc := cJ7_fill_53178) (maxL := 4) (encC_ok c3 ad) (by decide) rfl (Nat.le_of_ble_eq_true rfl) ?_
  intro p e s m below meth c A Q ls X hret hP hS hl
  exact bJ7_fill_53178_T_E X hret q0 x1 w _ _ ls hP hS hl h
def rmX5_make_10 : Room := { frames := 1, cells := 0, slots := 0, locals := 23 }
def fX5_make_10_E (x1 : Int32) (x2 : Int32) (x3 : Int32) (w : Mm) : Option (Mm) := bo (fX5_isNumber_10 x1 w) (fun r_2 => (if r_2 = 0 then some w else (if x2 < 0 then some w else gd (inb x1 4 = true) ((if 60 < x2 then some w else nm (sA w 12 x1.toNatClampNeg x2) (fun w_9 => bo (fJ7_fill_53178_T (13 + x1.toNatClampNeg) x3 w_9) (fun w_13 => some w_13)))))))
set_option maxRecDepth 20000 in
theorem bX5_make_10_E {p : Program} {l : Launch} {e : Env} {s : State} {m : MethodId} {args : Array Value} {below : List Frame} {meth : Method} {c : Code} {Q : State → Prop} {D : va_G} {c3 : C3} {ad : Nat → Nat} {A : Nat → Prop} {w' : Mm} (X : Cx p s m args c cX5_make 4 RX5 wsX5_make D c3 (encC c3 ad) gC A) (hret : Rv p l e (rmX5_make_10) s m args below meth c Q cX5_make D (encC c3 ad) A w') : ∀ (x1 : Int32) (x2 : Int32) (x3 : Int32) (w : Mm) (H : Heap) (locs : List Loc) (ls : Array Slot), va_P D vwCl ((encC c3 ad) w) H → va_S A s.heap H locs → lv_has ls 4 [(0, .ref (ad 10)), (1, .int x1), (2, .int x2), (3, .int x3)] → fX5_make_10_E x1 x2 x3 w = some w' → W p l e (rmX5_make_10) s m args below meth c H locs 0 0 Q (F0 m 0 ls []) := by
  have hx := X.1
  have hb := X.2.1
  have hml := X.2.2.1
  have hown := X.2.2.2.1
  have hts := X.2.2.2.2.1
  intro x1 x2 x3 w H locs ls hP hS hl h
  unfold fX5_make_10_E at h
  refine lv_aload_n hx hb dX5_make_0 rfl (lv_at hl 0 rfl) ?_
  refine lv_iload_n hx hb dX5_make_1 rfl (lv_at hl 1 rfl) ?_
  obtain ⟨r_2, e_1, h⟩ := bo_s h
  refine x_goi X hS (x_runV (As := [.int x1]) (rest := []) X gC_ok hP hS (ctX5_isNumber_10 l D c3 ad w _ x1 _ e_1) (cwV 1 hts gX5_make_X5_isNumber rfl rfl rfl (by decide +kernel) ⟨by decide, by decide⟩) (gC10 c3 ad w) rfl rfl rfl hl.1 rfl (Nat.le_of_ble_eq_true rfl) dX5_make_2) (fun H locs hP hS => ?_)
  refine lv_if_eq (tgt := 40) hx hb dX5_make_5 (by decide) (fun c_4 => ?_) (fun c_4 => ?_)
  · replace h := it_p c_4 h
    obtain rfl := Option.some.inj h
    exact hret _ _ _ _ hP hS dX5_make_40
  · replace h := it_n c_4 h
    refine lv_iload_n hx hb dX5_make_8 rfl (lv_at hl 2 rfl) ?_
    refine lv_if_lt (tgt := 40) hx hb dX5_make_9 (by decide) (fun c_5 => ?_) (fun c_5 => ?_)
    · replace h := it_p c_5 h
      obtain rfl := Option.some.inj h
      exact hret _ _ _ _ hP hS dX5_make_40
    · replace h := it_n c_5 h
      refine lv_iload_n hx hb dX5_make_12 rfl (lv_at hl 2 rfl) ?_
      refine lv_aload_n hx hb dX5_make_13 rfl (lv_at hl 0 rfl) ?_
      refine x_get (rest := [.int x2]) X hP (gC10 c3 ad w) rfl iwX5_make_X5 0 (by decide) lkX5_make_11 rfl dX5_make_14 ?_
      refine lv_iload_n hx hb dX5_make_17 rfl (lv_at hl 1 rfl) ?_
      obtain ⟨g_6, h⟩ := gd_s h
      have q_7 := rgn 13 g_6
      refine x_aald (z := ad (13 + x1.toNatClampNeg)) X hP (gC11 c3 ad w) g_6 rfl dX5_make_18 ?_
      refine x_alen (v := 60) X hP (gCrT c3 ad w q_7) rfl dX5_make_19 ?_
      refine lv_icmp_gt (tgt := 40) hx hb dX5_make_20 (by decide) (fun c_8 => ?_) (fun c_8 => ?_)
      · replace h := it_p c_8 h
        obtain rfl := Option.some.inj h
        exact hret _ _ _ _ hP hS dX5_make_40
      · replace h := it_n c_8 h
        refine lv_aload_n hx hb dX5_make_23 rfl (lv_at hl 0 rfl) ?_
        refine x_get (rest := []) X hP (gC10 c3 ad w) rfl iwX5_make_X5 1 (by decide) lkX5_make_16 rfl dX5_make_24 ?_
        refine lv_iload_n hx hb dX5_make_27 rfl (lv_at hl 1 rfl) ?_
        refine lv_iload_n hx hb dX5_make_28 rfl (lv_at hl 2 rfl) ?_
        refine x_iast X hP hS (gC12 c3 ad w) (sC12 c3 ad w _ _) g_6 dX5_make_29 (fun H locs hP hS => ?_)
        refine x_nmw h hP (fun w_9 h hP => ?_)
        refine lv_aload_n hx hb dX5_make_30 rfl (lv_at hl 0 rfl) ?_
        refine x_get (rest := []) X hP (gC10 c3 ad w_9) rfl iwX5_make_X5 0 (by decide) lkX5_make_11 rfl dX5_make_31 ?_
        refine lv_iload_n hx hb dX5_make_34 rfl (lv_at hl 1 rfl) ?_
        have q_10 := rgn 13 g_6
        refine x_aald (z := ad (13 + x1.toNatClampNeg)) X hP (gC11 c3 ad w_9) g_6 rfl dX5_make_35 ?_
        refine lv_iload_n hx hb dX5_make_36 rfl (lv_at hl 3 rfl) ?_
        obtain ⟨w_13, e_11, h⟩ := bo_s h
        refine x_gov X hS (x_runS (As := [.ref (ad (13 + x1.toNatClampNeg)), .int x3]) (rest := []) X gC_ok hP hS (ctJ7_fill_53178_T l D c3 ad w_9 _ (13 + x1.toNatClampNeg) x3 _ e_11) (va_cwS 2 hts gX5_make_J7_fill_53178 rfl rfl rfl (by decide +kernel) ⟨by decide, by decide⟩) rfl hl.1 rfl (Nat.le_of_ble_eq_true rfl) dX5_make_37) (fun H locs hP hS => ?_)
        obtain rfl := Option.some.inj h
        exact hret _ _ _ _ hP hS dX5_make_40
def fX5_make_10 (x1 : Int32) (x2 : Int32) (x3 : Int32) (w : Mm) : Option (Mm) := fX5_make_10_E x1 x2 x3 w
theorem ctX5_make_10 (l : Launch) (D : va_G) (c3 : C3) (ad : Nat → Nat) (w : Mm) (sz : Nat) (x1 : Int32) (x2 : Int32) (x3 : Int32) (w' : Mm) (h : fX5_make_10 x1 x2 x3 w = some w') : Cv l yX5_make wsX5_make rmX5_make_10 D c3 (encC c3 ad) gC [.ref (ad 10), .int x1, .int x2, .int x3] w sz w' := by
  refine Cv.of (cc := cX5_make) (maxL := 4) (encC_ok c3 ad) (by decide) rfl (Nat.le_of_ble_eq_true rfl) ?_
  intro p e s m below meth c A Q ls X hret hP hS hl
  exact bX5_make_10_E X hret x1 x2 x3 w _ _ ls hP hS hl h
theorem iwX7_text_X7 : ∀ w ∈ wsX70, w ∈ wsX7_text := fun _ h => List.mem_cons_of_mem _ (List.mem_append_left _ (List.mem_append_right _ h))
theorem lkX7_text_18 : Cond.fieldLink RX7 18 "StuckDoor" "texts" "LStuckDoor$Rows;" ∈ wsX7_text := by decide +kernel
def rmX7_text : Room := { frames := 2, cells := 0, slots := 0, locals := 46 }
def fX7_text_E (x1 : Int32) (x2 : Int32) (w : Mm) : Option (Int32 × Mm) := bo (fX5_isNumber_10 x1 w) (fun r_2 => (if r_2 = 0 then some ((-1), w) else (if x2 ≤ 60 then (if 0 ≤ x2 then bo (fX5_make_10 x1 x2 32 w) (fun w_9 => some (x2, w_9)) else bd (fX7_refuse 5 w) (fun r_11 w_12 => some (r_11, w_12))) else some ((-1), w))))
set_option maxRecDepth 20000 in
theorem bX7_text_E {p : Program} {l : Launch} {e : Env} {s : State} {m : MethodId} {args : Array Value} {below : List Frame} {meth : Method} {c : Code} {Q : State → Prop} {D : va_G} {c3 : C3} {ad : Nat → Nat} {A : Nat → Prop} {r : Int32} {w' : Mm} (X : Cx p s m args c cX7_text 3 RX7 wsX7_text D c3 (encC c3 ad) gC A) (hret : Ri p l e (rmX7_text) s m args below meth c Q cX7_text D (encC c3 ad) A r w') : ∀ (x1 : Int32) (x2 : Int32) (w : Mm) (H : Heap) (locs : List Loc) (ls : Array Slot), va_P D vwCl ((encC c3 ad) w) H → va_S A s.heap H locs → lv_has ls 3 [(0, .ref (ad 0)), (1, .int x1), (2, .int x2)] → fX7_text_E x1 x2 w = some (r, w') → W p l e (rmX7_text) s m args below meth c H locs 0 0 Q (F0 m 0 ls []) := by
  have hx := X.1
  have hb := X.2.1
  have hml := X.2.2.1
  have hown := X.2.2.2.1
  have hts := X.2.2.2.2.1
  intro x1 x2 w H locs ls hP hS hl h
  unfold fX7_text_E at h
  refine lv_aload_n hx hb dX7_text_0 rfl (lv_at hl 0 rfl) ?_
  refine x_get (rest := []) X hP (gC0 c3 ad w) rfl iwX7_text_X7 1 (by decide) lkX7_text_18 rfl dX7_text_1 ?_
  refine lv_iload_n hx hb dX7_text_4 rfl (lv_at hl 1 rfl) ?_
  obtain ⟨r_2, e_1, h⟩ := bo_s h
  refine x_goi X hS (x_runV (As := [.int x1]) (rest := []) X gC_ok hP hS (ctX5_isNumber_10 l D c3 ad w _ x1 _ e_1) (cwV 1 hts gX7_text_X5_isNumber rfl rfl rfl (by decide +kernel) ⟨by decide, by decide⟩) (gC10 c3 ad w) rfl rfl rfl hl.1 rfl (Nat.le_of_ble_eq_true rfl) dX7_text_5) (fun H locs hP hS => ?_)
  refine lv_if_eq (tgt := 17) hx hb dX7_text_8 (by decide) (fun c_4 => ?_) (fun c_4 => ?_)
  · replace h := it_p c_4 h
    refine lv_iconst (v := (-1)) hx hb dX7_text_17 (by decide) ?_
    obtain ⟨rfl, rfl⟩ := Prod.mk.inj (Option.some.inj h)
    exact hret _ _ _ _ hP hS dX7_text_18
  · replace h := it_n c_4 h
    refine lv_iload_n hx hb dX7_text_11 rfl (lv_at hl 2 rfl) ?_
    refine lv_bipush (v := 60) hx hb dX7_text_12 (by decide) ?_
    refine lv_icmp_le (tgt := 19) hx hb dX7_text_14 (by decide) (fun c_5 => ?_) (fun c_5 => ?_)
    · replace h := it_p c_5 h
      refine lv_iload_n hx hb dX7_text_19 rfl (lv_at hl 2 rfl) ?_
      refine lv_if_ge (tgt := 29) hx hb dX7_text_20 (by decide) (fun c_6 => ?_) (fun c_6 => ?_)
      · replace h := it_p c_6 h
        refine lv_aload_n hx hb dX7_text_29 rfl (lv_at hl 0 rfl) ?_
        refine x_get (rest := []) X hP (gC0 c3 ad w) rfl iwX7_text_X7 1 (by decide) lkX7_text_18 rfl dX7_text_30 ?_
        refine lv_iload_n hx hb dX7_text_33 rfl (lv_at hl 1 rfl) ?_
        refine lv_iload_n hx hb dX7_text_34 rfl (lv_at hl 2 rfl) ?_
        refine lv_bipush (v := 32) hx hb dX7_text_35 (by decide) ?_
        obtain ⟨w_9, e_7, h⟩ := bo_s h
        refine x_gov X hS (x_runV (As := [.int x1, .int x2, .int 32]) (rest := []) X gC_ok hP hS (ctX5_make_10 l D c3 ad w _ x1 x2 32 _ e_7) (cwV 3 hts gX7_text_X5_make rfl rfl rfl (by decide +kernel) ⟨by decide, by decide⟩) (gC10 c3 ad w) rfl rfl rfl hl.1 rfl (Nat.le_of_ble_eq_true rfl) dX7_text_37) (fun H locs hP hS => ?_)
        refine lv_iload_n hx hb dX7_text_40 rfl (lv_at hl 2 rfl) ?_
        obtain ⟨rfl, rfl⟩ := Prod.mk.inj (Option.some.inj h)
        exact hret _ _ _ _ hP hS dX7_text_41
      · replace h := it_n c_6 h
        refine lv_aload_n hx hb dX7_text_23 rfl (lv_at hl 0 rfl) ?_
        refine lv_iconst (v := 5) hx hb dX7_text_24 (by decide) ?_
        obtain ⟨r_11, w_12, e_10, h⟩ := bd_s h
        refine x_goi X hS (x_runV (As := [.int 5]) (rest := []) X gC_ok hP hS (ctX7_refuse l D c3 ad w _ 5 _ _ e_10) (cwV 1 hts gX7_text_X7_refuse rfl rfl rfl (by decide +kernel) ⟨by decide, by decide⟩) (gC0 c3 ad w) rfl rfl rfl hl.1 rfl (Nat.le_of_ble_eq_true rfl) dX7_text_25) (fun H locs hP hS => ?_)
        obtain ⟨rfl, rfl⟩ := Prod.mk.inj (Option.some.inj h)
        exact hret _ _ _ _ hP hS dX7_text_28
    · replace h := it_n c_5 h
      refine lv_iconst (v := (-1)) hx hb dX7_text_17 (by decide) ?_
      obtain ⟨rfl, rfl⟩ := Prod.mk.inj (Option.some.inj h)
      exact hret _ _ _ _ hP hS dX7_text_18
def fX7_text (x1 : Int32) (x2 : Int32) (w : Mm) : Option (Int32 × Mm) := fX7_text_E x1 x2 w
theorem ctX7_text (l : Launch) (D : va_G) (c3 : C3) (ad : Nat → Nat) (w : Mm) (sz : Nat) (x1 : Int32) (x2 : Int32) (r : Int32) (w' : Mm) (h : fX7_text x1 x2 w = some (r, w')) : Ci l yX7_text wsX7_text rmX7_text D c3 (encC c3 ad) gC [.ref (ad 0), .int x1, .int x2] w sz r w' := by
  refine Ci.of (cc := cX7_text) (maxL := 3) (encC_ok c3 ad) (by decide) rfl (Nat.le_of_ble_eq_true rfl) ?_
  intro p e s m below meth c A Q ls X hret hP hS hl
  exact bX7_text_E X hret x1 x2 w _ _ ls hP hS hl h
def rmX5_isThere_10 : Room := { frames := 1, cells := 0, slots := 0, locals := 21 }
def fX5_isThere_10_E (x1 : Int32) (w : Mm) : Option (Int32) := bo (fX5_isNumber_10 x1 w) (fun r_2 => (if r_2 = 0 then some 0 else gd (inb x1 4 = true) ((if (w.1 12 x1.toNatClampNeg) = (-1) then some 0 else some 1))))
set_option maxRecDepth 20000 in
theorem bX5_isThere_10_E {p : Program} {l : Launch} {e : Env} {s : State} {m : MethodId} {args : Array Value} {below : List Frame} {meth : Method} {c : Code} {Q : State → Prop} {D : va_G} {c3 : C3} {ad : Nat → Nat} {A : Nat → Prop} {r : Int32} {w : Mm} (X : Cx p s m args c cX5_isThere 2 RX5 wsX5_isThere D c3 (encC c3 ad) gC A) (hret : Rz p l e (rmX5_isThere_10) s m args below meth c Q cX5_isThere D (encC c3 ad) A r w) : ∀ (x1 : Int32) (H : Heap) (locs : List Loc) (ls : Array Slot), va_P D vwCl ((encC c3 ad) w) H → va_S A s.heap H locs → lv_has ls 2 [(0, .ref (ad 10)), (1, .int x1)] → fX5_isThere_10_E x1 w = some r → W p l e (rmX5_isThere_10) s m args below meth c H locs 0 0 Q (F0 m 0 ls []) := by
  have hx := X.1
  have hb := X.2.1
  have hml := X.2.2.1
  have hown := X.2.2.2.1
  have hts := X.2.2.2.2.1
  intro x1 H locs ls hP hS hl h
  unfold fX5_isThere_10_E at h
  refine lv_aload_n hx hb dX5_isThere_0 rfl (lv_at hl 0 rfl) ?_
  refine lv_iload_n hx hb dX5_isThere_1 rfl (lv_at hl 1 rfl) ?_
  obtain ⟨r_2, e_1, h⟩ := bo_s h
  refine x_goi X hS (x_runV (As := [.int x1]) (rest := []) X gC_ok hP hS (ctX5_isNumber_10 l D c3 ad w _ x1 _ e_1) (cwV 1 hts gX5_isThere_X5_isNumber rfl rfl rfl (by decide +kernel) ⟨by decide, by decide⟩) (gC10 c3 ad w) rfl rfl rfl hl.1 rfl (Nat.le_of_ble_eq_true rfl) dX5_isThere_2) (fun H locs hP hS => ?_)
  refine lv_if_eq (tgt := 22) hx hb dX5_isThere_5 (by decide) (fun c_4 => ?_) (fun c_4 => ?_)
  · replace h := it_p c_4 h
    refine lv_iconst (v := 0) hx hb dX5_isThere_22 (by decide) ?_
    obtain rfl := Option.some.inj h
    exact hret (Or.inl rfl) _ _ _ _ hP hS dX5_isThere_23
  · replace h := it_n c_4 h
    refine lv_aload_n hx hb dX5_isThere_8 rfl (lv_at hl 0 rfl) ?_
    refine x_get (rest := []) X hP (gC10 c3 ad w) rfl iwX5_isThere_X5 1 (by decide) lkX5_isThere_16 rfl dX5_isThere_9 ?_
    refine lv_iload_n hx hb dX5_isThere_12 rfl (lv_at hl 1 rfl) ?_
    obtain ⟨g_5, h⟩ := gd_s h
    refine x_iald X hP (gC12 c3 ad w) g_5 dX5_isThere_13 ?_
    refine lv_iconst (v := (-1)) hx hb dX5_isThere_14 (by decide) ?_
    refine lv_icmp_eq (tgt := 22) hx hb dX5_isThere_15 (by decide) (fun c_6 => ?_) (fun c_6 => ?_)
    · replace h := it_p c_6 h
      refine lv_iconst (v := 0) hx hb dX5_isThere_22 (by decide) ?_
      obtain rfl := Option.some.inj h
      exact hret (Or.inl rfl) _ _ _ _ hP hS dX5_isThere_23
    · replace h := it_n c_6 h
      refine lv_iconst (v := 1) hx hb dX5_isThere_18 (by decide) ?_
      refine lv_goto (tgt := 23) hx hb dX5_isThere_19 (by decide) ?_
      obtain rfl := Option.some.inj h
      exact hret (Or.inr rfl) _ _ _ _ hP hS dX5_isThere_23
def fX5_isThere_10 (x1 : Int32) (w : Mm) : Option (Int32) := fX5_isThere_10_E x1 w
theorem ctX5_isThere_10 (l : Launch) (D : va_G) (c3 : C3) (ad : Nat → Nat) (w : Mm) (sz : Nat) (x1 : Int32) (r : Int32) (h : fX5_isThere_10 x1 w = some r) : Ci l yX5_isThere wsX5_isThere rmX5_isThere_10 D c3 (encC c3 ad) gC [.ref (ad 10), .int x1] w sz r w := by
  refine Ci.ofz (cc := cX5_isThere) (maxL := 2) (encC_ok c3 ad) (by decide) rfl (Nat.le_of_ble_eq_true rfl) ?_
  intro p e s m below meth c A Q ls X hret hP hS hl
  exact bX5_isThere_10_E X hret x1 _ _ ls hP hS hl h
def rmX7_refusalOfRow_0_10 : Room := { frames := 2, cells := 0, slots := 0, locals := 42 }
def fX7_refusalOfRow_0_10_E (x2 : Int32) (w : Mm) : Option (Int32 × Mm) := bo (fX5_isNumber_10 x2 w) (fun r_2 => (if r_2 = 0 then some ((-1), w) else bo (fX5_isThere_10 x2 w) (fun r_6 => (if r_6 = 0 then bd (fX7_refuse 1 w) (fun r_10 w_11 => some (r_10, w_11)) else some (0, w)))))
set_option maxRecDepth 20000 in
theorem bX7_refusalOfRow_0_10_E {p : Program} {l : Launch} {e : Env} {s : State} {m : MethodId} {args : Array Value} {below : List Frame} {meth : Method} {c : Code} {Q : State → Prop} {D : va_G} {c3 : C3} {ad : Nat → Nat} {A : Nat → Prop} {r : Int32} {w' : Mm} (X : Cx p s m args c cX7_refusalOfRow 3 RX7 wsX7_refusalOfRow D c3 (encC c3 ad) gC A) (hret : Ri p l e (rmX7_refusalOfRow_0_10) s m args below meth c Q cX7_refusalOfRow D (encC c3 ad) A r w') : ∀ (x2 : Int32) (w : Mm) (H : Heap) (locs : List Loc) (ls : Array Slot), va_P D vwCl ((encC c3 ad) w) H → va_S A s.heap H locs → lv_has ls 3 [(0, .ref (ad 0)), (1, .ref (ad 10)), (2, .int x2)] → fX7_refusalOfRow_0_10_E x2 w = some (r, w') → W p l e (rmX7_refusalOfRow_0_10) s m args below meth c H locs 0 0 Q (F0 m 0 ls []) := by
  have hx := X.1
  have hb := X.2.1
  have hml := X.2.2.1
  have hown := X.2.2.2.1
  have hts := X.2.2.2.2.1
  intro x2 w H locs ls hP hS hl h
  unfold fX7_refusalOfRow_0_10_E at h
  refine lv_aload_n hx hb dX7_refusalOfRow_0 rfl (lv_at hl 1 rfl) ?_
  refine lv_iload_n hx hb dX7_refusalOfRow_1 rfl (lv_at hl 2 rfl) ?_
  obtain ⟨r_2, e_1, h⟩ := bo_s h
  refine x_goi X hS (x_runV (As := [.int x2]) (rest := []) X gC_ok hP hS (ctX5_isNumber_10 l D c3 ad w _ x2 _ e_1) (cwV 1 hts gX7_refusalOfRow_X5_isNumber rfl rfl rfl (by decide +kernel) ⟨by decide, by decide⟩) (gC10 c3 ad w) rfl rfl rfl hl.1 rfl (Nat.le_of_ble_eq_true rfl) dX7_refusalOfRow_2) (fun H locs hP hS => ?_)
  refine lv_if_ne (tgt := 10) hx hb dX7_refusalOfRow_5 (by decide) (fun c_4 => ?_) (fun c_4 => ?_)
  · replace h := it_n c_4 h
    refine lv_aload_n hx hb dX7_refusalOfRow_10 rfl (lv_at hl 1 rfl) ?_
    refine lv_iload_n hx hb dX7_refusalOfRow_11 rfl (lv_at hl 2 rfl) ?_
    obtain ⟨r_6, e_5, h⟩ := bo_s h
    refine x_goi X hS (x_runV (As := [.int x2]) (rest := []) X gC_ok hP hS (ctX5_isThere_10 l D c3 ad w _ x2 _ e_5) (cwV 1 hts gX7_refusalOfRow_X5_isThere rfl rfl rfl (by decide +kernel) ⟨by decide, by decide⟩) (gC10 c3 ad w) rfl rfl rfl hl.1 rfl (Nat.le_of_ble_eq_true rfl) dX7_refusalOfRow_12) (fun H locs hP hS => ?_)
    refine lv_if_eq (tgt := 22) hx hb dX7_refusalOfRow_15 (by decide) (fun c_8 => ?_) (fun c_8 => ?_)
    · replace h := it_p c_8 h
      refine lv_aload_n hx hb dX7_refusalOfRow_22 rfl (lv_at hl 0 rfl) ?_
      refine lv_iconst (v := 1) hx hb dX7_refusalOfRow_23 (by decide) ?_
      obtain ⟨r_10, w_11, e_9, h⟩ := bd_s h
      refine x_goi X hS (x_runV (As := [.int 1]) (rest := []) X gC_ok hP hS (ctX7_refuse l D c3 ad w _ 1 _ _ e_9) (cwV 1 hts gX7_refusalOfRow_X7_refuse rfl rfl rfl (by decide +kernel) ⟨by decide, by decide⟩) (gC0 c3 ad w) rfl rfl rfl hl.1 rfl (Nat.le_of_ble_eq_true rfl) dX7_refusalOfRow_24) (fun H locs hP hS => ?_)
      obtain ⟨rfl, rfl⟩ := Prod.mk.inj (Option.some.inj h)
      exact hret _ _ _ _ hP hS dX7_refusalOfRow_27
    · replace h := it_n c_8 h
      refine lv_iconst (v := 0) hx hb dX7_refusalOfRow_18 (by decide) ?_
      refine lv_goto (tgt := 27) hx hb dX7_refusalOfRow_19 (by decide) ?_
      obtain ⟨rfl, rfl⟩ := Prod.mk.inj (Option.some.inj h)
      exact hret _ _ _ _ hP hS dX7_refusalOfRow_27
  · replace h := it_p c_4 h
    refine lv_iconst (v := (-1)) hx hb dX7_refusalOfRow_8 (by decide) ?_
    obtain ⟨rfl, rfl⟩ := Prod.mk.inj (Option.some.inj h)
    exact hret _ _ _ _ hP hS dX7_refusalOfRow_9
def fX7_refusalOfRow_0_10 (x2 : Int32) (w : Mm) : Option (Int32 × Mm) := fX7_refusalOfRow_0_10_E x2 w
theorem ctX7_refusalOfRow_0_10 (l : Launch) (D : va_G) (c3 : C3) (ad : Nat → Nat) (w : Mm) (sz : Nat) (x2 : Int32) (r : Int32) (w' : Mm) (h : fX7_refusalOfRow_0_10 x2 w = some (r, w')) : Ci l yX7_refusalOfRow wsX7_refusalOfRow rmX7_refusalOfRow_0_10 D c3 (encC c3 ad) gC [.ref (ad 0), .ref (ad 10), .int x2] w sz r w' := by
  refine Ci.of (cc := cX7_refusalOfRow) (maxL := 3) (encC_ok c3 ad) (by decide) rfl (Nat.le_of_ble_eq_true rfl) ?_
  intro p e s m below meth c A Q ls X hret hP hS hl
  exact bX7_refusalOfRow_0_10_E X hret x2 w _ _ ls hP hS hl h
def rmX5_hasPlace_10 : Room := { frames := 2, cells := 0, slots := 0, locals := 42 }
def fX5_hasPlace_10_E (x1 : Int32) (x2 : Int32) (w : Mm) : Option (Int32) := bo (fX5_isThere_10 x1 w) (fun r_2 => (if r_2 = 0 then some 0 else (if x2 < 0 then some 0 else gd (inb x1 4 = true) ((if (w.1 12 x1.toNatClampNeg) ≤ x2 then some 0 else some 1)))))
set_option maxRecDepth 20000 in
theorem bX5_hasPlace_10_E {p : Program} {l : Launch} {e : Env} {s : State} {m : MethodId} {args : Array Value} {below : List Frame} {meth : Method} {c : Code} {Q : State → Prop} {D : va_G} {c3 : C3} {ad : Nat → Nat} {A : Nat → Prop} {r : Int32} {w : Mm} (X : Cx p s m args c cX5_hasPlace 3 RX5 wsX5_hasPlace D c3 (encC c3 ad) gC A) (hret : Rz p l e (rmX5_hasPlace_10) s m args below meth c Q cX5_hasPlace D (encC c3 ad) A r w) : ∀ (x1 : Int32) (x2 : Int32) (H : Heap) (locs : List Loc) (ls : Array Slot), va_P D vwCl ((encC c3 ad) w) H → va_S A s.heap H locs → lv_has ls 3 [(0, .ref (ad 10)), (1, .int x1), (2, .int x2)] → fX5_hasPlace_10_E x1 x2 w = some r → W p l e (rmX5_hasPlace_10) s m args below meth c H locs 0 0 Q (F0 m 0 ls []) := by
  have hx := X.1
  have hb := X.2.1
  have hml := X.2.2.1
  have hown := X.2.2.2.1
  have hts := X.2.2.2.2.1
  intro x1 x2 H locs ls hP hS hl h
  unfold fX5_hasPlace_10_E at h
  refine lv_aload_n hx hb dX5_hasPlace_0 rfl (lv_at hl 0 rfl) ?_
  refine lv_iload_n hx hb dX5_hasPlace_1 rfl (lv_at hl 1 rfl) ?_
  obtain ⟨r_2, e_1, h⟩ := bo_s h
  refine x_goi X hS (x_runV (As := [.int x1]) (rest := []) X gC_ok hP hS (ctX5_isThere_10 l D c3 ad w _ x1 _ e_1) (cwV 1 hts gX5_hasPlace_X5_isThere rfl rfl rfl (by decide +kernel) ⟨by decide, by decide⟩) (gC10 c3 ad w) rfl rfl rfl hl.1 rfl (Nat.le_of_ble_eq_true rfl) dX5_hasPlace_2) (fun H locs hP hS => ?_)
  refine lv_if_eq (tgt := 26) hx hb dX5_hasPlace_5 (by decide) (fun c_4 => ?_) (fun c_4 => ?_)
  · replace h := it_p c_4 h
    refine lv_iconst (v := 0) hx hb dX5_hasPlace_26 (by decide) ?_
    obtain rfl := Option.some.inj h
    exact hret (Or.inl rfl) _ _ _ _ hP hS dX5_hasPlace_27
  · replace h := it_n c_4 h
    refine lv_iload_n hx hb dX5_hasPlace_8 rfl (lv_at hl 2 rfl) ?_
    refine lv_if_lt (tgt := 26) hx hb dX5_hasPlace_9 (by decide) (fun c_5 => ?_) (fun c_5 => ?_)
    · replace h := it_p c_5 h
      refine lv_iconst (v := 0) hx hb dX5_hasPlace_26 (by decide) ?_
      obtain rfl := Option.some.inj h
      exact hret (Or.inl rfl) _ _ _ _ hP hS dX5_hasPlace_27
    · replace h := it_n c_5 h
      refine lv_iload_n hx hb dX5_hasPlace_12 rfl (lv_at hl 2 rfl) ?_
      refine lv_aload_n hx hb dX5_hasPlace_13 rfl (lv_at hl 0 rfl) ?_
      refine x_get (rest := [.int x2]) X hP (gC10 c3 ad w) rfl iwX5_hasPlace_X5 1 (by decide) lkX5_hasPlace_16 rfl dX5_hasPlace_14 ?_
      refine lv_iload_n hx hb dX5_hasPlace_17 rfl (lv_at hl 1 rfl) ?_
      obtain ⟨g_6, h⟩ := gd_s h
      refine x_iald X hP (gC12 c3 ad w) g_6 dX5_hasPlace_18 ?_
      refine lv_icmp_ge (tgt := 26) hx hb dX5_hasPlace_19 (by decide) (fun c_7 => ?_) (fun c_7 => ?_)
      · replace h := it_p c_7 h
        refine lv_iconst (v := 0) hx hb dX5_hasPlace_26 (by decide) ?_
        obtain rfl := Option.some.inj h
        exact hret (Or.inl rfl) _ _ _ _ hP hS dX5_hasPlace_27
      · replace h := it_n c_7 h
        refine lv_iconst (v := 1) hx hb dX5_hasPlace_22 (by decide) ?_
        refine lv_goto (tgt := 27) hx hb dX5_hasPlace_23 (by decide) ?_
        obtain rfl := Option.some.inj h
        exact hret (Or.inr rfl) _ _ _ _ hP hS dX5_hasPlace_27
def fX5_hasPlace_10 (x1 : Int32) (x2 : Int32) (w : Mm) : Option (Int32) := fX5_hasPlace_10_E x1 x2 w
theorem ctX5_hasPlace_10 (l : Launch) (D : va_G) (c3 : C3) (ad : Nat → Nat) (w : Mm) (sz : Nat) (x1 : Int32) (x2 : Int32) (r : Int32) (h : fX5_hasPlace_10 x1 x2 w = some r) : Ci l yX5_hasPlace wsX5_hasPlace rmX5_hasPlace_10 D c3 (encC c3 ad) gC [.ref (ad 10), .int x1, .int x2] w sz r w := by
  refine Ci.ofz (cc := cX5_hasPlace) (maxL := 3) (encC_ok c3 ad) (by decide) rfl (Nat.le_of_ble_eq_true rfl) ?_
  intro p e s m below meth c A Q ls X hret hP hS hl
  exact bX5_hasPlace_10_E X hret x1 x2 _ _ ls hP hS hl h
def rmX7_refusalOfPlace_0_10 : Room := { frames := 3, cells := 0, slots := 0, locals := 64 }
def fX7_refusalOfPlace_0_10_E (x2 : Int32) (x3 : Int32) (w : Mm) : Option (Int32 × Mm) := bd (fX7_refusalOfRow_0_10 x2 w) (fun r_2 w_3 => (if r_2 = 0 then bo (fX5_hasPlace_10 x2 x3 w_3) (fun r_6 => (if r_6 = 0 then bd (fX7_refuse 2 w_3) (fun r_10 w_11 => some (r_10, w_11)) else some (0, w_3))) else some (r_2, w_3)))
set_option maxRecDepth 20000 in
theorem bX7_refusalOfPlace_0_10_E {p : Program} {l : Launch} {e : Env} {s : State} {m : MethodId} {args : Array Value} {below : List Frame} {meth : Method} {c : Code} {Q : State → Prop} {D : va_G} {c3 : C3} {ad : Nat → Nat} {A : Nat → Prop} {r : Int32} {w' : Mm} (X : Cx p s m args c cX7_refusalOfPlace 5 RX7 wsX7_refusalOfPlace D c3 (encC c3 ad) gC A) (hret : Ri p l e (rmX7_refusalOfPlace_0_10) s m args below meth c Q cX7_refusalOfPlace D (encC c3 ad) A r w') : ∀ (x2 : Int32) (x3 : Int32) (w : Mm) (H : Heap) (locs : List Loc) (ls : Array Slot), va_P D vwCl ((encC c3 ad) w) H → va_S A s.heap H locs → lv_has ls 5 [(0, .ref (ad 0)), (1, .ref (ad 10)), (2, .int x2), (3, .int x3)] → fX7_refusalOfPlace_0_10_E x2 x3 w = some (r, w') → W p l e (rmX7_refusalOfPlace_0_10) s m args below meth c H locs 0 0 Q (F0 m 0 ls []) := by
  have hx := X.1
  have hb := X.2.1
  have hml := X.2.2.1
  have hown := X.2.2.2.1
  have hts := X.2.2.2.2.1
  intro x2 x3 w H locs ls hP hS hl h
  unfold fX7_refusalOfPlace_0_10_E at h
  refine lv_aload_n hx hb dX7_refusalOfPlace_0 rfl (lv_at hl 0 rfl) ?_
  refine lv_aload_n hx hb dX7_refusalOfPlace_1 rfl (lv_at hl 1 rfl) ?_
  refine lv_iload_n hx hb dX7_refusalOfPlace_2 rfl (lv_at hl 2 rfl) ?_
  obtain ⟨r_2, w_3, e_1, h⟩ := bd_s h
  refine x_goi X hS (x_runV (As := [.ref (ad 10), .int x2]) (rest := []) X gC_ok hP hS (ctX7_refusalOfRow_0_10 l D c3 ad w _ x2 _ _ e_1) (cwV 2 hts gX7_refusalOfPlace_X7_refusalOfRow rfl rfl rfl (by decide +kernel) ⟨by decide, by decide⟩) (gC0 c3 ad w) rfl rfl rfl hl.1 rfl (Nat.le_of_ble_eq_true rfl) dX7_refusalOfPlace_3) (fun H locs hP hS => ?_)
  refine lv_istore (lv' := [(4, .int r_2), (0, .ref (ad 0)), (1, .ref (ad 10)), (2, .int x2), (3, .int x3)]) hx hb dX7_refusalOfPlace_6 hl (by decide) rfl (fun ls hl => ?_)
  refine lv_iload hx hb dX7_refusalOfPlace_8 (lv_at hl 0 rfl) ?_
  refine lv_if_eq (tgt := 16) hx hb dX7_refusalOfPlace_10 (by decide) (fun c_4 => ?_) (fun c_4 => ?_)
  · replace h := it_p c_4 h
    refine lv_aload_n hx hb dX7_refusalOfPlace_16 rfl (lv_at hl 2 rfl) ?_
    refine lv_iload_n hx hb dX7_refusalOfPlace_17 rfl (lv_at hl 3 rfl) ?_
    refine lv_iload_n hx hb dX7_refusalOfPlace_18 rfl (lv_at hl 4 rfl) ?_
    obtain ⟨r_6, e_5, h⟩ := bo_s h
    refine x_goi X hS (x_runV (As := [.int x2, .int x3]) (rest := []) X gC_ok hP hS (ctX5_hasPlace_10 l D c3 ad w_3 _ x2 x3 _ e_5) (cwV 2 hts gX7_refusalOfPlace_X5_hasPlace rfl rfl rfl (by decide +kernel) ⟨by decide, by decide⟩) (gC10 c3 ad w_3) rfl rfl rfl hl.1 rfl (Nat.le_of_ble_eq_true rfl) dX7_refusalOfPlace_19) (fun H locs hP hS => ?_)
    refine lv_if_eq (tgt := 29) hx hb dX7_refusalOfPlace_22 (by decide) (fun c_8 => ?_) (fun c_8 => ?_)
    · replace h := it_p c_8 h
      refine lv_aload_n hx hb dX7_refusalOfPlace_29 rfl (lv_at hl 1 rfl) ?_
      refine lv_iconst (v := 2) hx hb dX7_refusalOfPlace_30 (by decide) ?_
      obtain ⟨r_10, w_11, e_9, h⟩ := bd_s h
      refine x_goi X hS (x_runV (As := [.int 2]) (rest := []) X gC_ok hP hS (ctX7_refuse l D c3 ad w_3 _ 2 _ _ e_9) (cwV 1 hts gX7_refusalOfPlace_X7_refuse rfl rfl rfl (by decide +kernel) ⟨by decide, by decide⟩) (gC0 c3 ad w_3) rfl rfl rfl hl.1 rfl (Nat.le_of_ble_eq_true rfl) dX7_refusalOfPlace_31) (fun H locs hP hS => ?_)
      obtain ⟨rfl, rfl⟩ := Prod.mk.inj (Option.some.inj h)
      exact hret _ _ _ _ hP hS dX7_refusalOfPlace_34
    · replace h := it_n c_8 h
      refine lv_iconst (v := 0) hx hb dX7_refusalOfPlace_25 (by decide) ?_
      refine lv_goto (tgt := 34) hx hb dX7_refusalOfPlace_26 (by decide) ?_
      obtain ⟨rfl, rfl⟩ := Prod.mk.inj (Option.some.inj h)
      exact hret _ _ _ _ hP hS dX7_refusalOfPlace_34
  · replace h := it_n c_4 h
    refine lv_iload hx hb dX7_refusalOfPlace_13 (lv_at hl 0 rfl) ?_
    obtain ⟨rfl, rfl⟩ := Prod.mk.inj (Option.some.inj h)
    exact hret _ _ _ _ hP hS dX7_refusalOfPlace_15
def fX7_refusalOfPlace_0_10 (x2 : Int32) (x3 : Int32) (w : Mm) : Option (Int32 × Mm) := fX7_refusalOfPlace_0_10_E x2 x3 w
theorem ctX7_refusalOfPlace_0_10 (l : Launch) (D : va_G) (c3 : C3) (ad : Nat → Nat) (w : Mm) (sz : Nat) (x2 : Int32) (x3 : Int32) (r : Int32) (w' : Mm) (h : fX7_refusalOfPlace_0_10 x2 x3 w = some (r, w')) : Ci l yX7_refusalOfPlace wsX7_refusalOfPlace rmX7_refusalOfPlace_0_10 D c3 (encC c3 ad) gC [.ref (ad 0), .ref (ad 10), .int x2, .int x3] w sz r w' := by
  refine Ci.of (cc := cX7_refusalOfPlace) (maxL := 5) (encC_ok c3 ad) (by decide) rfl (Nat.le_of_ble_eq_true rfl) ?_
  intro p e s m below meth c A Q ls X hret hP hS hl
  exact bX7_refusalOfPlace_0_10_E X hret x2 x3 w _ _ ls hP hS hl h
theorem iwX7_put_X5 : ∀ w ∈ wsX50, w ∈ wsX7_put := fun _ h => List.mem_cons_of_mem _ (List.mem_append_right _ h)
theorem iwX7_put_X7 : ∀ w ∈ wsX70, w ∈ wsX7_put := fun _ h => List.mem_cons_of_mem _ (List.mem_append_left _ (List.mem_append_right _ h))
theorem lkX7_put_18 : Cond.fieldLink RX7 18 "StuckDoor" "texts" "LStuckDoor$Rows;" ∈ wsX7_put := by decide +kernel
theorem lkX7_put_86 : Cond.fieldLink RX7 86 "StuckDoor$Rows" "places" "[[I" ∈ wsX7_put := by decide +kernel
def rmX7_put : Room := { frames := 4, cells := 0, slots := 0, locals := 88 }
def fX7_put_E (x1 : Int32) (x2 : Int32) (x3 : Int32) (w : Mm) : Option (Int32 × Mm) := bd (fX7_refusalOfPlace_0_10 x1 x2 w) (fun r_2 w_3 => (if r_2 = 0 then gd (inb x1 4 = true) (gd (inb x2 60 = true) (nm (w_3.1 (13 + x1.toNatClampNeg) x2.toNatClampNeg) (fun x5_8 => nm (sA w_3 (13 + x1.toNatClampNeg) x2.toNatClampNeg x3.toInt8.toInt32) (fun w_10 => some ((x5_8 + 1000), w_10))))) else some (r_2, w_3)))
set_option maxRecDepth 20000 in
theorem bX7_put_E {p : Program} {l : Launch} {e : Env} {s : State} {m : MethodId} {args : Array Value} {below : List Frame} {meth : Method} {c : Code} {Q : State → Prop} {D : va_G} {c3 : C3} {ad : Nat → Nat} {A : Nat → Prop} {r : Int32} {w' : Mm} (X : Cx p s m args c cX7_put 6 RX7 wsX7_put D c3 (encC c3 ad) gC A) (hret : Ri p l e (rmX7_put) s m args below meth c Q cX7_put D (encC c3 ad) A r w') : ∀ (x1 : Int32) (x2 : Int32) (x3 : Int32) (w : Mm) (H : Heap) (locs : List Loc) (ls : Array Slot), va_P D vwCl ((encC c3 ad) w) H → va_S A s.heap H locs → lv_has ls 6 [(0, .ref (ad 0)), (1, .int x1), (2, .int x2), (3, .int x3)] → fX7_put_E x1 x2 x3 w = some (r, w') → W p l e (rmX7_put) s m args below meth c H locs 0 0 Q (F0 m 0 ls []) := by
  have hx := X.1
  have hb := X.2.1
  have hml := X.2.2.1
  have hown := X.2.2.2.1
  have hts := X.2.2.2.2.1
  intro x1 x2 x3 w H locs ls hP hS hl h
  unfold fX7_put_E at h
  refine lv_aload_n hx hb dX7_put_0 rfl (lv_at hl 0 rfl) ?_
  refine lv_aload_n hx hb dX7_put_1 rfl (lv_at hl 0 rfl) ?_
  refine x_get (rest := [.ref (ad 0)]) X hP (gC0 c3 ad w) rfl iwX7_put_X7 1 (by decide) lkX7_put_18 rfl dX7_put_2 ?_
  refine lv_iload_n hx hb dX7_put_5 rfl (lv_at hl 1 rfl) ?_
  refine lv_iload_n hx hb dX7_put_6 rfl (lv_at hl 2 rfl) ?_
  obtain ⟨r_2, w_3, e_1, h⟩ := bd_s h
  refine x_goi X hS (x_runV (As := [.ref (ad 10), .int x1, .int x2]) (rest := []) X gC_ok hP hS (ctX7_refusalOfPlace_0_10 l D c3 ad w _ x1 x2 _ _ e_1) (cwV 3 hts gX7_put_X7_refusalOfPlace rfl rfl rfl (by decide +kernel) ⟨by decide, by decide⟩) (gC0 c3 ad w) rfl rfl rfl hl.1 rfl (Nat.le_of_ble_eq_true rfl) dX7_put_7) (fun H locs hP hS => ?_)
  refine lv_istore (lv' := [(4, .int r_2), (0, .ref (ad 0)), (1, .int x1), (2, .int x2), (3, .int x3)]) hx hb dX7_put_10 hl (by decide) rfl (fun ls hl => ?_)
  refine lv_iload hx hb dX7_put_12 (lv_at hl 0 rfl) ?_
  refine lv_if_eq (tgt := 20) hx hb dX7_put_14 (by decide) (fun c_4 => ?_) (fun c_4 => ?_)
  · replace h := it_p c_4 h
    refine lv_aload_n hx hb dX7_put_20 rfl (lv_at hl 1 rfl) ?_
    refine x_get (rest := []) X hP (gC0 c3 ad w_3) rfl iwX7_put_X7 1 (by decide) lkX7_put_18 rfl dX7_put_21 ?_
    refine x_get (rest := []) X hP (gC10 c3 ad w_3) rfl iwX7_put_X5 0 (by decide) lkX7_put_86 rfl dX7_put_24 ?_
    refine lv_iload_n hx hb dX7_put_27 rfl (lv_at hl 2 rfl) ?_
    obtain ⟨g_5, h⟩ := gd_s h
    have q_6 := rgn 13 g_5
    refine x_aald (z := ad (13 + x1.toNatClampNeg)) X hP (gC11 c3 ad w_3) g_5 rfl dX7_put_28 ?_
    refine lv_iload_n hx hb dX7_put_29 rfl (lv_at hl 3 rfl) ?_
    obtain ⟨g_7, h⟩ := gd_s h
    refine x_iald X hP (gCrT c3 ad w_3 q_6) g_7 dX7_put_30 ?_
    refine x_nmi h (fun x5_8 h => ?_)
    refine lv_istore (lv' := [(5, .int x5_8), (4, .int r_2), (0, .ref (ad 0)), (1, .int x1), (2, .int x2), (3, .int x3)]) hx hb dX7_put_31 hl (by decide) rfl (fun ls hl => ?_)
    refine lv_aload_n hx hb dX7_put_33 rfl (lv_at hl 2 rfl) ?_
    refine x_get (rest := []) X hP (gC0 c3 ad w_3) rfl iwX7_put_X7 1 (by decide) lkX7_put_18 rfl dX7_put_34 ?_
    refine x_get (rest := []) X hP (gC10 c3 ad w_3) rfl iwX7_put_X5 0 (by decide) lkX7_put_86 rfl dX7_put_37 ?_
    refine lv_iload_n hx hb dX7_put_40 rfl (lv_at hl 3 rfl) ?_
    have q_9 := rgn 13 g_5
    refine x_aald (z := ad (13 + x1.toNatClampNeg)) X hP (gC11 c3 ad w_3) g_5 rfl dX7_put_41 ?_
    refine lv_iload_n hx hb dX7_put_42 rfl (lv_at hl 4 rfl) ?_
    refine lv_iload_n hx hb dX7_put_43 rfl (lv_at hl 5 rfl) ?_
    refine lv_i2b (v := x3.toInt8.toInt32) hx hb dX7_put_44 rfl ?_
    refine x_iast X hP hS (gCrT c3 ad w_3 q_9) (sCrT c3 ad w_3 q_9 _ _) g_7 dX7_put_45 (fun H locs hP hS => ?_)
    refine x_nmw h hP (fun w_10 h hP => ?_)
    refine lv_iload hx hb dX7_put_46 (lv_at hl 0 rfl) ?_
    refine lv_sipush (v := 1000) hx hb dX7_put_48 (by decide) ?_
    refine lv_iadd hx hb dX7_put_51 ?_
    obtain ⟨rfl, rfl⟩ := Prod.mk.inj (Option.some.inj h)
    exact hret _ _ _ _ hP hS dX7_put_52
  · replace h := it_n c_4 h
    refine lv_iload hx hb dX7_put_17 (lv_at hl 0 rfl) ?_
    obtain ⟨rfl, rfl⟩ := Prod.mk.inj (Option.some.inj h)
    exact hret _ _ _ _ hP hS dX7_put_19
def fX7_put (x1 : Int32) (x2 : Int32) (x3 : Int32) (w : Mm) : Option (Int32 × Mm) := fX7_put_E x1 x2 x3 w
theorem ctX7_put (l : Launch) (D : va_G) (c3 : C3) (ad : Nat → Nat) (w : Mm) (sz : Nat) (x1 : Int32) (x2 : Int32) (x3 : Int32) (r : Int32) (w' : Mm) (h : fX7_put x1 x2 x3 w = some (r, w')) : Ci l yX7_put wsX7_put rmX7_put D c3 (encC c3 ad) gC [.ref (ad 0), .int x1, .int x2, .int x3] w sz r w' := by
  refine Ci.of (cc := cX7_put) (maxL := 6) (encC_ok c3 ad) (by decide) rfl (Nat.le_of_ble_eq_true rfl) ?_
  intro p e s m below meth c A Q ls X hret hP hS hl
  exact bX7_put_E X hret x1 x2 x3 w _ _ ls hP hS hl h
def rmX4_faultAt : Room := { frames := 0, cells := 0, slots := 0, locals := 0 }
def fX4_faultAt_E (x0 : Int32) : Option (Int32) := some ((-1) - x0)
set_option maxRecDepth 20000 in
theorem bX4_faultAt_E {p : Program} {l : Launch} {e : Env} {s : State} {m : MethodId} {args : Array Value} {below : List Frame} {meth : Method} {c : Code} {Q : State → Prop} {D : va_G} {c3 : C3} {ad : Nat → Nat} {A : Nat → Prop} {r : Int32} {w : Mm} (X : Cx p s m args c cX4_faultAt 1 RX4 wsX4_faultAt D c3 (encC c3 ad) gC A) (hret : Ri p l e (rmX4_faultAt) s m args below meth c Q cX4_faultAt D (encC c3 ad) A r w) : ∀ (x0 : Int32) (H : Heap) (locs : List Loc) (ls : Array Slot), va_P D vwCl ((encC c3 ad) w) H → va_S A s.heap H locs → lv_has ls 1 [(0, .int x0)] → fX4_faultAt_E x0 = some r → W p l e (rmX4_faultAt) s m args below meth c H locs 0 0 Q (F0 m 0 ls []) := by
  have hx := X.1
  have hb := X.2.1
  have hml := X.2.2.1
  have hown := X.2.2.2.1
  have hts := X.2.2.2.2.1
  intro x0 H locs ls hP hS hl h
  unfold fX4_faultAt_E at h
  refine lv_iconst (v := (-1)) hx hb dX4_faultAt_0 (by decide) ?_
  refine lv_iload_n hx hb dX4_faultAt_1 rfl (lv_at hl 0 rfl) ?_
  refine lv_isub hx hb dX4_faultAt_2 ?_
  obtain rfl := Option.some.inj h
  exact hret _ _ _ _ hP hS dX4_faultAt_3
def fX4_faultAt (x0 : Int32) : Option (Int32) := fX4_faultAt_E x0
theorem ctX4_faultAt (l : Launch) (D : va_G) (c3 : C3) (ad : Nat → Nat) (w : Mm) (sz : Nat) (x0 : Int32) (r : Int32) (h : fX4_faultAt x0 = some r) : Ci l yX4_faultAt wsX4_faultAt rmX4_faultAt D c3 (encC c3 ad) gC [.int x0] w sz r w := by
  refine Ci.of (cc := cX4_faultAt) (maxL := 1) (encC_ok c3 ad) (by decide) rfl (Nat.le_of_ble_eq_true rfl) ?_
  intro p e s m below meth c A Q ls X hret hP hS hl
  exact bX4_faultAt_E X hret x0 _ _ ls hP hS hl h
theorem iwX4_sign_X4 : ∀ w ∈ wsX40, w ∈ wsX4_sign := fun _ h => List.mem_cons_of_mem _ (List.mem_append_right _ h)
theorem lkX4_sign_18 : Cond.fieldLink RX4 18 "StuckDoor$Reader" "bytes" "[I" ∈ wsX4_sign := by decide +kernel
theorem lkX4_sign_22 : Cond.fieldLink RX4 22 "StuckDoor$Reader" "size" "I" ∈ wsX4_sign := by decide +kernel
def rmX4_sign : Room := { frames := 0, cells := 0, slots := 0, locals := 0 }
def fX4_sign_E (x1 : Int32) (w : Mm) : Option (Int32) := (if x1 < 0 then some 1000 else (if (w.1 30 2) ≤ x1 then some 1000 else gd (13 ≤ w.2.2 ∧ w.2.2 < 17) (gd (inb x1 60 = true) (some (w.1 w.2.2 x1.toNatClampNeg)))))
set_option maxRecDepth 20000 in
theorem bX4_sign_E {p : Program} {l : Launch} {e : Env} {s : State} {m : MethodId} {args : Array Value} {below : List Frame} {meth : Method} {c : Code} {Q : State → Prop} {D : va_G} {c3 : C3} {ad : Nat → Nat} {A : Nat → Prop} {r : Int32} {w : Mm} (X : Cx p s m args c cX4_sign 2 RX4 wsX4_sign D c3 (encC c3 ad) gC A) (hret : Ri p l e (rmX4_sign) s m args below meth c Q cX4_sign D (encC c3 ad) A r w) : ∀ (x1 : Int32) (H : Heap) (locs : List Loc) (ls : Array Slot), va_P D vwCl ((encC c3 ad) w) H → va_S A s.heap H locs → lv_has ls 2 [(0, .ref (ad 30)), (1, .int x1)] → fX4_sign_E x1 w = some r → W p l e (rmX4_sign) s m args below meth c H locs 0 0 Q (F0 m 0 ls []) := by
  have hx := X.1
  have hb := X.2.1
  have hml := X.2.2.1
  have hown := X.2.2.2.1
  have hts := X.2.2.2.2.1
  intro x1 H locs ls hP hS hl h
  unfold fX4_sign_E at h
  refine lv_iload_n hx hb dX4_sign_0 rfl (lv_at hl 1 rfl) ?_
  refine lv_if_lt (tgt := 21) hx hb dX4_sign_1 (by decide) (fun c_1 => ?_) (fun c_1 => ?_)
  · replace h := it_p c_1 h
    refine lv_sipush (v := 1000) hx hb dX4_sign_21 (by decide) ?_
    obtain rfl := Option.some.inj h
    exact hret _ _ _ _ hP hS dX4_sign_24
  · replace h := it_n c_1 h
    refine lv_iload_n hx hb dX4_sign_4 rfl (lv_at hl 1 rfl) ?_
    refine lv_aload_n hx hb dX4_sign_5 rfl (lv_at hl 0 rfl) ?_
    refine x_get (rest := [.int x1]) X hP (gC30 c3 ad w) rfl iwX4_sign_X4 2 (by decide) lkX4_sign_22 rfl dX4_sign_6 ?_
    refine lv_icmp_ge (tgt := 21) hx hb dX4_sign_9 (by decide) (fun c_2 => ?_) (fun c_2 => ?_)
    · replace h := it_p c_2 h
      refine lv_sipush (v := 1000) hx hb dX4_sign_21 (by decide) ?_
      obtain rfl := Option.some.inj h
      exact hret _ _ _ _ hP hS dX4_sign_24
    · replace h := it_n c_2 h
      refine lv_aload_n hx hb dX4_sign_12 rfl (lv_at hl 0 rfl) ?_
      refine x_get (rest := []) X hP (gC30 c3 ad w) rfl iwX4_sign_X4 1 (by decide) lkX4_sign_18 rfl dX4_sign_13 ?_
      refine lv_iload_n hx hb dX4_sign_16 rfl (lv_at hl 1 rfl) ?_
      obtain ⟨g_3, h⟩ := gd_s h
      obtain ⟨g_4, h⟩ := gd_s h
      refine x_iald X hP (gCrT c3 ad w g_3) g_4 dX4_sign_17 ?_
      refine lv_goto (tgt := 24) hx hb dX4_sign_18 (by decide) ?_
      obtain rfl := Option.some.inj h
      exact hret _ _ _ _ hP hS dX4_sign_24
def fX4_sign (x1 : Int32) (w : Mm) : Option (Int32) := fX4_sign_E x1 w
theorem ctX4_sign (l : Launch) (D : va_G) (c3 : C3) (ad : Nat → Nat) (w : Mm) (sz : Nat) (x1 : Int32) (r : Int32) (h : fX4_sign x1 w = some r) : Ci l yX4_sign wsX4_sign rmX4_sign D c3 (encC c3 ad) gC [.ref (ad 30), .int x1] w sz r w := by
  refine Ci.of (cc := cX4_sign) (maxL := 2) (encC_ok c3 ad) (by decide) rfl (Nat.le_of_ble_eq_true rfl) ?_
  intro p e s m below meth c A Q ls X hret hP hS hl
  exact bX4_sign_E X hret x1 _ _ ls hP hS hl h
theorem iwX4_behindBlanks_X4 : ∀ w ∈ wsX40, w ∈ wsX4_behindBlanks := fun _ h => List.mem_cons_of_mem _ (List.mem_append_right _ h)
theorem lkX4_behindBlanks_22 : Cond.fieldLink RX4 22 "StuckDoor$Reader" "size" "I" ∈ wsX4_behindBlanks := by decide +kernel
def rmX4_behindBlanks : Room := { frames := 1, cells := 0, slots := 0, locals := 21 }
def fX4_behindBlanks_2 (w : Mm) : Nat → Int32 → Option (Int32)
  | 0, _ => none
  | n + 1, x2 => (if (w.1 30 2) ≤ x2 then some x2 else bo (fX4_sign x2 w) (fun r_3 => (if r_3 = 32 then fX4_behindBlanks_2 w n (x2 + 1) else some x2)))
set_option maxRecDepth 20000 in
theorem bX4_behindBlanks_2 {p : Program} {l : Launch} {e : Env} {s : State} {m : MethodId} {args : Array Value} {below : List Frame} {meth : Method} {c : Code} {Q : State → Prop} {D : va_G} {c3 : C3} {ad : Nat → Nat} {A : Nat → Prop} {r : Int32} {w : Mm} (X : Cx p s m args c cX4_behindBlanks 3 RX4 wsX4_behindBlanks D c3 (encC c3 ad) gC A) (hret : Ri p l e (rmX4_behindBlanks) s m args below meth c Q cX4_behindBlanks D (encC c3 ad) A r w) : ∀ (n : Nat) (x2 : Int32) (H : Heap) (locs : List Loc) (ls : Array Slot), va_P D vwCl ((encC c3 ad) w) H → va_S A s.heap H locs → lv_has ls 3 [(0, .ref (ad 30)), (2, .int x2)] → fX4_behindBlanks_2 w n x2 = some r → W p l e (rmX4_behindBlanks) s m args below meth c H locs 0 0 Q (F0 m 2 ls []) := by
  have hx := X.1
  have hb := X.2.1
  have hml := X.2.2.1
  have hown := X.2.2.2.1
  have hts := X.2.2.2.2.1
  intro n
  induction n with
  | zero =>
    intro x2 H locs ls hP hS hl h
    exact absurd h (by simp [fX4_behindBlanks_2])
  | succ n ih =>
    intro x2 H locs ls hP hS hl h
    rw [fX4_behindBlanks_2] at h
    refine lv_iload_n hx hb dX4_behindBlanks_2 rfl (lv_at hl 1 rfl) ?_
    refine lv_aload_n hx hb dX4_behindBlanks_3 rfl (lv_at hl 0 rfl) ?_
    refine x_get (rest := [.int x2]) X hP (gC30 c3 ad w) rfl iwX4_behindBlanks_X4 2 (by decide) lkX4_behindBlanks_22 rfl dX4_behindBlanks_4 ?_
    refine lv_icmp_ge (tgt := 26) hx hb dX4_behindBlanks_7 (by decide) (fun c_1 => ?_) (fun c_1 => ?_)
    · replace h := it_p c_1 h
      refine lv_iload_n hx hb dX4_behindBlanks_26 rfl (lv_at hl 1 rfl) ?_
      obtain rfl := Option.some.inj h
      exact hret _ _ _ _ hP hS dX4_behindBlanks_27
    · replace h := it_n c_1 h
      refine lv_aload_n hx hb dX4_behindBlanks_10 rfl (lv_at hl 0 rfl) ?_
      refine lv_iload_n hx hb dX4_behindBlanks_11 rfl (lv_at hl 1 rfl) ?_
      obtain ⟨r_3, e_2, h⟩ := bo_s h
      refine x_goi X hS (x_runV (As := [.int x2]) (rest := []) X gC_ok hP hS (ctX4_sign l D c3 ad w _ x2 _ e_2) (cwV 1 hts gX4_behindBlanks_X4_sign rfl rfl rfl (by decide +kernel) ⟨by decide, by decide⟩) (gC30 c3 ad w) rfl rfl rfl hl.1 rfl (Nat.le_of_ble_eq_true rfl) dX4_behindBlanks_12) (fun H locs hP hS => ?_)
      refine lv_bipush (v := 32) hx hb dX4_behindBlanks_15 (by decide) ?_
      refine lv_icmp_ne (tgt := 26) hx hb dX4_behindBlanks_17 (by decide) (fun c_5 => ?_) (fun c_5 => ?_)
      · replace h := it_n c_5 h
        refine lv_iload_n hx hb dX4_behindBlanks_26 rfl (lv_at hl 1 rfl) ?_
        obtain rfl := Option.some.inj h
        exact hret _ _ _ _ hP hS dX4_behindBlanks_27
      · replace h := it_p c_5 h
        refine lv_iinc (v := (x2 + 1)) (lv' := [(2, .int (x2 + 1)), (0, .ref (ad 30))]) hx hb dX4_behindBlanks_20 hl (k := 1) rfl rfl (by decide) rfl (fun ls hl => ?_)
        refine lv_goto (tgt := 2) hx hb dX4_behindBlanks_23 (by decide) ?_
        exact ih (x2 + 1) _ _ _ hP hS (lv_sub hl [1, 0] rfl) h
def fX4_behindBlanks_E (x1 : Int32) (w : Mm) : Option (Int32) := fX4_behindBlanks_2 w FU x1
set_option maxRecDepth 20000 in
theorem bX4_behindBlanks_E {p : Program} {l : Launch} {e : Env} {s : State} {m : MethodId} {args : Array Value} {below : List Frame} {meth : Method} {c : Code} {Q : State → Prop} {D : va_G} {c3 : C3} {ad : Nat → Nat} {A : Nat → Prop} {r : Int32} {w : Mm} (X : Cx p s m args c cX4_behindBlanks 3 RX4 wsX4_behindBlanks D c3 (encC c3 ad) gC A) (hret : Ri p l e (rmX4_behindBlanks) s m args below meth c Q cX4_behindBlanks D (encC c3 ad) A r w) : ∀ (x1 : Int32) (H : Heap) (locs : List Loc) (ls : Array Slot), va_P D vwCl ((encC c3 ad) w) H → va_S A s.heap H locs → lv_has ls 3 [(0, .ref (ad 30)), (1, .int x1)] → fX4_behindBlanks_E x1 w = some r → W p l e (rmX4_behindBlanks) s m args below meth c H locs 0 0 Q (F0 m 0 ls []) := by
  have hx := X.1
  have hb := X.2.1
  have hml := X.2.2.1
  have hown := X.2.2.2.1
  have hts := X.2.2.2.2.1
  intro x1 H locs ls hP hS hl h
  unfold fX4_behindBlanks_E at h
  refine lv_iload_n hx hb dX4_behindBlanks_0 rfl (lv_at hl 1 rfl) ?_
  refine lv_istore_n (lv' := [(2, .int x1), (0, .ref (ad 30)), (1, .int x1)]) hx hb dX4_behindBlanks_1 rfl hl (by decide) rfl (fun ls hl => ?_)
  exact bX4_behindBlanks_2 X hret FU x1 _ _ _ hP hS (lv_sub hl [1, 0] rfl) h
def fX4_behindBlanks (x1 : Int32) (w : Mm) : Option (Int32) := fX4_behindBlanks_E x1 w
theorem ctX4_behindBlanks (l : Launch) (D : va_G) (c3 : C3) (ad : Nat → Nat) (w : Mm) (sz : Nat) (x1 : Int32) (r : Int32) (h : fX4_behindBlanks x1 w = some r) : Ci l yX4_behindBlanks wsX4_behindBlanks rmX4_behindBlanks D c3 (encC c3 ad) gC [.ref (ad 30), .int x1] w sz r w := by
  refine Ci.of (cc := cX4_behindBlanks) (maxL := 3) (encC_ok c3 ad) (by decide) rfl (Nat.le_of_ble_eq_true rfl) ?_
  intro p e s m below meth c A Q ls X hret hP hS hl
  exact bX4_behindBlanks_E X hret x1 _ _ ls hP hS hl h
def rmX4_kindOf : Room := { frames := 0, cells := 0, slots := 0, locals := 0 }
def fX4_kindOf_2 (x0 : Int32) : Nat → Int32 → Option (Int32)
  | 0, _ => none
  | n + 1, x1 => (if 6 ≤ x1 then some (-1) else gd (inb x1 6 = true) ((if (stL x1.toNatClampNeg) = x0 then some x1 else fX4_kindOf_2 x0 n (x1 + 1))))
set_option maxRecDepth 20000 in
theorem bX4_kindOf_2 {p : Program} {l : Launch} {e : Env} {s : State} {m : MethodId} {args : Array Value} {below : List Frame} {meth : Method} {c : Code} {Q : State → Prop} {D : va_G} {c3 : C3} {ad : Nat → Nat} {A : Nat → Prop} {r : Int32} {w : Mm} (X : Cx p s m args c cX4_kindOf 2 RX4 wsX4_kindOf D c3 (encC c3 ad) gC A) (hret : Ri p l e (rmX4_kindOf) s m args below meth c Q cX4_kindOf D (encC c3 ad) A r w) : ∀ (x0 : Int32) (n : Nat) (x1 : Int32) (H : Heap) (locs : List Loc) (ls : Array Slot), va_P D vwCl ((encC c3 ad) w) H → va_S A s.heap H locs → lv_has ls 2 [(0, .int x0), (1, .int x1)] → fX4_kindOf_2 x0 n x1 = some r → W p l e (rmX4_kindOf) s m args below meth c H locs 0 0 Q (F0 m 2 ls []) := by
  have hx := X.1
  have hb := X.2.1
  have hml := X.2.2.1
  have hown := X.2.2.2.1
  have hts := X.2.2.2.2.1
  intro x0 n
  induction n with
  | zero =>
    intro x1 H locs ls hP hS hl h
    exact absurd h (by simp [fX4_kindOf_2])
  | succ n ih =>
    intro x1 H locs ls hP hS hl h
    rw [fX4_kindOf_2] at h
    refine lv_iload_n hx hb dX4_kindOf_2 rfl (lv_at hl 1 rfl) ?_
    refine lv_bipush (v := 6) hx hb dX4_kindOf_3 (by decide) ?_
    refine lv_icmp_ge (tgt := 25) hx hb dX4_kindOf_5 (by decide) (fun c_1 => ?_) (fun c_1 => ?_)
    · replace h := it_p c_1 h
      refine lv_iconst (v := (-1)) hx hb dX4_kindOf_25 (by decide) ?_
      obtain rfl := Option.some.inj h
      exact hret _ _ _ _ hP hS dX4_kindOf_26
    · replace h := it_n c_1 h
      obtain ⟨tl, tp, hZl, hTl, hZp, hTp, hNl, hNp, hNw⟩ := X.2.2.2.2.2.2.2.2
      refine va_getsN (ref := "StuckDoor") (host := "StuckDoor") hx hb hZl hS hown (va_Nw.use rfl hNl) (fun _ h => h) dX4_kindOf_8 ?_
      refine lv_iload_n hx hb dX4_kindOf_11 rfl (lv_at hl 1 rfl) ?_
      obtain ⟨g_2, h⟩ := gd_s h
      refine va_ti (v := .int (stL x1.toNatClampNeg)) hx hb hTl hS (inb_vp g_2) rfl dX4_kindOf_12 ?_
      refine lv_iload_n hx hb dX4_kindOf_13 rfl (lv_at hl 0 rfl) ?_
      refine lv_icmp_ne (tgt := 19) hx hb dX4_kindOf_14 (by decide) (fun c_3 => ?_) (fun c_3 => ?_)
      · replace h := it_n c_3 h
        refine lv_iinc (v := (x1 + 1)) (lv' := [(1, .int (x1 + 1)), (0, .int x0)]) hx hb dX4_kindOf_19 hl (k := 1) rfl rfl (by decide) rfl (fun ls hl => ?_)
        refine lv_goto (tgt := 2) hx hb dX4_kindOf_22 (by decide) ?_
        exact ih (x1 + 1) _ _ _ hP hS (lv_sub hl [1, 0] rfl) h
      · replace h := it_p c_3 h
        refine lv_iload_n hx hb dX4_kindOf_17 rfl (lv_at hl 1 rfl) ?_
        obtain rfl := Option.some.inj h
        exact hret _ _ _ _ hP hS dX4_kindOf_18
def fX4_kindOf_E (x0 : Int32) : Option (Int32) := fX4_kindOf_2 x0 FU 0
set_option maxRecDepth 20000 in
theorem bX4_kindOf_E {p : Program} {l : Launch} {e : Env} {s : State} {m : MethodId} {args : Array Value} {below : List Frame} {meth : Method} {c : Code} {Q : State → Prop} {D : va_G} {c3 : C3} {ad : Nat → Nat} {A : Nat → Prop} {r : Int32} {w : Mm} (X : Cx p s m args c cX4_kindOf 2 RX4 wsX4_kindOf D c3 (encC c3 ad) gC A) (hret : Ri p l e (rmX4_kindOf) s m args below meth c Q cX4_kindOf D (encC c3 ad) A r w) : ∀ (x0 : Int32) (H : Heap) (locs : List Loc) (ls : Array Slot), va_P D vwCl ((encC c3 ad) w) H → va_S A s.heap H locs → lv_has ls 2 [(0, .int x0)] → fX4_kindOf_E x0 = some r → W p l e (rmX4_kindOf) s m args below meth c H locs 0 0 Q (F0 m 0 ls []) := by
  have hx := X.1
  have hb := X.2.1
  have hml := X.2.2.1
  have hown := X.2.2.2.1
  have hts := X.2.2.2.2.1
  intro x0 H locs ls hP hS hl h
  unfold fX4_kindOf_E at h
  refine lv_iconst (v := 0) hx hb dX4_kindOf_0 (by decide) ?_
  refine lv_istore_n (lv' := [(1, .int 0), (0, .int x0)]) hx hb dX4_kindOf_1 rfl hl (by decide) rfl (fun ls hl => ?_)
  exact bX4_kindOf_2 X hret x0 FU 0 _ _ _ hP hS (lv_sub hl [1, 0] rfl) h
def fX4_kindOf (x0 : Int32) : Option (Int32) := fX4_kindOf_E x0
theorem ctX4_kindOf (l : Launch) (D : va_G) (c3 : C3) (ad : Nat → Nat) (w : Mm) (sz : Nat) (x0 : Int32) (r : Int32) (h : fX4_kindOf x0 = some r) : Ci l yX4_kindOf wsX4_kindOf rmX4_kindOf D c3 (encC c3 ad) gC [.int x0] w sz r w := by
  refine Ci.of (cc := cX4_kindOf) (maxL := 2) (encC_ok c3 ad) (by decide) rfl (Nat.le_of_ble_eq_true rfl) ?_
  intro p e s m below meth c A Q ls X hret hP hS hl
  exact bX4_kindOf_E X hret x0 _ _ ls hP hS hl h
def rmX4_figure : Room := { frames := 1, cells := 0, slots := 0, locals := 21 }
def fX4_figure_E (x1 : Int32) (x2 : Int32) (w : Mm) : Option (Int32) := bo (fX4_sign x1 w) (fun r_2 => nm (r_2 - 48) (fun x3_4 => (if x3_4 < 0 then some (-1) else (if x2 < x3_4 then some (-1) else some x3_4))))
set_option maxRecDepth 20000 in
theorem bX4_figure_E {p : Program} {l : Launch} {e : Env} {s : State} {m : MethodId} {args : Array Value} {below : List Frame} {meth : Method} {c : Code} {Q : State → Prop} {D : va_G} {c3 : C3} {ad : Nat → Nat} {A : Nat → Prop} {r : Int32} {w : Mm} (X : Cx p s m args c cX4_figure 4 RX4 wsX4_figure D c3 (encC c3 ad) gC A) (hret : Ri p l e (rmX4_figure) s m args below meth c Q cX4_figure D (encC c3 ad) A r w) : ∀ (x1 : Int32) (x2 : Int32) (H : Heap) (locs : List Loc) (ls : Array Slot), va_P D vwCl ((encC c3 ad) w) H → va_S A s.heap H locs → lv_has ls 4 [(0, .ref (ad 30)), (1, .int x1), (2, .int x2)] → fX4_figure_E x1 x2 w = some r → W p l e (rmX4_figure) s m args below meth c H locs 0 0 Q (F0 m 0 ls []) := by
  have hx := X.1
  have hb := X.2.1
  have hml := X.2.2.1
  have hown := X.2.2.2.1
  have hts := X.2.2.2.2.1
  intro x1 x2 H locs ls hP hS hl h
  unfold fX4_figure_E at h
  refine lv_aload_n hx hb dX4_figure_0 rfl (lv_at hl 0 rfl) ?_
  refine lv_iload_n hx hb dX4_figure_1 rfl (lv_at hl 1 rfl) ?_
  obtain ⟨r_2, e_1, h⟩ := bo_s h
  refine x_goi X hS (x_runV (As := [.int x1]) (rest := []) X gC_ok hP hS (ctX4_sign l D c3 ad w _ x1 _ e_1) (cwV 1 hts gX4_figure_X4_sign rfl rfl rfl (by decide +kernel) ⟨by decide, by decide⟩) (gC30 c3 ad w) rfl rfl rfl hl.1 rfl (Nat.le_of_ble_eq_true rfl) dX4_figure_2) (fun H locs hP hS => ?_)
  refine lv_bipush (v := 48) hx hb dX4_figure_5 (by decide) ?_
  refine lv_isub hx hb dX4_figure_7 ?_
  refine x_nmi h (fun x3_4 h => ?_)
  refine lv_istore_n (lv' := [(3, .int x3_4), (0, .ref (ad 30)), (1, .int x1), (2, .int x2)]) hx hb dX4_figure_8 rfl hl (by decide) rfl (fun ls hl => ?_)
  refine lv_iload_n hx hb dX4_figure_9 rfl (lv_at hl 0 rfl) ?_
  refine lv_if_lt (tgt := 22) hx hb dX4_figure_10 (by decide) (fun c_5 => ?_) (fun c_5 => ?_)
  · replace h := it_p c_5 h
    refine lv_iconst (v := (-1)) hx hb dX4_figure_22 (by decide) ?_
    obtain rfl := Option.some.inj h
    exact hret _ _ _ _ hP hS dX4_figure_23
  · replace h := it_n c_5 h
    refine lv_iload_n hx hb dX4_figure_13 rfl (lv_at hl 0 rfl) ?_
    refine lv_iload_n hx hb dX4_figure_14 rfl (lv_at hl 3 rfl) ?_
    refine lv_icmp_gt (tgt := 22) hx hb dX4_figure_15 (by decide) (fun c_6 => ?_) (fun c_6 => ?_)
    · replace h := it_p c_6 h
      refine lv_iconst (v := (-1)) hx hb dX4_figure_22 (by decide) ?_
      obtain rfl := Option.some.inj h
      exact hret _ _ _ _ hP hS dX4_figure_23
    · replace h := it_n c_6 h
      refine lv_iload_n hx hb dX4_figure_18 rfl (lv_at hl 0 rfl) ?_
      refine lv_goto (tgt := 23) hx hb dX4_figure_19 (by decide) ?_
      obtain rfl := Option.some.inj h
      exact hret _ _ _ _ hP hS dX4_figure_23
def fX4_figure (x1 : Int32) (x2 : Int32) (w : Mm) : Option (Int32) := fX4_figure_E x1 x2 w
theorem ctX4_figure (l : Launch) (D : va_G) (c3 : C3) (ad : Nat → Nat) (w : Mm) (sz : Nat) (x1 : Int32) (x2 : Int32) (r : Int32) (h : fX4_figure x1 x2 w = some r) : Ci l yX4_figure wsX4_figure rmX4_figure D c3 (encC c3 ad) gC [.ref (ad 30), .int x1, .int x2] w sz r w := by
  refine Ci.of (cc := cX4_figure) (maxL := 4) (encC_ok c3 ad) (by decide) rfl (Nat.le_of_ble_eq_true rfl) ?_
  intro p e s m below meth c A Q ls X hret hP hS hl
  exact bX4_figure_E X hret x1 x2 _ _ ls hP hS hl h
theorem iwX4_readSaying_X2 : ∀ w ∈ wsX20, w ∈ wsX4_readSaying := fun _ h => List.mem_cons_of_mem _ (List.mem_append_right _ h)
theorem iwX4_readSaying_X4 : ∀ w ∈ wsX40, w ∈ wsX4_readSaying := fun _ h => List.mem_cons_of_mem _ (List.mem_append_left _ (List.mem_append_right _ h))
theorem lkX4_readSaying_12 : Cond.fieldLink RX4 12 "StuckDoor$Reader" "draft" "LStuckDoor$Family;" ∈ wsX4_readSaying := by decide +kernel
theorem lkX4_readSaying_42 : Cond.fieldLink RX4 42 "StuckDoor$Family" "sayings" "I" ∈ wsX4_readSaying := by decide +kernel
theorem lkX4_readSaying_69 : Cond.fieldLink RX4 69 "StuckDoor$Family" "stuckRooms" "I" ∈ wsX4_readSaying := by decide +kernel
theorem lkX4_readSaying_72 : Cond.fieldLink RX4 72 "StuckDoor$Family" "kind" "[I" ∈ wsX4_readSaying := by decide +kernel
theorem lkX4_readSaying_75 : Cond.fieldLink RX4 75 "StuckDoor$Family" "told" "[I" ∈ wsX4_readSaying := by decide +kernel
theorem lkX4_readSaying_78 : Cond.fieldLink RX4 78 "StuckDoor$Family" "topics" "[I" ∈ wsX4_readSaying := by decide +kernel
def rmX4_readSaying : Room := { frames := 2, cells := 0, slots := 0, locals := 44 }
def fX4_readSaying_35 (x1 : Int32) (w : Mm) : Option (Int32 × Mm) := bo (fX4_faultAt x1) (fun r_2 => some (r_2, w))
set_option maxRecDepth 20000 in
theorem bX4_readSaying_35 {p : Program} {l : Launch} {e : Env} {s : State} {m : MethodId} {args : Array Value} {below : List Frame} {meth : Method} {c : Code} {Q : State → Prop} {D : va_G} {c3 : C3} {ad : Nat → Nat} {A : Nat → Prop} {r : Int32} {w' : Mm} (X : Cx p s m args c cX4_readSaying 5 RX4 wsX4_readSaying D c3 (encC c3 ad) gC A) (hret : Ri p l e (rmX4_readSaying) s m args below meth c Q cX4_readSaying D (encC c3 ad) A r w') : ∀ (x1 : Int32) (w : Mm) (H : Heap) (locs : List Loc) (ls : Array Slot), va_P D vwCl ((encC c3 ad) w) H → va_S A s.heap H locs → lv_has ls 5 [(1, .int x1)] → fX4_readSaying_35 x1 w = some (r, w') → W p l e (rmX4_readSaying) s m args below meth c H locs 0 0 Q (F0 m 35 ls []) := by
  have hx := X.1
  have hb := X.2.1
  have hml := X.2.2.1
  have hown := X.2.2.2.1
  have hts := X.2.2.2.2.1
  intro x1 w H locs ls hP hS hl h
  unfold fX4_readSaying_35 at h
  refine lv_iload_n hx hb dX4_readSaying_35 rfl (lv_at hl 0 rfl) ?_
  obtain ⟨r_2, e_1, h⟩ := bo_s h
  refine x_goi X hS (x_runS (As := [.int x1]) (rest := []) X gC_ok hP hS (ctX4_faultAt l D c3 ad w _ x1 _ e_1) (va_cwS 1 hts gX4_readSaying_X4_faultAt rfl rfl rfl (by decide +kernel) ⟨by decide, by decide⟩) rfl hl.1 rfl (Nat.le_of_ble_eq_true rfl) dX4_readSaying_36) (fun H locs hP hS => ?_)
  obtain ⟨rfl, rfl⟩ := Prod.mk.inj (Option.some.inj h)
  exact hret _ _ _ _ hP hS dX4_readSaying_39
def fX4_readSaying_E (x1 : Int32) (w : Mm) : Option (Int32 × Mm) := bo (fX4_sign x1 w) (fun r_5 => bo (fX4_kindOf r_5) (fun r_8 => (if r_8 < 0 then fX4_readSaying_35 x1 w else (if 6 ≤ (w.1 31 2) then fX4_readSaying_35 x1 w else (if (w.1 31 6) = 0 then bo (fX4_figure (x1 + 1) 9 w) (fun r_14 => (if 0 ≤ r_14 then bo (fX4_figure (x1 + 2) 7 w) (fun r_18 => (if 0 ≤ r_18 then gd (inb (w.1 31 2) 6 = true) (nm (sA w 33 (w.1 31 2).toNatClampNeg r_8) (fun w_22 => gd (inb (w_22.1 31 2) 6 = true) (nm (sA w_22 34 (w_22.1 31 2).toNatClampNeg r_14) (fun w_24 => gd (inb (w_24.1 31 2) 6 = true) (nm (sA w_24 35 (w_24.1 31 2).toNatClampNeg r_18) (fun w_26 => nm (sA w_26 31 2 ((w_26.1 31 2) + 1)) (fun w_27 => some ((x1 + 3), w_27)))))))) else bo (fX4_faultAt (x1 + 2)) (fun r_29 => some (r_29, w)))) else bo (fX4_faultAt (x1 + 1)) (fun r_32 => some (r_32, w)))) else fX4_readSaying_35 x1 w)))))
set_option maxRecDepth 20000 in
theorem bX4_readSaying_E {p : Program} {l : Launch} {e : Env} {s : State} {m : MethodId} {args : Array Value} {below : List Frame} {meth : Method} {c : Code} {Q : State → Prop} {D : va_G} {c3 : C3} {ad : Nat → Nat} {A : Nat → Prop} {r : Int32} {w' : Mm} (X : Cx p s m args c cX4_readSaying 5 RX4 wsX4_readSaying D c3 (encC c3 ad) gC A) (hret : Ri p l e (rmX4_readSaying) s m args below meth c Q cX4_readSaying D (encC c3 ad) A r w') : ∀ (x1 : Int32) (w : Mm) (H : Heap) (locs : List Loc) (ls : Array Slot), va_P D vwCl ((encC c3 ad) w) H → va_S A s.heap H locs → lv_has ls 5 [(0, .ref (ad 30)), (1, .int x1)] → fX4_readSaying_E x1 w = some (r, w') → W p l e (rmX4_readSaying) s m args below meth c H locs 0 0 Q (F0 m 0 ls []) := by
  have hx := X.1
  have hb := X.2.1
  have hml := X.2.2.1
  have hown := X.2.2.2.1
  have hts := X.2.2.2.2.1
  intro x1 w H locs ls hP hS hl h
  unfold fX4_readSaying_E at h
  refine lv_aload_n hx hb dX4_readSaying_0 rfl (lv_at hl 0 rfl) ?_
  refine lv_iload_n hx hb dX4_readSaying_1 rfl (lv_at hl 1 rfl) ?_
  obtain ⟨r_5, e_4, h⟩ := bo_s h
  refine x_goi X hS (x_runV (As := [.int x1]) (rest := []) X gC_ok hP hS (ctX4_sign l D c3 ad w _ x1 _ e_4) (cwV 1 hts gX4_readSaying_X4_sign rfl rfl rfl (by decide +kernel) ⟨by decide, by decide⟩) (gC30 c3 ad w) rfl rfl rfl hl.1 rfl (Nat.le_of_ble_eq_true rfl) dX4_readSaying_2) (fun H locs hP hS => ?_)
  obtain ⟨r_8, e_7, h⟩ := bo_s h
  refine x_goi X hS (x_runS (As := [.int r_5]) (rest := []) X gC_ok hP hS (ctX4_kindOf l D c3 ad w _ r_5 _ e_7) (va_cwS 1 hts gX4_readSaying_X4_kindOf rfl rfl rfl (by decide +kernel) ⟨by decide, by decide⟩) rfl hl.1 rfl (Nat.le_of_ble_eq_true rfl) dX4_readSaying_5) (fun H locs hP hS => ?_)
  refine lv_istore_n (lv' := [(2, .int r_8), (0, .ref (ad 30)), (1, .int x1)]) hx hb dX4_readSaying_8 rfl hl (by decide) rfl (fun ls hl => ?_)
  refine lv_iload_n hx hb dX4_readSaying_9 rfl (lv_at hl 0 rfl) ?_
  refine lv_if_lt (tgt := 35) hx hb dX4_readSaying_10 (by decide) (fun c_10 => ?_) (fun c_10 => ?_)
  · replace h := it_p c_10 h
    exact bX4_readSaying_35 X hret x1 w _ _ _ hP hS (lv_sub hl [2] rfl) h
  · replace h := it_n c_10 h
    refine lv_aload_n hx hb dX4_readSaying_13 rfl (lv_at hl 1 rfl) ?_
    refine x_get (rest := []) X hP (gC30 c3 ad w) rfl iwX4_readSaying_X4 0 (by decide) lkX4_readSaying_12 rfl dX4_readSaying_14 ?_
    refine x_get (rest := []) X hP (gC31 c3 ad w) rfl iwX4_readSaying_X2 2 (by decide) lkX4_readSaying_42 rfl dX4_readSaying_17 ?_
    refine lv_bipush (v := 6) hx hb dX4_readSaying_20 (by decide) ?_
    refine lv_icmp_ge (tgt := 35) hx hb dX4_readSaying_22 (by decide) (fun c_11 => ?_) (fun c_11 => ?_)
    · replace h := it_p c_11 h
      exact bX4_readSaying_35 X hret x1 w _ _ _ hP hS (lv_sub hl [2] rfl) h
    · replace h := it_n c_11 h
      refine lv_aload_n hx hb dX4_readSaying_25 rfl (lv_at hl 1 rfl) ?_
      refine x_get (rest := []) X hP (gC30 c3 ad w) rfl iwX4_readSaying_X4 0 (by decide) lkX4_readSaying_12 rfl dX4_readSaying_26 ?_
      refine x_get (rest := []) X hP (gC31 c3 ad w) rfl iwX4_readSaying_X2 6 (by decide) lkX4_readSaying_69 rfl dX4_readSaying_29 ?_
      refine lv_if_eq (tgt := 40) hx hb dX4_readSaying_32 (by decide) (fun c_12 => ?_) (fun c_12 => ?_)
      · replace h := it_p c_12 h
        refine lv_aload_n hx hb dX4_readSaying_40 rfl (lv_at hl 1 rfl) ?_
        refine lv_iload_n hx hb dX4_readSaying_41 rfl (lv_at hl 2 rfl) ?_
        refine lv_iconst (v := 1) hx hb dX4_readSaying_42 (by decide) ?_
        refine lv_iadd hx hb dX4_readSaying_43 ?_
        refine lv_bipush (v := 9) hx hb dX4_readSaying_44 (by decide) ?_
        obtain ⟨r_14, e_13, h⟩ := bo_s h
        refine x_goi X hS (x_runV (As := [.int (x1 + 1), .int 9]) (rest := []) X gC_ok hP hS (ctX4_figure l D c3 ad w _ (x1 + 1) 9 _ e_13) (cwV 2 hts gX4_readSaying_X4_figure rfl rfl rfl (by decide +kernel) ⟨by decide, by decide⟩) (gC30 c3 ad w) rfl rfl rfl hl.1 rfl (Nat.le_of_ble_eq_true rfl) dX4_readSaying_46) (fun H locs hP hS => ?_)
        refine lv_istore_n (lv' := [(3, .int r_14), (2, .int r_8), (0, .ref (ad 30)), (1, .int x1)]) hx hb dX4_readSaying_49 rfl hl (by decide) rfl (fun ls hl => ?_)
        refine lv_iload_n hx hb dX4_readSaying_50 rfl (lv_at hl 0 rfl) ?_
        refine lv_if_ge (tgt := 61) hx hb dX4_readSaying_51 (by decide) (fun c_16 => ?_) (fun c_16 => ?_)
        · replace h := it_p c_16 h
          refine lv_aload_n hx hb dX4_readSaying_61 rfl (lv_at hl 2 rfl) ?_
          refine lv_iload_n hx hb dX4_readSaying_62 rfl (lv_at hl 3 rfl) ?_
          refine lv_iconst (v := 2) hx hb dX4_readSaying_63 (by decide) ?_
          refine lv_iadd hx hb dX4_readSaying_64 ?_
          refine lv_bipush (v := 7) hx hb dX4_readSaying_65 (by decide) ?_
          obtain ⟨r_18, e_17, h⟩ := bo_s h
          refine x_goi X hS (x_runV (As := [.int (x1 + 2), .int 7]) (rest := []) X gC_ok hP hS (ctX4_figure l D c3 ad w _ (x1 + 2) 7 _ e_17) (cwV 2 hts gX4_readSaying_X4_figure rfl rfl rfl (by decide +kernel) ⟨by decide, by decide⟩) (gC30 c3 ad w) rfl rfl rfl hl.1 rfl (Nat.le_of_ble_eq_true rfl) dX4_readSaying_67) (fun H locs hP hS => ?_)
          refine lv_istore (lv' := [(4, .int r_18), (3, .int r_14), (2, .int r_8), (0, .ref (ad 30)), (1, .int x1)]) hx hb dX4_readSaying_70 hl (by decide) rfl (fun ls hl => ?_)
          refine lv_iload hx hb dX4_readSaying_72 (lv_at hl 0 rfl) ?_
          refine lv_if_ge (tgt := 84) hx hb dX4_readSaying_74 (by decide) (fun c_20 => ?_) (fun c_20 => ?_)
          · replace h := it_p c_20 h
            refine lv_aload_n hx hb dX4_readSaying_84 rfl (lv_at hl 3 rfl) ?_
            refine x_get (rest := []) X hP (gC30 c3 ad w) rfl iwX4_readSaying_X4 0 (by decide) lkX4_readSaying_12 rfl dX4_readSaying_85 ?_
            refine x_get (rest := []) X hP (gC31 c3 ad w) rfl iwX4_readSaying_X2 3 (by decide) lkX4_readSaying_72 rfl dX4_readSaying_88 ?_
            refine lv_aload_n hx hb dX4_readSaying_91 rfl (lv_at hl 3 rfl) ?_
            refine x_get (rest := [.ref (ad 33)]) X hP (gC30 c3 ad w) rfl iwX4_readSaying_X4 0 (by decide) lkX4_readSaying_12 rfl dX4_readSaying_92 ?_
            refine x_get (rest := [.ref (ad 33)]) X hP (gC31 c3 ad w) rfl iwX4_readSaying_X2 2 (by decide) lkX4_readSaying_42 rfl dX4_readSaying_95 ?_
            refine lv_iload_n hx hb dX4_readSaying_98 rfl (lv_at hl 2 rfl) ?_
            obtain ⟨g_21, h⟩ := gd_s h
            refine x_iast X hP hS (gC33 c3 ad w) (sC33 c3 ad w _ _) g_21 dX4_readSaying_99 (fun H locs hP hS => ?_)
            refine x_nmw h hP (fun w_22 h hP => ?_)
            refine lv_aload_n hx hb dX4_readSaying_100 rfl (lv_at hl 3 rfl) ?_
            refine x_get (rest := []) X hP (gC30 c3 ad w_22) rfl iwX4_readSaying_X4 0 (by decide) lkX4_readSaying_12 rfl dX4_readSaying_101 ?_
            refine x_get (rest := []) X hP (gC31 c3 ad w_22) rfl iwX4_readSaying_X2 4 (by decide) lkX4_readSaying_75 rfl dX4_readSaying_104 ?_
            refine lv_aload_n hx hb dX4_readSaying_107 rfl (lv_at hl 3 rfl) ?_
            refine x_get (rest := [.ref (ad 34)]) X hP (gC30 c3 ad w_22) rfl iwX4_readSaying_X4 0 (by decide) lkX4_readSaying_12 rfl dX4_readSaying_108 ?_
            refine x_get (rest := [.ref (ad 34)]) X hP (gC31 c3 ad w_22) rfl iwX4_readSaying_X2 2 (by decide) lkX4_readSaying_42 rfl dX4_readSaying_111 ?_
            refine lv_iload_n hx hb dX4_readSaying_114 rfl (lv_at hl 1 rfl) ?_
            obtain ⟨g_23, h⟩ := gd_s h
            refine x_iast X hP hS (gC34 c3 ad w_22) (sC34 c3 ad w_22 _ _) g_23 dX4_readSaying_115 (fun H locs hP hS => ?_)
            refine x_nmw h hP (fun w_24 h hP => ?_)
            refine lv_aload_n hx hb dX4_readSaying_116 rfl (lv_at hl 3 rfl) ?_
            refine x_get (rest := []) X hP (gC30 c3 ad w_24) rfl iwX4_readSaying_X4 0 (by decide) lkX4_readSaying_12 rfl dX4_readSaying_117 ?_
            refine x_get (rest := []) X hP (gC31 c3 ad w_24) rfl iwX4_readSaying_X2 5 (by decide) lkX4_readSaying_78 rfl dX4_readSaying_120 ?_
            refine lv_aload_n hx hb dX4_readSaying_123 rfl (lv_at hl 3 rfl) ?_
            refine x_get (rest := [.ref (ad 35)]) X hP (gC30 c3 ad w_24) rfl iwX4_readSaying_X4 0 (by decide) lkX4_readSaying_12 rfl dX4_readSaying_124 ?_
            refine x_get (rest := [.ref (ad 35)]) X hP (gC31 c3 ad w_24) rfl iwX4_readSaying_X2 2 (by decide) lkX4_readSaying_42 rfl dX4_readSaying_127 ?_
            refine lv_iload hx hb dX4_readSaying_130 (lv_at hl 0 rfl) ?_
            obtain ⟨g_25, h⟩ := gd_s h
            refine x_iast X hP hS (gC35 c3 ad w_24) (sC35 c3 ad w_24 _ _) g_25 dX4_readSaying_132 (fun H locs hP hS => ?_)
            refine x_nmw h hP (fun w_26 h hP => ?_)
            refine lv_aload_n hx hb dX4_readSaying_133 rfl (lv_at hl 3 rfl) ?_
            refine x_get (rest := []) X hP (gC30 c3 ad w_26) rfl iwX4_readSaying_X4 0 (by decide) lkX4_readSaying_12 rfl dX4_readSaying_134 ?_
            refine lv_dup hx hb dX4_readSaying_137 rfl ?_
            refine x_get (rest := [.ref (ad 31)]) X hP (gC31 c3 ad w_26) rfl iwX4_readSaying_X2 2 (by decide) lkX4_readSaying_42 rfl dX4_readSaying_138 ?_
            refine lv_iconst (v := 1) hx hb dX4_readSaying_141 (by decide) ?_
            refine lv_iadd hx hb dX4_readSaying_142 ?_
            refine x_put (v := .int ((w_26.1 31 2) + 1)) X hP hS (gC31 c3 ad w_26) rfl iwX4_readSaying_X2 tyX2 tyX2_ok nmX2 2 (by decide) lkX4_readSaying_42 rfl rfl rfl (Nat.le_of_ble_eq_true rfl) (pC31_2 c3 ad w_26 ((w_26.1 31 2) + 1)) dX4_readSaying_143 (fun H locs hP hS => ?_)
            refine x_nmw h hP (fun w_27 h hP => ?_)
            refine lv_iload_n hx hb dX4_readSaying_146 rfl (lv_at hl 4 rfl) ?_
            refine lv_iconst (v := 3) hx hb dX4_readSaying_147 (by decide) ?_
            refine lv_iadd hx hb dX4_readSaying_148 ?_
            obtain ⟨rfl, rfl⟩ := Prod.mk.inj (Option.some.inj h)
            exact hret _ _ _ _ hP hS dX4_readSaying_149
          · replace h := it_n c_20 h
            refine lv_iload_n hx hb dX4_readSaying_77 rfl (lv_at hl 4 rfl) ?_
            refine lv_iconst (v := 2) hx hb dX4_readSaying_78 (by decide) ?_
            refine lv_iadd hx hb dX4_readSaying_79 ?_
            obtain ⟨r_29, e_28, h⟩ := bo_s h
            refine x_goi X hS (x_runS (As := [.int (x1 + 2)]) (rest := []) X gC_ok hP hS (ctX4_faultAt l D c3 ad w _ (x1 + 2) _ e_28) (va_cwS 1 hts gX4_readSaying_X4_faultAt rfl rfl rfl (by decide +kernel) ⟨by decide, by decide⟩) rfl hl.1 rfl (Nat.le_of_ble_eq_true rfl) dX4_readSaying_80) (fun H locs hP hS => ?_)
            obtain ⟨rfl, rfl⟩ := Prod.mk.inj (Option.some.inj h)
            exact hret _ _ _ _ hP hS dX4_readSaying_83
        · replace h := it_n c_16 h
          refine lv_iload_n hx hb dX4_readSaying_54 rfl (lv_at hl 3 rfl) ?_
          refine lv_iconst (v := 1) hx hb dX4_readSaying_55 (by decide) ?_
          refine lv_iadd hx hb dX4_readSaying_56 ?_
          obtain ⟨r_32, e_31, h⟩ := bo_s h
          refine x_goi X hS (x_runS (As := [.int (x1 + 1)]) (rest := []) X gC_ok hP hS (ctX4_faultAt l D c3 ad w _ (x1 + 1) _ e_31) (va_cwS 1 hts gX4_readSaying_X4_faultAt rfl rfl rfl (by decide +kernel) ⟨by decide, by decide⟩) rfl hl.1 rfl (Nat.le_of_ble_eq_true rfl) dX4_readSaying_57) (fun H locs hP hS => ?_)
          obtain ⟨rfl, rfl⟩ := Prod.mk.inj (Option.some.inj h)
          exact hret _ _ _ _ hP hS dX4_readSaying_60
      · replace h := it_n c_12 h
        exact bX4_readSaying_35 X hret x1 w _ _ _ hP hS (lv_sub hl [2] rfl) h
def fX4_readSaying (x1 : Int32) (w : Mm) : Option (Int32 × Mm) := fX4_readSaying_E x1 w
theorem ctX4_readSaying (l : Launch) (D : va_G) (c3 : C3) (ad : Nat → Nat) (w : Mm) (sz : Nat) (x1 : Int32) (r : Int32) (w' : Mm) (h : fX4_readSaying x1 w = some (r, w')) : Ci l yX4_readSaying wsX4_readSaying rmX4_readSaying D c3 (encC c3 ad) gC [.ref (ad 30), .int x1] w sz r w' := by
  refine Ci.of (cc := cX4_readSaying) (maxL := 5) (encC_ok c3 ad) (by decide) rfl (Nat.le_of_ble_eq_true rfl) ?_
  intro p e s m below meth c A Q ls X hret hP hS hl
  exact bX4_readSaying_E X hret x1 w _ _ ls hP hS hl h
theorem iwX4_readRoom_X2 : ∀ w ∈ wsX20, w ∈ wsX4_readRoom := fun _ h => List.mem_cons_of_mem _ (List.mem_append_right _ h)
theorem iwX4_readRoom_X4 : ∀ w ∈ wsX40, w ∈ wsX4_readRoom := fun _ h => List.mem_cons_of_mem _ (List.mem_append_left _ (List.mem_append_right _ h))
theorem lkX4_readRoom_12 : Cond.fieldLink RX4 12 "StuckDoor$Reader" "draft" "LStuckDoor$Family;" ∈ wsX4_readRoom := by decide +kernel
theorem lkX4_readRoom_42 : Cond.fieldLink RX4 42 "StuckDoor$Family" "sayings" "I" ∈ wsX4_readRoom := by decide +kernel
theorem lkX4_readRoom_69 : Cond.fieldLink RX4 69 "StuckDoor$Family" "stuckRooms" "I" ∈ wsX4_readRoom := by decide +kernel
def rmX4_readRoom : Room := { frames := 2, cells := 0, slots := 0, locals := 44 }
def fX4_readRoom_79 (x1 : Int32) (w : Mm) : Option (Int32 × Mm) := bo (fX4_faultAt (x1 + 2)) (fun r_2 => some (r_2, w))
set_option maxRecDepth 20000 in
theorem bX4_readRoom_79 {p : Program} {l : Launch} {e : Env} {s : State} {m : MethodId} {args : Array Value} {below : List Frame} {meth : Method} {c : Code} {Q : State → Prop} {D : va_G} {c3 : C3} {ad : Nat → Nat} {A : Nat → Prop} {r : Int32} {w' : Mm} (X : Cx p s m args c cX4_readRoom 5 RX4 wsX4_readRoom D c3 (encC c3 ad) gC A) (hret : Ri p l e (rmX4_readRoom) s m args below meth c Q cX4_readRoom D (encC c3 ad) A r w') : ∀ (x1 : Int32) (w : Mm) (H : Heap) (locs : List Loc) (ls : Array Slot), va_P D vwCl ((encC c3 ad) w) H → va_S A s.heap H locs → lv_has ls 5 [(1, .int x1)] → fX4_readRoom_79 x1 w = some (r, w') → W p l e (rmX4_readRoom) s m args below meth c H locs 0 0 Q (F0 m 79 ls []) := by
  have hx := X.1
  have hb := X.2.1
  have hml := X.2.2.1
  have hown := X.2.2.2.1
  have hts := X.2.2.2.2.1
  intro x1 w H locs ls hP hS hl h
  unfold fX4_readRoom_79 at h
  refine lv_iload_n hx hb dX4_readRoom_79 rfl (lv_at hl 0 rfl) ?_
  refine lv_iconst (v := 2) hx hb dX4_readRoom_80 (by decide) ?_
  refine lv_iadd hx hb dX4_readRoom_81 ?_
  obtain ⟨r_2, e_1, h⟩ := bo_s h
  refine x_goi X hS (x_runS (As := [.int (x1 + 2)]) (rest := []) X gC_ok hP hS (ctX4_faultAt l D c3 ad w _ (x1 + 2) _ e_1) (va_cwS 1 hts gX4_readRoom_X4_faultAt rfl rfl rfl (by decide +kernel) ⟨by decide, by decide⟩) rfl hl.1 rfl (Nat.le_of_ble_eq_true rfl) dX4_readRoom_82) (fun H locs hP hS => ?_)
  obtain ⟨rfl, rfl⟩ := Prod.mk.inj (Option.some.inj h)
  exact hret _ _ _ _ hP hS dX4_readRoom_85
def fX4_readRoom_E (x1 : Int32) (w : Mm) : Option (Int32 × Mm) := (if (w.1 31 2) = 0 then bo (fX4_faultAt x1) (fun r_21 => some (r_21, w)) else bo (fX4_figure (x1 + 1) 1 w) (fun r_6 => (if 0 ≤ r_6 then bo (fX4_figure (x1 + 2) 9 w) (fun r_10 => nm ((r_6 * 10) + r_10) (fun x4_12 => (if r_10 < 0 then fX4_readRoom_79 x1 w else (if 12 ≤ x4_12 then fX4_readRoom_79 x1 w else (if ((w.1 31 6) &&& (1 <<< (x4_12 &&& 31))) = 0 then nm (sA w 31 6 ((w.1 31 6) ||| (1 <<< (x4_12 &&& 31)))) (fun w_16 => some ((x1 + 3), w_16)) else fX4_readRoom_79 x1 w))))) else bo (fX4_faultAt (x1 + 1)) (fun r_18 => some (r_18, w)))))
set_option maxRecDepth 20000 in
theorem bX4_readRoom_E {p : Program} {l : Launch} {e : Env} {s : State} {m : MethodId} {args : Array Value} {below : List Frame} {meth : Method} {c : Code} {Q : State → Prop} {D : va_G} {c3 : C3} {ad : Nat → Nat} {A : Nat → Prop} {r : Int32} {w' : Mm} (X : Cx p s m args c cX4_readRoom 5 RX4 wsX4_readRoom D c3 (encC c3 ad) gC A) (hret : Ri p l e (rmX4_readRoom) s m args below meth c Q cX4_readRoom D (encC c3 ad) A r w') : ∀ (x1 : Int32) (w : Mm) (H : Heap) (locs : List Loc) (ls : Array Slot), va_P D vwCl ((encC c3 ad) w) H → va_S A s.heap H locs → lv_has ls 5 [(0, .ref (ad 30)), (1, .int x1)] → fX4_readRoom_E x1 w = some (r, w') → W p l e (rmX4_readRoom) s m args below meth c H locs 0 0 Q (F0 m 0 ls []) := by
  have hx := X.1
  have hb := X.2.1
  have hml := X.2.2.1
  have hown := X.2.2.2.1
  have hts := X.2.2.2.2.1
  intro x1 w H locs ls hP hS hl h
  unfold fX4_readRoom_E at h
  refine lv_aload_n hx hb dX4_readRoom_0 rfl (lv_at hl 0 rfl) ?_
  refine x_get (rest := []) X hP (gC30 c3 ad w) rfl iwX4_readRoom_X4 0 (by decide) lkX4_readRoom_12 rfl dX4_readRoom_1 ?_
  refine x_get (rest := []) X hP (gC31 c3 ad w) rfl iwX4_readRoom_X2 2 (by decide) lkX4_readRoom_42 rfl dX4_readRoom_4 ?_
  refine lv_if_ne (tgt := 15) hx hb dX4_readRoom_7 (by decide) (fun c_4 => ?_) (fun c_4 => ?_)
  · replace h := it_n c_4 h
    refine lv_aload_n hx hb dX4_readRoom_15 rfl (lv_at hl 0 rfl) ?_
    refine lv_iload_n hx hb dX4_readRoom_16 rfl (lv_at hl 1 rfl) ?_
    refine lv_iconst (v := 1) hx hb dX4_readRoom_17 (by decide) ?_
    refine lv_iadd hx hb dX4_readRoom_18 ?_
    refine lv_iconst (v := 1) hx hb dX4_readRoom_19 (by decide) ?_
    obtain ⟨r_6, e_5, h⟩ := bo_s h
    refine x_goi X hS (x_runV (As := [.int (x1 + 1), .int 1]) (rest := []) X gC_ok hP hS (ctX4_figure l D c3 ad w _ (x1 + 1) 1 _ e_5) (cwV 2 hts gX4_readRoom_X4_figure rfl rfl rfl (by decide +kernel) ⟨by decide, by decide⟩) (gC30 c3 ad w) rfl rfl rfl hl.1 rfl (Nat.le_of_ble_eq_true rfl) dX4_readRoom_20) (fun H locs hP hS => ?_)
    refine lv_istore_n (lv' := [(2, .int r_6), (0, .ref (ad 30)), (1, .int x1)]) hx hb dX4_readRoom_23 rfl hl (by decide) rfl (fun ls hl => ?_)
    refine lv_iload_n hx hb dX4_readRoom_24 rfl (lv_at hl 0 rfl) ?_
    refine lv_if_ge (tgt := 35) hx hb dX4_readRoom_25 (by decide) (fun c_8 => ?_) (fun c_8 => ?_)
    · replace h := it_p c_8 h
      refine lv_aload_n hx hb dX4_readRoom_35 rfl (lv_at hl 1 rfl) ?_
      refine lv_iload_n hx hb dX4_readRoom_36 rfl (lv_at hl 2 rfl) ?_
      refine lv_iconst (v := 2) hx hb dX4_readRoom_37 (by decide) ?_
      refine lv_iadd hx hb dX4_readRoom_38 ?_
      refine lv_bipush (v := 9) hx hb dX4_readRoom_39 (by decide) ?_
      obtain ⟨r_10, e_9, h⟩ := bo_s h
      refine x_goi X hS (x_runV (As := [.int (x1 + 2), .int 9]) (rest := []) X gC_ok hP hS (ctX4_figure l D c3 ad w _ (x1 + 2) 9 _ e_9) (cwV 2 hts gX4_readRoom_X4_figure rfl rfl rfl (by decide +kernel) ⟨by decide, by decide⟩) (gC30 c3 ad w) rfl rfl rfl hl.1 rfl (Nat.le_of_ble_eq_true rfl) dX4_readRoom_41) (fun H locs hP hS => ?_)
      refine lv_istore_n (lv' := [(3, .int r_10), (2, .int r_6), (0, .ref (ad 30)), (1, .int x1)]) hx hb dX4_readRoom_44 rfl hl (by decide) rfl (fun ls hl => ?_)
      refine lv_iload_n hx hb dX4_readRoom_45 rfl (lv_at hl 1 rfl) ?_
      refine lv_bipush (v := 10) hx hb dX4_readRoom_46 (by decide) ?_
      refine lv_imul hx hb dX4_readRoom_48 ?_
      refine lv_iload_n hx hb dX4_readRoom_49 rfl (lv_at hl 0 rfl) ?_
      refine lv_iadd hx hb dX4_readRoom_50 ?_
      refine x_nmi h (fun x4_12 h => ?_)
      refine lv_istore (lv' := [(4, .int x4_12), (3, .int r_10), (2, .int r_6), (0, .ref (ad 30)), (1, .int x1)]) hx hb dX4_readRoom_51 hl (by decide) rfl (fun ls hl => ?_)
      refine lv_iload_n hx hb dX4_readRoom_53 rfl (lv_at hl 1 rfl) ?_
      refine lv_if_lt (tgt := 79) hx hb dX4_readRoom_54 (by decide) (fun c_13 => ?_) (fun c_13 => ?_)
      · replace h := it_p c_13 h
        exact bX4_readRoom_79 X hret x1 w _ _ _ hP hS (lv_sub hl [4] rfl) h
      · replace h := it_n c_13 h
        refine lv_iload hx hb dX4_readRoom_57 (lv_at hl 0 rfl) ?_
        refine lv_bipush (v := 12) hx hb dX4_readRoom_59 (by decide) ?_
        refine lv_icmp_ge (tgt := 79) hx hb dX4_readRoom_61 (by decide) (fun c_14 => ?_) (fun c_14 => ?_)
        · replace h := it_p c_14 h
          exact bX4_readRoom_79 X hret x1 w _ _ _ hP hS (lv_sub hl [4] rfl) h
        · replace h := it_n c_14 h
          refine lv_aload_n hx hb dX4_readRoom_64 rfl (lv_at hl 3 rfl) ?_
          refine x_get (rest := []) X hP (gC30 c3 ad w) rfl iwX4_readRoom_X4 0 (by decide) lkX4_readRoom_12 rfl dX4_readRoom_65 ?_
          refine x_get (rest := []) X hP (gC31 c3 ad w) rfl iwX4_readRoom_X2 6 (by decide) lkX4_readRoom_69 rfl dX4_readRoom_68 ?_
          refine lv_iconst (v := 1) hx hb dX4_readRoom_71 (by decide) ?_
          refine lv_iload hx hb dX4_readRoom_72 (lv_at hl 0 rfl) ?_
          refine lv_ishl hx hb dX4_readRoom_74 ?_
          refine lv_iand hx hb dX4_readRoom_75 ?_
          refine lv_if_eq (tgt := 86) hx hb dX4_readRoom_76 (by decide) (fun c_15 => ?_) (fun c_15 => ?_)
          · replace h := it_p c_15 h
            refine lv_aload_n hx hb dX4_readRoom_86 rfl (lv_at hl 3 rfl) ?_
            refine x_get (rest := []) X hP (gC30 c3 ad w) rfl iwX4_readRoom_X4 0 (by decide) lkX4_readRoom_12 rfl dX4_readRoom_87 ?_
            refine lv_dup hx hb dX4_readRoom_90 rfl ?_
            refine x_get (rest := [.ref (ad 31)]) X hP (gC31 c3 ad w) rfl iwX4_readRoom_X2 6 (by decide) lkX4_readRoom_69 rfl dX4_readRoom_91 ?_
            refine lv_iconst (v := 1) hx hb dX4_readRoom_94 (by decide) ?_
            refine lv_iload hx hb dX4_readRoom_95 (lv_at hl 0 rfl) ?_
            refine lv_ishl hx hb dX4_readRoom_97 ?_
            refine lv_ior hx hb dX4_readRoom_98 ?_
            refine x_put (v := .int ((w.1 31 6) ||| (1 <<< (x4_12 &&& 31)))) X hP hS (gC31 c3 ad w) rfl iwX4_readRoom_X2 tyX2 tyX2_ok nmX2 6 (by decide) lkX4_readRoom_69 rfl rfl rfl (Nat.le_of_ble_eq_true rfl) (pC31_6 c3 ad w ((w.1 31 6) ||| (1 <<< (x4_12 &&& 31)))) dX4_readRoom_99 (fun H locs hP hS => ?_)
            refine x_nmw h hP (fun w_16 h hP => ?_)
            refine lv_iload_n hx hb dX4_readRoom_102 rfl (lv_at hl 4 rfl) ?_
            refine lv_iconst (v := 3) hx hb dX4_readRoom_103 (by decide) ?_
            refine lv_iadd hx hb dX4_readRoom_104 ?_
            obtain ⟨rfl, rfl⟩ := Prod.mk.inj (Option.some.inj h)
            exact hret _ _ _ _ hP hS dX4_readRoom_105
          · replace h := it_n c_15 h
            exact bX4_readRoom_79 X hret x1 w _ _ _ hP hS (lv_sub hl [4] rfl) h
    · replace h := it_n c_8 h
      refine lv_iload_n hx hb dX4_readRoom_28 rfl (lv_at hl 2 rfl) ?_
      refine lv_iconst (v := 1) hx hb dX4_readRoom_29 (by decide) ?_
      refine lv_iadd hx hb dX4_readRoom_30 ?_
      obtain ⟨r_18, e_17, h⟩ := bo_s h
      refine x_goi X hS (x_runS (As := [.int (x1 + 1)]) (rest := []) X gC_ok hP hS (ctX4_faultAt l D c3 ad w _ (x1 + 1) _ e_17) (va_cwS 1 hts gX4_readRoom_X4_faultAt rfl rfl rfl (by decide +kernel) ⟨by decide, by decide⟩) rfl hl.1 rfl (Nat.le_of_ble_eq_true rfl) dX4_readRoom_31) (fun H locs hP hS => ?_)
      obtain ⟨rfl, rfl⟩ := Prod.mk.inj (Option.some.inj h)
      exact hret _ _ _ _ hP hS dX4_readRoom_34
  · replace h := it_p c_4 h
    refine lv_iload_n hx hb dX4_readRoom_10 rfl (lv_at hl 1 rfl) ?_
    obtain ⟨r_21, e_20, h⟩ := bo_s h
    refine x_goi X hS (x_runS (As := [.int x1]) (rest := []) X gC_ok hP hS (ctX4_faultAt l D c3 ad w _ x1 _ e_20) (va_cwS 1 hts gX4_readRoom_X4_faultAt rfl rfl rfl (by decide +kernel) ⟨by decide, by decide⟩) rfl hl.1 rfl (Nat.le_of_ble_eq_true rfl) dX4_readRoom_11) (fun H locs hP hS => ?_)
    obtain ⟨rfl, rfl⟩ := Prod.mk.inj (Option.some.inj h)
    exact hret _ _ _ _ hP hS dX4_readRoom_14
def fX4_readRoom (x1 : Int32) (w : Mm) : Option (Int32 × Mm) := fX4_readRoom_E x1 w
theorem ctX4_readRoom (l : Launch) (D : va_G) (c3 : C3) (ad : Nat → Nat) (w : Mm) (sz : Nat) (x1 : Int32) (r : Int32) (w' : Mm) (h : fX4_readRoom x1 w = some (r, w')) : Ci l yX4_readRoom wsX4_readRoom rmX4_readRoom D c3 (encC c3 ad) gC [.ref (ad 30), .int x1] w sz r w' := by
  refine Ci.of (cc := cX4_readRoom) (maxL := 5) (encC_ok c3 ad) (by decide) rfl (Nat.le_of_ble_eq_true rfl) ?_
  intro p e s m below meth c A Q ls X hret hP hS hl
  exact bX4_readRoom_E X hret x1 w _ _ ls hP hS hl h
theorem iwX2_clear_X2 : ∀ w ∈ wsX20, w ∈ wsX2_clear := fun _ h => List.mem_cons_of_mem _ (List.mem_append_right _ h)
theorem lkX2_clear_9 : Cond.fieldLink RX2 9 "StuckDoor$Family" "people" "I" ∈ wsX2_clear := by decide +kernel
theorem lkX2_clear_19 : Cond.fieldLink RX2 19 "StuckDoor$Family" "sayings" "I" ∈ wsX2_clear := by decide +kernel
theorem lkX2_clear_31 : Cond.fieldLink RX2 31 "StuckDoor$Family" "stuckRooms" "I" ∈ wsX2_clear := by decide +kernel
def rmX2_clear_31 : Room := { frames := 0, cells := 0, slots := 0, locals := 0 }
def fX2_clear_31_E (w : Mm) : Option (Mm) := nm (sA w 31 0 0) (fun w_1 => nm (sA w_1 31 2 0) (fun w_2 => nm (sA w_2 31 6 0) (fun w_3 => some w_3)))
set_option maxRecDepth 20000 in
theorem bX2_clear_31_E {p : Program} {l : Launch} {e : Env} {s : State} {m : MethodId} {args : Array Value} {below : List Frame} {meth : Method} {c : Code} {Q : State → Prop} {D : va_G} {c3 : C3} {ad : Nat → Nat} {A : Nat → Prop} {w' : Mm} (X : Cx p s m args c cX2_clear 1 RX2 wsX2_clear D c3 (encC c3 ad) gC A) (hret : Rv p l e (rmX2_clear_31) s m args below meth c Q cX2_clear D (encC c3 ad) A w') : ∀ (w : Mm) (H : Heap) (locs : List Loc) (ls : Array Slot), va_P D vwCl ((encC c3 ad) w) H → va_S A s.heap H locs → lv_has ls 1 [(0, .ref (ad 31))] → fX2_clear_31_E w = some w' → W p l e (rmX2_clear_31) s m args below meth c H locs 0 0 Q (F0 m 0 ls []) := by
  have hx := X.1
  have hb := X.2.1
  have hml := X.2.2.1
  have hown := X.2.2.2.1
  have hts := X.2.2.2.2.1
  intro w H locs ls hP hS hl h
  unfold fX2_clear_31_E at h
  refine lv_aload_n hx hb dX2_clear_0 rfl (lv_at hl 0 rfl) ?_
  refine lv_iconst (v := 0) hx hb dX2_clear_1 (by decide) ?_
  refine x_put (v := .int 0) X hP hS (gC31 c3 ad w) rfl iwX2_clear_X2 tyX2 tyX2_ok nmX2 0 (by decide) lkX2_clear_9 rfl rfl rfl (Nat.le_of_ble_eq_true rfl) (pC31_0 c3 ad w 0) dX2_clear_2 (fun H locs hP hS => ?_)
  refine x_nmw h hP (fun w_1 h hP => ?_)
  refine lv_aload_n hx hb dX2_clear_5 rfl (lv_at hl 0 rfl) ?_
  refine lv_iconst (v := 0) hx hb dX2_clear_6 (by decide) ?_
  refine x_put (v := .int 0) X hP hS (gC31 c3 ad w_1) rfl iwX2_clear_X2 tyX2 tyX2_ok nmX2 2 (by decide) lkX2_clear_19 rfl rfl rfl (Nat.le_of_ble_eq_true rfl) (pC31_2 c3 ad w_1 0) dX2_clear_7 (fun H locs hP hS => ?_)
  refine x_nmw h hP (fun w_2 h hP => ?_)
  refine lv_aload_n hx hb dX2_clear_10 rfl (lv_at hl 0 rfl) ?_
  refine lv_iconst (v := 0) hx hb dX2_clear_11 (by decide) ?_
  refine x_put (v := .int 0) X hP hS (gC31 c3 ad w_2) rfl iwX2_clear_X2 tyX2 tyX2_ok nmX2 6 (by decide) lkX2_clear_31 rfl rfl rfl (Nat.le_of_ble_eq_true rfl) (pC31_6 c3 ad w_2 0) dX2_clear_12 (fun H locs hP hS => ?_)
  refine x_nmw h hP (fun w_3 h hP => ?_)
  obtain rfl := Option.some.inj h
  exact hret _ _ _ _ hP hS dX2_clear_15
def fX2_clear_31 (w : Mm) : Option (Mm) := fX2_clear_31_E w
theorem ctX2_clear_31 (l : Launch) (D : va_G) (c3 : C3) (ad : Nat → Nat) (w : Mm) (sz : Nat) (w' : Mm) (h : fX2_clear_31 w = some w') : Cv l yX2_clear wsX2_clear rmX2_clear_31 D c3 (encC c3 ad) gC [.ref (ad 31)] w sz w' := by
  refine Cv.of (cc := cX2_clear) (maxL := 1) (encC_ok c3 ad) (by decide) rfl (Nat.le_of_ble_eq_true rfl) ?_
  intro p e s m below meth c A Q ls X hret hP hS hl
  exact bX2_clear_31_E X hret w _ _ ls hP hS hl h

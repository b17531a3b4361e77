theorem iwX7_can_X7 : ∀ w ∈ wsX70, w ∈ wsX7_can := fun _ h => List.mem_cons_of_mem _ (List.mem_append_left _ (List.mem_append_right _ h))
theorem lkX7_can_27 : Cond.fieldLink RX7 27 "StuckDoor" "family" "LStuckDoor$Family;" ∈ wsX7_can := by decide +kernel
def rmX7_can : Room := { frames := 5, cells := 0, slots := 0, locals := 110 }
def fX7_can_E (x1 : Int32) (w : Mm) : Option (Int32) := bo (fX2_hasPerson_23 x1 w) (fun r_2 => (if r_2 = 0 then some (-1) else bo (fX2_whatCanBeSaid_23 x1 w) (fun r_6 => some r_6)))
set_option maxRecDepth 20000 in
theorem bX7_can_E {p : Program} {l : Launch} {e : Env} {s : State} {m : MethodId} {args : Array Value} {below : List Frame} {meth : Method} {c : Code} {Q : State → Prop} {D : va_G} {c3 : C3} {ad : Nat → Nat} {A : Nat → Prop} {r : Int32} {w : Mm} (X : Cx p s m args c cX7_can 2 RX7 wsX7_can D c3 (encC c3 ad) gC A) (hret : Ri p l e (rmX7_can) s m args below meth c Q cX7_can D (encC c3 ad) A r w) : ∀ (x1 : Int32) (H : Heap) (locs : List Loc) (ls : Array Slot), va_P D vwCl ((encC c3 ad) w) H → va_S A s.heap H locs → lv_has ls 2 [(0, .ref (ad 0)), (1, .int x1)] → fX7_can_E x1 w = some r → W p l e (rmX7_can) s m args below meth c H locs 0 0 Q (F0 m 0 ls []) := by
  have hx := X.1
  have hb := X.2.1
  have hml := X.2.2.1
  have hown := X.2.2.2.1
  have hts := X.2.2.2.2.1
  intro x1 H locs ls hP hS hl h
  unfold fX7_can_E at h
  refine lv_aload_n hx hb dX7_can_0 rfl (lv_at hl 0 rfl) ?_
  refine x_get (rest := []) X hP (gC0 c3 ad w) rfl iwX7_can_X7 3 (by decide) lkX7_can_27 rfl dX7_can_1 ?_
  refine lv_iload_n hx hb dX7_can_4 rfl (lv_at hl 1 rfl) ?_
  obtain ⟨r_2, e_1, h⟩ := bo_s h
  refine x_goi X hS (x_runV (As := [.int x1]) (rest := []) X gC_ok hP hS (ctX2_hasPerson_23 l D c3 ad w _ x1 _ e_1) (cwV 1 hts gX7_can_X2_hasPerson rfl rfl rfl (by decide +kernel) ⟨by decide, by decide⟩) (gC23 c3 ad w) rfl rfl rfl hl.1 rfl (Nat.le_of_ble_eq_true rfl) dX7_can_5) (fun H locs hP hS => ?_)
  refine lv_if_eq (tgt := 22) hx hb dX7_can_8 (by decide) (fun c_4 => ?_) (fun c_4 => ?_)
  · replace h := it_p c_4 h
    refine lv_iconst (v := (-1)) hx hb dX7_can_22 (by decide) ?_
    obtain rfl := Option.some.inj h
    exact hret _ _ _ _ hP hS dX7_can_23
  · replace h := it_n c_4 h
    refine lv_aload_n hx hb dX7_can_11 rfl (lv_at hl 0 rfl) ?_
    refine x_get (rest := []) X hP (gC0 c3 ad w) rfl iwX7_can_X7 3 (by decide) lkX7_can_27 rfl dX7_can_12 ?_
    refine lv_iload_n hx hb dX7_can_15 rfl (lv_at hl 1 rfl) ?_
    obtain ⟨r_6, e_5, h⟩ := bo_s h
    refine x_goi X hS (x_runV (As := [.int x1]) (rest := []) X gC_ok hP hS (ctX2_whatCanBeSaid_23 l D c3 ad w _ x1 _ e_5) (cwV 1 hts gX7_can_X2_whatCanBeSaid rfl rfl rfl (by decide +kernel) ⟨by decide, by decide⟩) (gC23 c3 ad w) rfl rfl rfl hl.1 rfl (Nat.le_of_ble_eq_true rfl) dX7_can_16) (fun H locs hP hS => ?_)
    refine lv_goto (tgt := 23) hx hb dX7_can_19 (by decide) ?_
    obtain rfl := Option.some.inj h
    exact hret _ _ _ _ hP hS dX7_can_23
def fX7_can (x1 : Int32) (w : Mm) : Option (Int32) := fX7_can_E x1 w
theorem ctX7_can (l : Launch) (D : va_G) (c3 : C3) (ad : Nat → Nat) (w : Mm) (sz : Nat) (x1 : Int32) (r : Int32) (h : fX7_can x1 w = some r) : Ci l yX7_can wsX7_can rmX7_can D c3 (encC c3 ad) gC [.ref (ad 0), .int x1] w sz r w := by
  refine Ci.of (cc := cX7_can) (maxL := 2) (encC_ok c3 ad) (by decide) rfl (Nat.le_of_ble_eq_true rfl) ?_
  intro p e s m below meth c A Q ls X hret hP hS hl
  exact bX7_can_E X hret x1 _ _ ls hP hS hl h
theorem iwX7_over_X7 : ∀ w ∈ wsX70, w ∈ wsX7_over := fun _ h => List.mem_cons_of_mem _ (List.mem_append_left _ (List.mem_append_right _ h))
theorem lkX7_over_27 : Cond.fieldLink RX7 27 "StuckDoor" "family" "LStuckDoor$Family;" ∈ wsX7_over := by decide +kernel
def rmX7_over : Room := { frames := 5, cells := 0, slots := 0, locals := 110 }
def fX7_over_E (x1 : Int32) (w : Mm) : Option (Int32) := bo (fX2_hasSaying_23 x1 w) (fun r_2 => (if r_2 = 0 then some (-1) else bo (fX2_whoWouldBeOver_23 x1 w) (fun r_6 => some r_6)))
set_option maxRecDepth 20000 in
theorem bX7_over_E {p : Program} {l : Launch} {e : Env} {s : State} {m : MethodId} {args : Array Value} {below : List Frame} {meth : Method} {c : Code} {Q : State → Prop} {D : va_G} {c3 : C3} {ad : Nat → Nat} {A : Nat → Prop} {r : Int32} {w : Mm} (X : Cx p s m args c cX7_over 2 RX7 wsX7_over D c3 (encC c3 ad) gC A) (hret : Ri p l e (rmX7_over) s m args below meth c Q cX7_over D (encC c3 ad) A r w) : ∀ (x1 : Int32) (H : Heap) (locs : List Loc) (ls : Array Slot), va_P D vwCl ((encC c3 ad) w) H → va_S A s.heap H locs → lv_has ls 2 [(0, .ref (ad 0)), (1, .int x1)] → fX7_over_E x1 w = some r → W p l e (rmX7_over) s m args below meth c H locs 0 0 Q (F0 m 0 ls []) := by
  have hx := X.1
  have hb := X.2.1
  have hml := X.2.2.1
  have hown := X.2.2.2.1
  have hts := X.2.2.2.2.1
  intro x1 H locs ls hP hS hl h
  unfold fX7_over_E at h
  refine lv_aload_n hx hb dX7_over_0 rfl (lv_at hl 0 rfl) ?_
  refine x_get (rest := []) X hP (gC0 c3 ad w) rfl iwX7_over_X7 3 (by decide) lkX7_over_27 rfl dX7_over_1 ?_
  refine lv_iload_n hx hb dX7_over_4 rfl (lv_at hl 1 rfl) ?_
  obtain ⟨r_2, e_1, h⟩ := bo_s h
  refine x_goi X hS (x_runV (As := [.int x1]) (rest := []) X gC_ok hP hS (ctX2_hasSaying_23 l D c3 ad w _ x1 _ e_1) (cwV 1 hts gX7_over_X2_hasSaying rfl rfl rfl (by decide +kernel) ⟨by decide, by decide⟩) (gC23 c3 ad w) rfl rfl rfl hl.1 rfl (Nat.le_of_ble_eq_true rfl) dX7_over_5) (fun H locs hP hS => ?_)
  refine lv_if_eq (tgt := 22) hx hb dX7_over_8 (by decide) (fun c_4 => ?_) (fun c_4 => ?_)
  · replace h := it_p c_4 h
    refine lv_iconst (v := (-1)) hx hb dX7_over_22 (by decide) ?_
    obtain rfl := Option.some.inj h
    exact hret _ _ _ _ hP hS dX7_over_23
  · replace h := it_n c_4 h
    refine lv_aload_n hx hb dX7_over_11 rfl (lv_at hl 0 rfl) ?_
    refine x_get (rest := []) X hP (gC0 c3 ad w) rfl iwX7_over_X7 3 (by decide) lkX7_over_27 rfl dX7_over_12 ?_
    refine lv_iload_n hx hb dX7_over_15 rfl (lv_at hl 1 rfl) ?_
    obtain ⟨r_6, e_5, h⟩ := bo_s h
    refine x_goi X hS (x_runV (As := [.int x1]) (rest := []) X gC_ok hP hS (ctX2_whoWouldBeOver_23 l D c3 ad w _ x1 _ e_5) (cwV 1 hts gX7_over_X2_whoWouldBeOver rfl rfl rfl (by decide +kernel) ⟨by decide, by decide⟩) (gC23 c3 ad w) rfl rfl rfl hl.1 rfl (Nat.le_of_ble_eq_true rfl) dX7_over_16) (fun H locs hP hS => ?_)
    refine lv_goto (tgt := 23) hx hb dX7_over_19 (by decide) ?_
    obtain rfl := Option.some.inj h
    exact hret _ _ _ _ hP hS dX7_over_23
def fX7_over (x1 : Int32) (w : Mm) : Option (Int32) := fX7_over_E x1 w
theorem ctX7_over (l : Launch) (D : va_G) (c3 : C3) (ad : Nat → Nat) (w : Mm) (sz : Nat) (x1 : Int32) (r : Int32) (h : fX7_over x1 w = some r) : Ci l yX7_over wsX7_over rmX7_over D c3 (encC c3 ad) gC [.ref (ad 0), .int x1] w sz r w := by
  refine Ci.of (cc := cX7_over) (maxL := 2) (encC_ok c3 ad) (by decide) rfl (Nat.le_of_ble_eq_true rfl) ?_
  intro p e s m below meth c A Q ls X hret hP hS hl
  exact bX7_over_E X hret x1 _ _ ls hP hS hl h
theorem iwX7_talk_X2 : ∀ w ∈ wsX20, w ∈ wsX7_talk := fun _ h => List.mem_cons_of_mem _ (List.mem_append_right _ h)
theorem iwX7_talk_X5 : ∀ w ∈ wsX50, w ∈ wsX7_talk := fun _ h => List.mem_cons_of_mem _ (List.mem_append_left _ (List.mem_append_right _ h))
theorem iwX7_talk_X7 : ∀ w ∈ wsX70, w ∈ wsX7_talk := fun _ h => List.mem_cons_of_mem _ (List.mem_append_left _ (List.mem_append_left _ (List.mem_append_right _ h)))
theorem lkX7_talk_14 : Cond.fieldLink RX7 14 "StuckDoor" "ints" "LStuckDoor$Rows;" ∈ wsX7_talk := by decide +kernel
theorem lkX7_talk_27 : Cond.fieldLink RX7 27 "StuckDoor" "family" "LStuckDoor$Family;" ∈ wsX7_talk := by decide +kernel
theorem lkX7_talk_60 : Cond.fieldLink RX7 60 "StuckDoor" "askedLast" "I" ∈ wsX7_talk := by decide +kernel
theorem lkX7_talk_86 : Cond.fieldLink RX7 86 "StuckDoor$Rows" "places" "[[I" ∈ wsX7_talk := by decide +kernel
theorem lkX7_talk_94 : Cond.fieldLink RX7 94 "StuckDoor$Rows" "sizes" "[I" ∈ wsX7_talk := by decide +kernel
theorem lkX7_talk_168 : Cond.fieldLink RX7 168 "StuckDoor$Family" "deeds" "I" ∈ wsX7_talk := by decide +kernel
theorem lkX7_talk_178 : Cond.fieldLink RX7 178 "StuckDoor$Family" "strain" "I" ∈ wsX7_talk := by decide +kernel
def rmX7_talk : Room := { frames := 6, cells := 0, slots := 0, locals := 132 }
def fX7_talk_194 (x4 : Int32) (w : Mm) : Option (Int32 × Mm) := nm (sA w 0 9 (w.1 23 7)) (fun w_1 => bo (fX2_goBackTo_23 (w_1.1 23 11) w_1) (fun w_4 => some (x4, w_4)))
set_option maxRecDepth 20000 in
theorem bX7_talk_194 {p : Program} {l : Launch} {e : Env} {s : State} {m : MethodId} {args : Array Value} {below : List Frame} {meth : Method} {c : Code} {Q : State → Prop} {D : va_G} {c3 : C3} {ad : Nat → Nat} {A : Nat → Prop} {r : Int32} {w' : Mm} (X : Cx p s m args c cX7_talk 6 RX7 wsX7_talk D c3 (encC c3 ad) gC A) (hret : Ri p l e (rmX7_talk) s m args below meth c Q cX7_talk D (encC c3 ad) A r w') : ∀ (x4 : Int32) (w : Mm) (H : Heap) (locs : List Loc) (ls : Array Slot), va_P D vwCl ((encC c3 ad) w) H → va_S A s.heap H locs → lv_has ls 6 [(0, .ref (ad 0)), (4, .int x4)] → fX7_talk_194 x4 w = some (r, w') → W p l e (rmX7_talk) s m args below meth c H locs 0 0 Q (F0 m 194 ls []) := by
  have hx := X.1
  have hb := X.2.1
  have hml := X.2.2.1
  have hown := X.2.2.2.1
  have hts := X.2.2.2.2.1
  intro x4 w H locs ls hP hS hl h
  unfold fX7_talk_194 at h
  refine lv_aload_n hx hb dX7_talk_194 rfl (lv_at hl 0 rfl) ?_
  refine lv_aload_n hx hb dX7_talk_195 rfl (lv_at hl 0 rfl) ?_
  refine x_get (rest := [.ref (ad 0)]) X hP (gC0 c3 ad w) rfl iwX7_talk_X7 3 (by decide) lkX7_talk_27 rfl dX7_talk_196 ?_
  refine x_get (rest := [.ref (ad 0)]) X hP (gC23 c3 ad w) rfl iwX7_talk_X2 7 (by decide) lkX7_talk_178 rfl dX7_talk_199 ?_
  refine x_put (v := .int (w.1 23 7)) X hP hS (gC0 c3 ad w) rfl iwX7_talk_X7 tyX7 tyX7_ok nmX7 9 (by decide) lkX7_talk_60 rfl rfl rfl (Nat.le_of_ble_eq_true rfl) (pC0_9 c3 ad w (w.1 23 7)) dX7_talk_202 (fun H locs hP hS => ?_)
  refine x_nmw h hP (fun w_1 h hP => ?_)
  refine lv_aload_n hx hb dX7_talk_205 rfl (lv_at hl 0 rfl) ?_
  refine x_get (rest := []) X hP (gC0 c3 ad w_1) rfl iwX7_talk_X7 3 (by decide) lkX7_talk_27 rfl dX7_talk_206 ?_
  refine lv_aload_n hx hb dX7_talk_209 rfl (lv_at hl 0 rfl) ?_
  refine x_get (rest := [.ref (ad 23)]) X hP (gC0 c3 ad w_1) rfl iwX7_talk_X7 3 (by decide) lkX7_talk_27 rfl dX7_talk_210 ?_
  refine x_get (rest := [.ref (ad 23)]) X hP (gC23 c3 ad w_1) rfl iwX7_talk_X2 11 (by decide) lkX7_talk_168 rfl dX7_talk_213 ?_
  obtain ⟨w_4, e_2, h⟩ := bo_s h
  refine x_gov X hS (x_runV (As := [.int (w_1.1 23 11)]) (rest := []) X gC_ok hP hS (ctX2_goBackTo_23 l D c3 ad w_1 _ (w_1.1 23 11) _ e_2) (cwV 1 hts gX7_talk_X2_goBackTo rfl rfl rfl (by decide +kernel) ⟨by decide, by decide⟩) (gC23 c3 ad w_1) rfl rfl rfl hl.1 rfl (Nat.le_of_ble_eq_true rfl) dX7_talk_216) (fun H locs hP hS => ?_)
  refine lv_iload hx hb dX7_talk_219 (lv_at hl 1 rfl) ?_
  obtain ⟨rfl, rfl⟩ := Prod.mk.inj (Option.some.inj h)
  exact hret _ _ _ _ hP hS dX7_talk_221
def fX7_talk_150 (x2 : Int32) (q3 : Nat) : Nat → Int32 → Int32 → Mm → Option (Int32 × Mm)
  | 0, _, _, _ => none
  | n + 1, x4, x5, w => (if x2 ≤ (x5 + 1) then fX7_talk_194 x4 w else bo (fX2_isAnyOver_23 w) (fun r_7 => (if r_7 = 0 then gd (4 ≤ q3 ∧ q3 < 10) (gd (inb x5 40 = true) (gd (inb (x5 + 1) 40 = true) (bo (fX2_utter_23 (w.1 q3 x5.toNatClampNeg) (w.1 q3 (x5 + 1).toNatClampNeg) w) (fun w_15 => fX7_talk_150 x2 q3 n (x4 + 1) (x5 + 2) w_15)))) else fX7_talk_194 x4 w)))
set_option maxRecDepth 20000 in
theorem bX7_talk_150 {p : Program} {l : Launch} {e : Env} {s : State} {m : MethodId} {args : Array Value} {below : List Frame} {meth : Method} {c : Code} {Q : State → Prop} {D : va_G} {c3 : C3} {ad : Nat → Nat} {A : Nat → Prop} {r : Int32} {w' : Mm} (X : Cx p s m args c cX7_talk 6 RX7 wsX7_talk D c3 (encC c3 ad) gC A) (hret : Ri p l e (rmX7_talk) s m args below meth c Q cX7_talk D (encC c3 ad) A r w') : ∀ (x2 : Int32) (q3 : Nat) (n : Nat) (x4 : Int32) (x5 : Int32) (w : Mm) (H : Heap) (locs : List Loc) (ls : Array Slot), va_P D vwCl ((encC c3 ad) w) H → va_S A s.heap H locs → lv_has ls 6 [(0, .ref (ad 0)), (2, .int x2), (3, .ref (ad q3)), (4, .int x4), (5, .int x5)] → fX7_talk_150 x2 q3 n x4 x5 w = some (r, w') → W p l e (rmX7_talk) s m args below meth c H locs 0 0 Q (F0 m 150 ls []) := by
  have hx := X.1
  have hb := X.2.1
  have hml := X.2.2.1
  have hown := X.2.2.2.1
  have hts := X.2.2.2.2.1
  intro x2 q3 n
  induction n with
  | zero =>
    intro x4 x5 w H locs ls hP hS hl h
    exact absurd h (by simp [fX7_talk_150])
  | succ n ih =>
    intro x4 x5 w H locs ls hP hS hl h
    rw [fX7_talk_150] at h
    refine lv_iload hx hb dX7_talk_150 (lv_at hl 4 rfl) ?_
    refine lv_iconst (v := 1) hx hb dX7_talk_152 (by decide) ?_
    refine lv_iadd hx hb dX7_talk_153 ?_
    refine lv_iload_n hx hb dX7_talk_154 rfl (lv_at hl 1 rfl) ?_
    refine lv_icmp_ge (tgt := 194) hx hb dX7_talk_155 (by decide) (fun c_5 => ?_) (fun c_5 => ?_)
    · replace h := it_p c_5 h
      exact bX7_talk_194 X hret x4 w _ _ _ hP hS (lv_sub hl [0, 3] rfl) h
    · replace h := it_n c_5 h
      refine lv_aload_n hx hb dX7_talk_158 rfl (lv_at hl 0 rfl) ?_
      refine x_get (rest := []) X hP (gC0 c3 ad w) rfl iwX7_talk_X7 3 (by decide) lkX7_talk_27 rfl dX7_talk_159 ?_
      obtain ⟨r_7, e_6, h⟩ := bo_s h
      refine x_goi X hS (x_runV (As := []) (rest := []) X gC_ok hP hS (ctX2_isAnyOver_23 l D c3 ad w _ _ e_6) (cwV 0 hts gX7_talk_X2_isAnyOver rfl rfl rfl (by decide +kernel) ⟨by decide, by decide⟩) (gC23 c3 ad w) rfl rfl rfl hl.1 rfl (Nat.le_of_ble_eq_true rfl) dX7_talk_162) (fun H locs hP hS => ?_)
      refine lv_if_ne (tgt := 194) hx hb dX7_talk_165 (by decide) (fun c_9 => ?_) (fun c_9 => ?_)
      · replace h := it_n c_9 h
        exact bX7_talk_194 X hret x4 w _ _ _ hP hS (lv_sub hl [0, 3] rfl) h
      · replace h := it_p c_9 h
        refine lv_aload_n hx hb dX7_talk_168 rfl (lv_at hl 0 rfl) ?_
        refine x_get (rest := []) X hP (gC0 c3 ad w) rfl iwX7_talk_X7 3 (by decide) lkX7_talk_27 rfl dX7_talk_169 ?_
        refine lv_aload_n hx hb dX7_talk_172 rfl (lv_at hl 2 rfl) ?_
        refine lv_iload hx hb dX7_talk_173 (lv_at hl 4 rfl) ?_
        obtain ⟨g_10, h⟩ := gd_s h
        obtain ⟨g_11, h⟩ := gd_s h
        refine x_iald X hP (gCrI c3 ad w g_10) g_11 dX7_talk_175 ?_
        refine lv_aload_n hx hb dX7_talk_176 rfl (lv_at hl 2 rfl) ?_
        refine lv_iload hx hb dX7_talk_177 (lv_at hl 4 rfl) ?_
        refine lv_iconst (v := 1) hx hb dX7_talk_179 (by decide) ?_
        refine lv_iadd hx hb dX7_talk_180 ?_
        obtain ⟨g_12, h⟩ := gd_s h
        refine x_iald X hP (gCrI c3 ad w g_10) g_12 dX7_talk_181 ?_
        obtain ⟨w_15, e_13, h⟩ := bo_s h
        refine x_gov X hS (x_runV (As := [.int (w.1 q3 x5.toNatClampNeg), .int (w.1 q3 (x5 + 1).toNatClampNeg)]) (rest := []) X gC_ok hP hS (ctX2_utter_23 l D c3 ad w _ (w.1 q3 x5.toNatClampNeg) (w.1 q3 (x5 + 1).toNatClampNeg) _ e_13) (cwV 2 hts gX7_talk_X2_utter rfl rfl rfl (by decide +kernel) ⟨by decide, by decide⟩) (gC23 c3 ad w) rfl rfl rfl hl.1 rfl (Nat.le_of_ble_eq_true rfl) dX7_talk_182) (fun H locs hP hS => ?_)
        refine lv_iinc (v := (x4 + 1)) (lv' := [(4, .int (x4 + 1)), (0, .ref (ad 0)), (2, .int x2), (3, .ref (ad q3)), (5, .int x5)]) hx hb dX7_talk_185 hl (k := 3) rfl rfl (by decide) rfl (fun ls hl => ?_)
        refine lv_iinc (v := (x5 + 2)) (lv' := [(5, .int (x5 + 2)), (4, .int (x4 + 1)), (0, .ref (ad 0)), (2, .int x2), (3, .ref (ad q3))]) hx hb dX7_talk_188 hl (k := 4) rfl rfl (by decide) rfl (fun ls hl => ?_)
        refine lv_goto (tgt := 150) hx hb dX7_talk_191 (by decide) ?_
        exact ih (x4 + 1) (x5 + 2) w_15 _ _ _ hP hS (lv_sub hl [2, 3, 4, 1, 0] rfl) h
def fX7_talk_132 (w : Mm) : Option (Int32 × Mm) := bd (fX7_refuse 3 w) (fun r_17 w_18 => some (r_17, w_18))
set_option maxRecDepth 20000 in
theorem bX7_talk_132 {p : Program} {l : Launch} {e : Env} {s : State} {m : MethodId} {args : Array Value} {below : List Frame} {meth : Method} {c : Code} {Q : State → Prop} {D : va_G} {c3 : C3} {ad : Nat → Nat} {A : Nat → Prop} {r : Int32} {w' : Mm} (X : Cx p s m args c cX7_talk 6 RX7 wsX7_talk D c3 (encC c3 ad) gC A) (hret : Ri p l e (rmX7_talk) s m args below meth c Q cX7_talk D (encC c3 ad) A r w') : ∀ (w : Mm) (H : Heap) (locs : List Loc) (ls : Array Slot), va_P D vwCl ((encC c3 ad) w) H → va_S A s.heap H locs → lv_has ls 6 [(0, .ref (ad 0))] → fX7_talk_132 w = some (r, w') → W p l e (rmX7_talk) s m args below meth c H locs 0 0 Q (F0 m 132 ls []) := by
  have hx := X.1
  have hb := X.2.1
  have hml := X.2.2.1
  have hown := X.2.2.2.1
  have hts := X.2.2.2.2.1
  intro w H locs ls hP hS hl h
  unfold fX7_talk_132 at h
  refine lv_aload_n hx hb dX7_talk_132 rfl (lv_at hl 0 rfl) ?_
  refine lv_iconst (v := 3) hx hb dX7_talk_133 (by decide) ?_
  obtain ⟨r_17, w_18, e_16, h⟩ := bd_s h
  refine x_goi X hS (x_runV (As := [.int 3]) (rest := []) X gC_ok hP hS (ctX7_refuse l D c3 ad w _ 3 _ _ e_16) (cwV 1 hts gX7_talk_X7_refuse rfl rfl rfl (by decide +kernel) ⟨by decide, by decide⟩) (gC0 c3 ad w) rfl rfl rfl hl.1 rfl (Nat.le_of_ble_eq_true rfl) dX7_talk_134) (fun H locs hP hS => ?_)
  obtain ⟨rfl, rfl⟩ := Prod.mk.inj (Option.some.inj h)
  exact hret _ _ _ _ hP hS dX7_talk_137
def fX7_talk_94 (x2 : Int32) (q3 : Nat) : Nat → Int32 → Mm → Option (Int32 × Mm)
  | 0, _, _ => none
  | n + 1, x4, w => (if x2 ≤ (x4 + 1) then fX7_talk_150 x2 q3 FU 0 0 w else gd (4 ≤ q3 ∧ q3 < 10) (gd (inb x4 40 = true) (bo (fX2_hasPerson_23 (w.1 q3 x4.toNatClampNeg) w) (fun r_23 => (if r_23 = 0 then fX7_talk_132 w else gd (inb (x4 + 1) 40 = true) (bo (fX2_hasSaying_23 (w.1 q3 (x4 + 1).toNatClampNeg) w) (fun r_28 => (if r_28 = 0 then fX7_talk_132 w else fX7_talk_94 x2 q3 n (x4 + 2) w))))))))
set_option maxRecDepth 20000 in
theorem bX7_talk_94 {p : Program} {l : Launch} {e : Env} {s : State} {m : MethodId} {args : Array Value} {below : List Frame} {meth : Method} {c : Code} {Q : State → Prop} {D : va_G} {c3 : C3} {ad : Nat → Nat} {A : Nat → Prop} {r : Int32} {w' : Mm} (X : Cx p s m args c cX7_talk 6 RX7 wsX7_talk D c3 (encC c3 ad) gC A) (hret : Ri p l e (rmX7_talk) s m args below meth c Q cX7_talk D (encC c3 ad) A r w') : ∀ (x2 : Int32) (q3 : Nat) (n : Nat) (x4 : Int32) (w : Mm) (H : Heap) (locs : List Loc) (ls : Array Slot), va_P D vwCl ((encC c3 ad) w) H → va_S A s.heap H locs → lv_has ls 6 [(0, .ref (ad 0)), (2, .int x2), (3, .ref (ad q3)), (4, .int x4)] → fX7_talk_94 x2 q3 n x4 w = some (r, w') → W p l e (rmX7_talk) s m args below meth c H locs 0 0 Q (F0 m 94 ls []) := by
  have hx := X.1
  have hb := X.2.1
  have hml := X.2.2.1
  have hown := X.2.2.2.1
  have hts := X.2.2.2.2.1
  intro x2 q3 n
  induction n with
  | zero =>
    intro x4 w H locs ls hP hS hl h
    exact absurd h (by simp [fX7_talk_94])
  | succ n ih =>
    intro x4 w H locs ls hP hS hl h
    rw [fX7_talk_94] at h
    refine lv_iload hx hb dX7_talk_94 (lv_at hl 3 rfl) ?_
    refine lv_iconst (v := 1) hx hb dX7_talk_96 (by decide) ?_
    refine lv_iadd hx hb dX7_talk_97 ?_
    refine lv_iload_n hx hb dX7_talk_98 rfl (lv_at hl 1 rfl) ?_
    refine lv_icmp_ge (tgt := 144) hx hb dX7_talk_99 (by decide) (fun c_19 => ?_) (fun c_19 => ?_)
    · replace h := it_p c_19 h
      refine lv_iconst (v := 0) hx hb dX7_talk_144 (by decide) ?_
      refine lv_istore (lv' := [(4, .int 0), (0, .ref (ad 0)), (2, .int x2), (3, .ref (ad q3))]) hx hb dX7_talk_145 hl (by decide) rfl (fun ls hl => ?_)
      refine lv_iconst (v := 0) hx hb dX7_talk_147 (by decide) ?_
      refine lv_istore (lv' := [(5, .int 0), (4, .int 0), (0, .ref (ad 0)), (2, .int x2), (3, .ref (ad q3))]) hx hb dX7_talk_148 hl (by decide) rfl (fun ls hl => ?_)
      exact bX7_talk_150 X hret x2 q3 FU 0 0 w _ _ _ hP hS (lv_sub hl [2, 3, 4, 1, 0] rfl) h
    · replace h := it_n c_19 h
      refine lv_aload_n hx hb dX7_talk_102 rfl (lv_at hl 0 rfl) ?_
      refine x_get (rest := []) X hP (gC0 c3 ad w) rfl iwX7_talk_X7 3 (by decide) lkX7_talk_27 rfl dX7_talk_103 ?_
      refine lv_aload_n hx hb dX7_talk_106 rfl (lv_at hl 2 rfl) ?_
      refine lv_iload hx hb dX7_talk_107 (lv_at hl 3 rfl) ?_
      obtain ⟨g_20, h⟩ := gd_s h
      obtain ⟨g_21, h⟩ := gd_s h
      refine x_iald X hP (gCrI c3 ad w g_20) g_21 dX7_talk_109 ?_
      obtain ⟨r_23, e_22, h⟩ := bo_s h
      refine x_goi X hS (x_runV (As := [.int (w.1 q3 x4.toNatClampNeg)]) (rest := []) X gC_ok hP hS (ctX2_hasPerson_23 l D c3 ad w _ (w.1 q3 x4.toNatClampNeg) _ e_22) (cwV 1 hts gX7_talk_X2_hasPerson rfl rfl rfl (by decide +kernel) ⟨by decide, by decide⟩) (gC23 c3 ad w) rfl rfl rfl hl.1 rfl (Nat.le_of_ble_eq_true rfl) dX7_talk_110) (fun H locs hP hS => ?_)
      refine lv_if_eq (tgt := 132) hx hb dX7_talk_113 (by decide) (fun c_25 => ?_) (fun c_25 => ?_)
      · replace h := it_p c_25 h
        exact bX7_talk_132 X hret w _ _ _ hP hS (lv_sub hl [0] rfl) h
      · replace h := it_n c_25 h
        refine lv_aload_n hx hb dX7_talk_116 rfl (lv_at hl 0 rfl) ?_
        refine x_get (rest := []) X hP (gC0 c3 ad w) rfl iwX7_talk_X7 3 (by decide) lkX7_talk_27 rfl dX7_talk_117 ?_
        refine lv_aload_n hx hb dX7_talk_120 rfl (lv_at hl 2 rfl) ?_
        refine lv_iload hx hb dX7_talk_121 (lv_at hl 3 rfl) ?_
        refine lv_iconst (v := 1) hx hb dX7_talk_123 (by decide) ?_
        refine lv_iadd hx hb dX7_talk_124 ?_
        obtain ⟨g_26, h⟩ := gd_s h
        refine x_iald X hP (gCrI c3 ad w g_20) g_26 dX7_talk_125 ?_
        obtain ⟨r_28, e_27, h⟩ := bo_s h
        refine x_goi X hS (x_runV (As := [.int (w.1 q3 (x4 + 1).toNatClampNeg)]) (rest := []) X gC_ok hP hS (ctX2_hasSaying_23 l D c3 ad w _ (w.1 q3 (x4 + 1).toNatClampNeg) _ e_27) (cwV 1 hts gX7_talk_X2_hasSaying rfl rfl rfl (by decide +kernel) ⟨by decide, by decide⟩) (gC23 c3 ad w) rfl rfl rfl hl.1 rfl (Nat.le_of_ble_eq_true rfl) dX7_talk_126) (fun H locs hP hS => ?_)
        refine lv_if_ne (tgt := 138) hx hb dX7_talk_129 (by decide) (fun c_30 => ?_) (fun c_30 => ?_)
        · replace h := it_n c_30 h
          refine lv_iinc (v := (x4 + 2)) (lv' := [(4, .int (x4 + 2)), (0, .ref (ad 0)), (2, .int x2), (3, .ref (ad q3))]) hx hb dX7_talk_138 hl (k := 3) rfl rfl (by decide) rfl (fun ls hl => ?_)
          refine lv_goto (tgt := 94) hx hb dX7_talk_141 (by decide) ?_
          exact ih (x4 + 2) w _ _ _ hP hS (lv_sub hl [1, 2, 3, 0] rfl) h
        · replace h := it_p c_30 h
          exact bX7_talk_132 X hret w _ _ _ hP hS (lv_sub hl [0] rfl) h
def fX7_talk_75 (w : Mm) : Option (Int32 × Mm) := bd (fX7_refuse 5 w) (fun r_32 w_33 => some (r_32, w_33))
set_option maxRecDepth 20000 in
theorem bX7_talk_75 {p : Program} {l : Launch} {e : Env} {s : State} {m : MethodId} {args : Array Value} {below : List Frame} {meth : Method} {c : Code} {Q : State → Prop} {D : va_G} {c3 : C3} {ad : Nat → Nat} {A : Nat → Prop} {r : Int32} {w' : Mm} (X : Cx p s m args c cX7_talk 6 RX7 wsX7_talk D c3 (encC c3 ad) gC A) (hret : Ri p l e (rmX7_talk) s m args below meth c Q cX7_talk D (encC c3 ad) A r w') : ∀ (w : Mm) (H : Heap) (locs : List Loc) (ls : Array Slot), va_P D vwCl ((encC c3 ad) w) H → va_S A s.heap H locs → lv_has ls 6 [(0, .ref (ad 0))] → fX7_talk_75 w = some (r, w') → W p l e (rmX7_talk) s m args below meth c H locs 0 0 Q (F0 m 75 ls []) := by
  have hx := X.1
  have hb := X.2.1
  have hml := X.2.2.1
  have hown := X.2.2.2.1
  have hts := X.2.2.2.2.1
  intro w H locs ls hP hS hl h
  unfold fX7_talk_75 at h
  refine lv_aload_n hx hb dX7_talk_75 rfl (lv_at hl 0 rfl) ?_
  refine lv_iconst (v := 5) hx hb dX7_talk_76 (by decide) ?_
  obtain ⟨r_32, w_33, e_31, h⟩ := bd_s h
  refine x_goi X hS (x_runV (As := [.int 5]) (rest := []) X gC_ok hP hS (ctX7_refuse l D c3 ad w _ 5 _ _ e_31) (cwV 1 hts gX7_talk_X7_refuse rfl rfl rfl (by decide +kernel) ⟨by decide, by decide⟩) (gC0 c3 ad w) rfl rfl rfl hl.1 rfl (Nat.le_of_ble_eq_true rfl) dX7_talk_77) (fun H locs hP hS => ?_)
  obtain ⟨rfl, rfl⟩ := Prod.mk.inj (Option.some.inj h)
  exact hret _ _ _ _ hP hS dX7_talk_80
def fX7_talk_E (x1 : Int32) (w : Mm) : Option (Int32 × Mm) := bo (fX5_isNumber_1 x1 w) (fun r_35 => (if r_35 = 0 then some ((-1), w) else bo (fX2_isAnyOver_23 w) (fun r_39 => (if r_39 = 0 then bo (fX2_isEmpty_23 w) (fun r_43 => (if r_43 = 0 then bo (fX5_isThere_1 x1 w) (fun r_47 => (if r_47 = 0 then bd (fX7_refuse 1 w) (fun r_56 w_57 => some (r_56, w_57)) else gd (inb x1 6 = true) (nm (w.1 3 x1.toNatClampNeg) (fun x2_51 => (if (x2_51 - x2_51 / 2 * 2) = 0 then (if x2_51 ≤ 20 then fX7_talk_94 x2_51 (4 + x1.toNatClampNeg) FU 0 w else fX7_talk_75 w) else fX7_talk_75 w))))) else some ((-4), w))) else some ((-4), w)))))
set_option maxRecDepth 20000 in
theorem bX7_talk_E {p : Program} {l : Launch} {e : Env} {s : State} {m : MethodId} {args : Array Value} {below : List Frame} {meth : Method} {c : Code} {Q : State → Prop} {D : va_G} {c3 : C3} {ad : Nat → Nat} {A : Nat → Prop} {r : Int32} {w' : Mm} (X : Cx p s m args c cX7_talk 6 RX7 wsX7_talk D c3 (encC c3 ad) gC A) (hret : Ri p l e (rmX7_talk) s m args below meth c Q cX7_talk D (encC c3 ad) A r w') : ∀ (x1 : Int32) (w : Mm) (H : Heap) (locs : List Loc) (ls : Array Slot), va_P D vwCl ((encC c3 ad) w) H → va_S A s.heap H locs → lv_has ls 6 [(0, .ref (ad 0)), (1, .int x1)] → fX7_talk_E x1 w = some (r, w') → W p l e (rmX7_talk) s m args below meth c H locs 0 0 Q (F0 m 0 ls []) := by
  have hx := X.1
  have hb := X.2.1
  have hml := X.2.2.1
  have hown := X.2.2.2.1
  have hts := X.2.2.2.2.1
  intro x1 w H locs ls hP hS hl h
  unfold fX7_talk_E at h
  refine lv_aload_n hx hb dX7_talk_0 rfl (lv_at hl 0 rfl) ?_
  refine x_get (rest := []) X hP (gC0 c3 ad w) rfl iwX7_talk_X7 0 (by decide) lkX7_talk_14 rfl dX7_talk_1 ?_
  refine lv_iload_n hx hb dX7_talk_4 rfl (lv_at hl 1 rfl) ?_
  obtain ⟨r_35, e_34, h⟩ := bo_s h
  refine x_goi X hS (x_runV (As := [.int x1]) (rest := []) X gC_ok hP hS (ctX5_isNumber_1 l D c3 ad w _ x1 _ e_34) (cwV 1 hts gX7_talk_X5_isNumber rfl rfl rfl (by decide +kernel) ⟨by decide, by decide⟩) (gC1 c3 ad w) rfl rfl rfl hl.1 rfl (Nat.le_of_ble_eq_true rfl) dX7_talk_5) (fun H locs hP hS => ?_)
  refine lv_if_ne (tgt := 13) hx hb dX7_talk_8 (by decide) (fun c_37 => ?_) (fun c_37 => ?_)
  · replace h := it_n c_37 h
    refine lv_aload_n hx hb dX7_talk_13 rfl (lv_at hl 0 rfl) ?_
    refine x_get (rest := []) X hP (gC0 c3 ad w) rfl iwX7_talk_X7 3 (by decide) lkX7_talk_27 rfl dX7_talk_14 ?_
    obtain ⟨r_39, e_38, h⟩ := bo_s h
    refine x_goi X hS (x_runV (As := []) (rest := []) X gC_ok hP hS (ctX2_isAnyOver_23 l D c3 ad w _ _ e_38) (cwV 0 hts gX7_talk_X2_isAnyOver rfl rfl rfl (by decide +kernel) ⟨by decide, by decide⟩) (gC23 c3 ad w) rfl rfl rfl hl.1 rfl (Nat.le_of_ble_eq_true rfl) dX7_talk_17) (fun H locs hP hS => ?_)
    refine lv_if_ne (tgt := 33) hx hb dX7_talk_20 (by decide) (fun c_41 => ?_) (fun c_41 => ?_)
    · replace h := it_n c_41 h
      refine lv_bipush (v := (-4)) hx hb dX7_talk_33 (by decide) ?_
      obtain ⟨rfl, rfl⟩ := Prod.mk.inj (Option.some.inj h)
      exact hret _ _ _ _ hP hS dX7_talk_35
    · replace h := it_p c_41 h
      refine lv_aload_n hx hb dX7_talk_23 rfl (lv_at hl 0 rfl) ?_
      refine x_get (rest := []) X hP (gC0 c3 ad w) rfl iwX7_talk_X7 3 (by decide) lkX7_talk_27 rfl dX7_talk_24 ?_
      obtain ⟨r_43, e_42, h⟩ := bo_s h
      refine x_goi X hS (x_runV (As := []) (rest := []) X gC_ok hP hS (ctX2_isEmpty_23 l D c3 ad w _ _ e_42) (cwV 0 hts gX7_talk_X2_isEmpty rfl rfl rfl (by decide +kernel) ⟨by decide, by decide⟩) (gC23 c3 ad w) rfl rfl rfl hl.1 rfl (Nat.le_of_ble_eq_true rfl) dX7_talk_27) (fun H locs hP hS => ?_)
      refine lv_if_eq (tgt := 36) hx hb dX7_talk_30 (by decide) (fun c_45 => ?_) (fun c_45 => ?_)
      · replace h := it_p c_45 h
        refine lv_aload_n hx hb dX7_talk_36 rfl (lv_at hl 0 rfl) ?_
        refine x_get (rest := []) X hP (gC0 c3 ad w) rfl iwX7_talk_X7 0 (by decide) lkX7_talk_14 rfl dX7_talk_37 ?_
        refine lv_iload_n hx hb dX7_talk_40 rfl (lv_at hl 1 rfl) ?_
        obtain ⟨r_47, e_46, h⟩ := bo_s h
        refine x_goi X hS (x_runV (As := [.int x1]) (rest := []) X gC_ok hP hS (ctX5_isThere_1 l D c3 ad w _ x1 _ e_46) (cwV 1 hts gX7_talk_X5_isThere rfl rfl rfl (by decide +kernel) ⟨by decide, by decide⟩) (gC1 c3 ad w) rfl rfl rfl hl.1 rfl (Nat.le_of_ble_eq_true rfl) dX7_talk_41) (fun H locs hP hS => ?_)
        refine lv_if_ne (tgt := 53) hx hb dX7_talk_44 (by decide) (fun c_49 => ?_) (fun c_49 => ?_)
        · replace h := it_n c_49 h
          refine lv_aload_n hx hb dX7_talk_53 rfl (lv_at hl 0 rfl) ?_
          refine x_get (rest := []) X hP (gC0 c3 ad w) rfl iwX7_talk_X7 0 (by decide) lkX7_talk_14 rfl dX7_talk_54 ?_
          refine x_get (rest := []) X hP (gC1 c3 ad w) rfl iwX7_talk_X5 1 (by decide) lkX7_talk_94 rfl dX7_talk_57 ?_
          refine lv_iload_n hx hb dX7_talk_60 rfl (lv_at hl 1 rfl) ?_
          obtain ⟨g_50, h⟩ := gd_s h
          refine x_iald X hP (gC3 c3 ad w) g_50 dX7_talk_61 ?_
          refine x_nmi h (fun x2_51 h => ?_)
          refine lv_istore_n (lv' := [(2, .int x2_51), (0, .ref (ad 0)), (1, .int x1)]) hx hb dX7_talk_62 rfl hl (by decide) rfl (fun ls hl => ?_)
          refine lv_iload_n hx hb dX7_talk_63 rfl (lv_at hl 0 rfl) ?_
          refine lv_iconst (v := 2) hx hb dX7_talk_64 (by decide) ?_
          refine lv_irem hx hb dX7_talk_65 (by decide) ?_
          refine lv_if_ne (tgt := 75) hx hb dX7_talk_66 (by decide) (fun c_52 => ?_) (fun c_52 => ?_)
          · replace h := it_n c_52 h
            exact bX7_talk_75 X hret w _ _ _ hP hS (lv_sub hl [1] rfl) h
          · replace h := it_p c_52 h
            refine lv_iload_n hx hb dX7_talk_69 rfl (lv_at hl 0 rfl) ?_
            refine lv_bipush (v := 20) hx hb dX7_talk_70 (by decide) ?_
            refine lv_icmp_le (tgt := 81) hx hb dX7_talk_72 (by decide) (fun c_53 => ?_) (fun c_53 => ?_)
            · replace h := it_p c_53 h
              refine lv_aload_n hx hb dX7_talk_81 rfl (lv_at hl 1 rfl) ?_
              refine x_get (rest := []) X hP (gC0 c3 ad w) rfl iwX7_talk_X7 0 (by decide) lkX7_talk_14 rfl dX7_talk_82 ?_
              refine x_get (rest := []) X hP (gC1 c3 ad w) rfl iwX7_talk_X5 0 (by decide) lkX7_talk_86 rfl dX7_talk_85 ?_
              refine lv_iload_n hx hb dX7_talk_88 rfl (lv_at hl 2 rfl) ?_
              have q_54 := rgn 4 g_50
              refine x_aald (z := ad (4 + x1.toNatClampNeg)) X hP (gC2 c3 ad w) g_50 rfl dX7_talk_89 ?_
              refine lv_astore_n (lv' := [(3, .ref (ad (4 + x1.toNatClampNeg))), (2, .int x2_51), (0, .ref (ad 0)), (1, .int x1)]) hx hb dX7_talk_90 rfl hl (by decide) rfl (fun ls hl => ?_)
              refine lv_iconst (v := 0) hx hb dX7_talk_91 (by decide) ?_
              refine lv_istore (lv' := [(4, .int 0), (3, .ref (ad (4 + x1.toNatClampNeg))), (2, .int x2_51), (0, .ref (ad 0)), (1, .int x1)]) hx hb dX7_talk_92 hl (by decide) rfl (fun ls hl => ?_)
              exact bX7_talk_94 X hret x2_51 (4 + x1.toNatClampNeg) FU 0 w _ _ _ hP hS (lv_sub hl [3, 2, 1, 0] rfl) h
            · replace h := it_n c_53 h
              exact bX7_talk_75 X hret w _ _ _ hP hS (lv_sub hl [1] rfl) h
        · replace h := it_p c_49 h
          refine lv_aload_n hx hb dX7_talk_47 rfl (lv_at hl 0 rfl) ?_
          refine lv_iconst (v := 1) hx hb dX7_talk_48 (by decide) ?_
          obtain ⟨r_56, w_57, e_55, h⟩ := bd_s h
          refine x_goi X hS (x_runV (As := [.int 1]) (rest := []) X gC_ok hP hS (ctX7_refuse l D c3 ad w _ 1 _ _ e_55) (cwV 1 hts gX7_talk_X7_refuse rfl rfl rfl (by decide +kernel) ⟨by decide, by decide⟩) (gC0 c3 ad w) rfl rfl rfl hl.1 rfl (Nat.le_of_ble_eq_true rfl) dX7_talk_49) (fun H locs hP hS => ?_)
          obtain ⟨rfl, rfl⟩ := Prod.mk.inj (Option.some.inj h)
          exact hret _ _ _ _ hP hS dX7_talk_52
      · replace h := it_n c_45 h
        refine lv_bipush (v := (-4)) hx hb dX7_talk_33 (by decide) ?_
        obtain ⟨rfl, rfl⟩ := Prod.mk.inj (Option.some.inj h)
        exact hret _ _ _ _ hP hS dX7_talk_35
  · replace h := it_p c_37 h
    refine lv_iconst (v := (-1)) hx hb dX7_talk_11 (by decide) ?_
    obtain ⟨rfl, rfl⟩ := Prod.mk.inj (Option.some.inj h)
    exact hret _ _ _ _ hP hS dX7_talk_12
def fX7_talk (x1 : Int32) (w : Mm) : Option (Int32 × Mm) := fX7_talk_E x1 w
theorem ctX7_talk (l : Launch) (D : va_G) (c3 : C3) (ad : Nat → Nat) (w : Mm) (sz : Nat) (x1 : Int32) (r : Int32) (w' : Mm) (h : fX7_talk x1 w = some (r, w')) : Ci l yX7_talk wsX7_talk rmX7_talk D c3 (encC c3 ad) gC [.ref (ad 0), .int x1] w sz r w' := by
  refine Ci.of (cc := cX7_talk) (maxL := 6) (encC_ok c3 ad) (by decide) rfl (Nat.le_of_ble_eq_true rfl) ?_
  intro p e s m below meth c A Q ls X hret hP hS hl
  exact bX7_talk_E X hret x1 w _ _ ls hP hS hl h
theorem iwX7_waits_X2 : ∀ w ∈ wsX20, w ∈ wsX7_waits := fun _ h => List.mem_cons_of_mem _ (List.mem_append_right _ h)
theorem iwX7_waits_X7 : ∀ w ∈ wsX70, w ∈ wsX7_waits := fun _ h => List.mem_cons_of_mem _ (List.mem_append_left _ (List.mem_append_right _ h))
theorem lkX7_waits_27 : Cond.fieldLink RX7 27 "StuckDoor" "family" "LStuckDoor$Family;" ∈ wsX7_waits := by decide +kernel
theorem lkX7_waits_161 : Cond.fieldLink RX7 161 "StuckDoor$Family" "bearing" "[I" ∈ wsX7_waits := by decide +kernel
theorem lkX7_waits_178 : Cond.fieldLink RX7 178 "StuckDoor$Family" "strain" "I" ∈ wsX7_waits := by decide +kernel
def rmX7_waits : Room := { frames := 3, cells := 0, slots := 0, locals := 65 }
def fX7_waits_E (x1 : Int32) (x2 : Int32) (w : Mm) : Option (Int32) := bo (fX2_hasPerson_23 x1 w) (fun r_2 => (if r_2 = 0 then some (-1) else bo (fX2_hasSaying_23 x2 w) (fun r_6 => (if r_6 = 0 then some (-1) else bo (fX2_isAnyOver_23 w) (fun r_10 => (if r_10 = 0 then gd (inb x1 4 = true) (bo (fX2_nearNow_23 x2 w) (fun r_15 => nm ((w.1 24 x1.toNatClampNeg) - r_15) (fun x3_17 => (if 0 ≤ x3_17 then some (if 0 < ((w.1 23 7) - x3_17) then ((w.1 23 7) - x3_17) else 0) else some (-9))))) else some (-4)))))))
set_option maxRecDepth 20000 in
theorem bX7_waits_E {p : Program} {l : Launch} {e : Env} {s : State} {m : MethodId} {args : Array Value} {below : List Frame} {meth : Method} {c : Code} {Q : State → Prop} {D : va_G} {c3 : C3} {ad : Nat → Nat} {A : Nat → Prop} {r : Int32} {w : Mm} (X : Cx p s m args c cX7_waits 4 RX7 wsX7_waits D c3 (encC c3 ad) gC A) (hret : Ri p l e (rmX7_waits) s m args below meth c Q cX7_waits D (encC c3 ad) A r w) : ∀ (x1 : Int32) (x2 : Int32) (H : Heap) (locs : List Loc) (ls : Array Slot), va_P D vwCl ((encC c3 ad) w) H → va_S A s.heap H locs → lv_has ls 4 [(0, .ref (ad 0)), (1, .int x1), (2, .int x2)] → fX7_waits_E x1 x2 w = some r → W p l e (rmX7_waits) s m args below meth c H locs 0 0 Q (F0 m 0 ls []) := by
  have hx := X.1
  have hb := X.2.1
  have hml := X.2.2.1
  have hown := X.2.2.2.1
  have hts := X.2.2.2.2.1
  intro x1 x2 H locs ls hP hS hl h
  unfold fX7_waits_E at h
  refine lv_aload_n hx hb dX7_waits_0 rfl (lv_at hl 0 rfl) ?_
  refine x_get (rest := []) X hP (gC0 c3 ad w) rfl iwX7_waits_X7 3 (by decide) lkX7_waits_27 rfl dX7_waits_1 ?_
  refine lv_iload_n hx hb dX7_waits_4 rfl (lv_at hl 1 rfl) ?_
  obtain ⟨r_2, e_1, h⟩ := bo_s h
  refine x_goi X hS (x_runV (As := [.int x1]) (rest := []) X gC_ok hP hS (ctX2_hasPerson_23 l D c3 ad w _ x1 _ e_1) (cwV 1 hts gX7_waits_X2_hasPerson rfl rfl rfl (by decide +kernel) ⟨by decide, by decide⟩) (gC23 c3 ad w) rfl rfl rfl hl.1 rfl (Nat.le_of_ble_eq_true rfl) dX7_waits_5) (fun H locs hP hS => ?_)
  refine lv_if_eq (tgt := 22) hx hb dX7_waits_8 (by decide) (fun c_4 => ?_) (fun c_4 => ?_)
  · replace h := it_p c_4 h
    refine lv_iconst (v := (-1)) hx hb dX7_waits_22 (by decide) ?_
    obtain rfl := Option.some.inj h
    exact hret _ _ _ _ hP hS dX7_waits_23
  · replace h := it_n c_4 h
    refine lv_aload_n hx hb dX7_waits_11 rfl (lv_at hl 0 rfl) ?_
    refine x_get (rest := []) X hP (gC0 c3 ad w) rfl iwX7_waits_X7 3 (by decide) lkX7_waits_27 rfl dX7_waits_12 ?_
    refine lv_iload_n hx hb dX7_waits_15 rfl (lv_at hl 2 rfl) ?_
    obtain ⟨r_6, e_5, h⟩ := bo_s h
    refine x_goi X hS (x_runV (As := [.int x2]) (rest := []) X gC_ok hP hS (ctX2_hasSaying_23 l D c3 ad w _ x2 _ e_5) (cwV 1 hts gX7_waits_X2_hasSaying rfl rfl rfl (by decide +kernel) ⟨by decide, by decide⟩) (gC23 c3 ad w) rfl rfl rfl hl.1 rfl (Nat.le_of_ble_eq_true rfl) dX7_waits_16) (fun H locs hP hS => ?_)
    refine lv_if_ne (tgt := 24) hx hb dX7_waits_19 (by decide) (fun c_8 => ?_) (fun c_8 => ?_)
    · replace h := it_n c_8 h
      refine lv_aload_n hx hb dX7_waits_24 rfl (lv_at hl 0 rfl) ?_
      refine x_get (rest := []) X hP (gC0 c3 ad w) rfl iwX7_waits_X7 3 (by decide) lkX7_waits_27 rfl dX7_waits_25 ?_
      obtain ⟨r_10, e_9, h⟩ := bo_s h
      refine x_goi X hS (x_runV (As := []) (rest := []) X gC_ok hP hS (ctX2_isAnyOver_23 l D c3 ad w _ _ e_9) (cwV 0 hts gX7_waits_X2_isAnyOver rfl rfl rfl (by decide +kernel) ⟨by decide, by decide⟩) (gC23 c3 ad w) rfl rfl rfl hl.1 rfl (Nat.le_of_ble_eq_true rfl) dX7_waits_28) (fun H locs hP hS => ?_)
      refine lv_if_eq (tgt := 37) hx hb dX7_waits_31 (by decide) (fun c_12 => ?_) (fun c_12 => ?_)
      · replace h := it_p c_12 h
        refine lv_aload_n hx hb dX7_waits_37 rfl (lv_at hl 0 rfl) ?_
        refine x_get (rest := []) X hP (gC0 c3 ad w) rfl iwX7_waits_X7 3 (by decide) lkX7_waits_27 rfl dX7_waits_38 ?_
        refine x_get (rest := []) X hP (gC23 c3 ad w) rfl iwX7_waits_X2 1 (by decide) lkX7_waits_161 rfl dX7_waits_41 ?_
        refine lv_iload_n hx hb dX7_waits_44 rfl (lv_at hl 1 rfl) ?_
        obtain ⟨g_13, h⟩ := gd_s h
        refine x_iald X hP (gC24 c3 ad w) g_13 dX7_waits_45 ?_
        refine lv_aload_n hx hb dX7_waits_46 rfl (lv_at hl 0 rfl) ?_
        refine x_get (rest := [.int (w.1 24 x1.toNatClampNeg)]) X hP (gC0 c3 ad w) rfl iwX7_waits_X7 3 (by decide) lkX7_waits_27 rfl dX7_waits_47 ?_
        refine lv_iload_n hx hb dX7_waits_50 rfl (lv_at hl 2 rfl) ?_
        obtain ⟨r_15, e_14, h⟩ := bo_s h
        refine x_goi X hS (x_runV (As := [.int x2]) (rest := [.int (w.1 24 x1.toNatClampNeg)]) X gC_ok hP hS (ctX2_nearNow_23 l D c3 ad w _ x2 _ e_14) (cwV 1 hts gX7_waits_X2_nearNow rfl rfl rfl (by decide +kernel) ⟨by decide, by decide⟩) (gC23 c3 ad w) rfl rfl rfl hl.1 rfl (Nat.le_of_ble_eq_true rfl) dX7_waits_51) (fun H locs hP hS => ?_)
        refine lv_isub hx hb dX7_waits_54 ?_
        refine x_nmi h (fun x3_17 h => ?_)
        refine lv_istore_n (lv' := [(3, .int x3_17), (0, .ref (ad 0)), (1, .int x1), (2, .int x2)]) hx hb dX7_waits_55 rfl hl (by decide) rfl (fun ls hl => ?_)
        refine lv_iload_n hx hb dX7_waits_56 rfl (lv_at hl 0 rfl) ?_
        refine lv_if_ge (tgt := 65) hx hb dX7_waits_57 (by decide) (fun c_18 => ?_) (fun c_18 => ?_)
        · replace h := it_p c_18 h
          refine lv_iconst (v := 0) hx hb dX7_waits_65 (by decide) ?_
          refine lv_aload_n hx hb dX7_waits_66 rfl (lv_at hl 1 rfl) ?_
          refine x_get (rest := [.int 0]) X hP (gC0 c3 ad w) rfl iwX7_waits_X7 3 (by decide) lkX7_waits_27 rfl dX7_waits_67 ?_
          refine x_get (rest := [.int 0]) X hP (gC23 c3 ad w) rfl iwX7_waits_X2 7 (by decide) lkX7_waits_178 rfl dX7_waits_70 ?_
          refine lv_iload_n hx hb dX7_waits_73 rfl (lv_at hl 0 rfl) ?_
          refine lv_isub hx hb dX7_waits_74 ?_
          refine va_mmax hx hb (by rw [hml]; exact hl.1.symm) hown (hts (.methodLink RX7 141 Lib.Math.max.name) (by decide +kernel)) (hts (.static Lib.Math.max.name) (by decide +kernel)) (hts (.initialized "java/lang/Math") (by decide +kernel)) (hts (.code Lib.Math.max.name Lib.Math.max.code 2 (some .int)) (by decide +kernel)) (Nat.le_of_ble_eq_true rfl) (Nat.le_of_ble_eq_true rfl) (Nat.zero_le _) (Nat.zero_le _) dX7_waits_75 ?_
          obtain rfl := Option.some.inj h
          exact hret _ _ _ _ hP hS dX7_waits_78
        · replace h := it_n c_18 h
          refine lv_bipush (v := (-9)) hx hb dX7_waits_60 (by decide) ?_
          refine lv_goto (tgt := 78) hx hb dX7_waits_62 (by decide) ?_
          obtain rfl := Option.some.inj h
          exact hret _ _ _ _ hP hS dX7_waits_78
      · replace h := it_n c_12 h
        refine lv_bipush (v := (-4)) hx hb dX7_waits_34 (by decide) ?_
        obtain rfl := Option.some.inj h
        exact hret _ _ _ _ hP hS dX7_waits_36
    · replace h := it_p c_8 h
      refine lv_iconst (v := (-1)) hx hb dX7_waits_22 (by decide) ?_
      obtain rfl := Option.some.inj h
      exact hret _ _ _ _ hP hS dX7_waits_23
def fX7_waits (x1 : Int32) (x2 : Int32) (w : Mm) : Option (Int32) := fX7_waits_E x1 x2 w
theorem ctX7_waits (l : Launch) (D : va_G) (c3 : C3) (ad : Nat → Nat) (w : Mm) (sz : Nat) (x1 : Int32) (x2 : Int32) (r : Int32) (h : fX7_waits x1 x2 w = some r) : Ci l yX7_waits wsX7_waits rmX7_waits D c3 (encC c3 ad) gC [.ref (ad 0), .int x1, .int x2] w sz r w := by
  refine Ci.of (cc := cX7_waits) (maxL := 4) (encC_ok c3 ad) (by decide) rfl (Nat.le_of_ble_eq_true rfl) ?_
  intro p e s m below meth c A Q ls X hret hP hS hl
  exact bX7_waits_E X hret x1 x2 _ _ ls hP hS hl h
def rmX2_attempt_23 : Room := { frames := 4, cells := 0, slots := 0, locals := 87 }
def fX2_attempt_23_E (x1 : Int32) (x2 : Int32) (w : Mm) : Option (Mm) := (if x2 = (-1) then bo (fX2_ease_23 w) (fun w_7 => some w_7) else bo (fX2_utter_23 x1 x2 w) (fun w_4 => some w_4))
set_option maxRecDepth 20000 in
theorem bX2_attempt_23_E {p : Program} {l : Launch} {e : Env} {s : State} {m : MethodId} {args : Array Value} {below : List Frame} {meth : Method} {c : Code} {Q : State → Prop} {D : va_G} {c3 : C3} {ad : Nat → Nat} {A : Nat → Prop} {w' : Mm} (X : Cx p s m args c cX2_attempt 3 RX2 wsX2_attempt D c3 (encC c3 ad) gC A) (hret : Rv p l e (rmX2_attempt_23) s m args below meth c Q cX2_attempt D (encC c3 ad) A w') : ∀ (x1 : Int32) (x2 : Int32) (w : Mm) (H : Heap) (locs : List Loc) (ls : Array Slot), va_P D vwCl ((encC c3 ad) w) H → va_S A s.heap H locs → lv_has ls 3 [(0, .ref (ad 23)), (1, .int x1), (2, .int x2)] → fX2_attempt_23_E x1 x2 w = some w' → W p l e (rmX2_attempt_23) s m args below meth c H locs 0 0 Q (F0 m 0 ls []) := by
  have hx := X.1
  have hb := X.2.1
  have hml := X.2.2.1
  have hown := X.2.2.2.1
  have hts := X.2.2.2.2.1
  intro x1 x2 w H locs ls hP hS hl h
  unfold fX2_attempt_23_E at h
  refine lv_iload_n hx hb dX2_attempt_0 rfl (lv_at hl 2 rfl) ?_
  refine lv_iconst (v := (-1)) hx hb dX2_attempt_1 (by decide) ?_
  refine lv_icmp_ne (tgt := 12) hx hb dX2_attempt_2 (by decide) (fun c_1 => ?_) (fun c_1 => ?_)
  · replace h := it_n c_1 h
    refine lv_aload_n hx hb dX2_attempt_12 rfl (lv_at hl 0 rfl) ?_
    refine lv_iload_n hx hb dX2_attempt_13 rfl (lv_at hl 1 rfl) ?_
    refine lv_iload_n hx hb dX2_attempt_14 rfl (lv_at hl 2 rfl) ?_
    obtain ⟨w_4, e_2, h⟩ := bo_s h
    refine x_gov X hS (x_runV (As := [.int x1, .int x2]) (rest := []) X gC_ok hP hS (ctX2_utter_23 l D c3 ad w _ x1 x2 _ e_2) (cwV 2 hts gX2_attempt_X2_utter rfl rfl rfl (by decide +kernel) ⟨by decide, by decide⟩) (gC23 c3 ad w) rfl rfl rfl hl.1 rfl (Nat.le_of_ble_eq_true rfl) dX2_attempt_15) (fun H locs hP hS => ?_)
    obtain rfl := Option.some.inj h
    exact hret _ _ _ _ hP hS dX2_attempt_18
  · replace h := it_p c_1 h
    refine lv_aload_n hx hb dX2_attempt_5 rfl (lv_at hl 0 rfl) ?_
    obtain ⟨w_7, e_5, h⟩ := bo_s h
    refine x_gov X hS (x_runV (As := []) (rest := []) X gC_ok hP hS (ctX2_ease_23 l D c3 ad w _ _ e_5) (cwV 0 hts gX2_attempt_X2_ease rfl rfl rfl (by decide +kernel) ⟨by decide, by decide⟩) (gC23 c3 ad w) rfl rfl rfl hl.1 rfl (Nat.le_of_ble_eq_true rfl) dX2_attempt_6) (fun H locs hP hS => ?_)
    refine lv_goto (tgt := 18) hx hb dX2_attempt_9 (by decide) ?_
    obtain rfl := Option.some.inj h
    exact hret _ _ _ _ hP hS dX2_attempt_18
def fX2_attempt_23 (x1 : Int32) (x2 : Int32) (w : Mm) : Option (Mm) := fX2_attempt_23_E x1 x2 w
theorem ctX2_attempt_23 (l : Launch) (D : va_G) (c3 : C3) (ad : Nat → Nat) (w : Mm) (sz : Nat) (x1 : Int32) (x2 : Int32) (w' : Mm) (h : fX2_attempt_23 x1 x2 w = some w') : Cv l yX2_attempt wsX2_attempt rmX2_attempt_23 D c3 (encC c3 ad) gC [.ref (ad 23), .int x1, .int x2] w sz w' := by
  refine Cv.of (cc := cX2_attempt) (maxL := 3) (encC_ok c3 ad) (by decide) rfl (Nat.le_of_ble_eq_true rfl) ?_
  intro p e s m below meth c A Q ls X hret hP hS hl
  exact bX2_attempt_23_E X hret x1 x2 w _ _ ls hP hS hl h
theorem iwX2_takeBack_X2 : ∀ w ∈ wsX20, w ∈ wsX2_takeBack := fun _ h => List.mem_cons_of_mem _ (List.mem_append_right _ h)
theorem lkX2_takeBack_34 : Cond.fieldLink RX2 34 "StuckDoor$Family" "strain" "I" ∈ wsX2_takeBack := by decide +kernel
theorem lkX2_takeBack_37 : Cond.fieldLink RX2 37 "StuckDoor$Family" "settled" "I" ∈ wsX2_takeBack := by decide +kernel
theorem lkX2_takeBack_43 : Cond.fieldLink RX2 43 "StuckDoor$Family" "said" "[I" ∈ wsX2_takeBack := by decide +kernel
def rmX2_takeBack_23 : Room := { frames := 0, cells := 0, slots := 0, locals := 0 }
def fX2_takeBack_23_15 (x2 : Int32) (x3 : Int32) (w : Mm) : Option (Mm) := nm (sA w 23 7 x2) (fun w_1 => nm (sA w_1 23 8 x3) (fun w_2 => some w_2))
set_option maxRecDepth 20000 in
theorem bX2_takeBack_23_15 {p : Program} {l : Launch} {e : Env} {s : State} {m : MethodId} {args : Array Value} {below : List Frame} {meth : Method} {c : Code} {Q : State → Prop} {D : va_G} {c3 : C3} {ad : Nat → Nat} {A : Nat → Prop} {w' : Mm} (X : Cx p s m args c cX2_takeBack 4 RX2 wsX2_takeBack D c3 (encC c3 ad) gC A) (hret : Rv p l e (rmX2_takeBack_23) s m args below meth c Q cX2_takeBack D (encC c3 ad) A w') : ∀ (x2 : Int32) (x3 : Int32) (w : Mm) (H : Heap) (locs : List Loc) (ls : Array Slot), va_P D vwCl ((encC c3 ad) w) H → va_S A s.heap H locs → lv_has ls 4 [(0, .ref (ad 23)), (2, .int x2), (3, .int x3)] → fX2_takeBack_23_15 x2 x3 w = some w' → W p l e (rmX2_takeBack_23) s m args below meth c H locs 0 0 Q (F0 m 15 ls []) := by
  have hx := X.1
  have hb := X.2.1
  have hml := X.2.2.1
  have hown := X.2.2.2.1
  have hts := X.2.2.2.2.1
  intro x2 x3 w H locs ls hP hS hl h
  unfold fX2_takeBack_23_15 at h
  refine lv_aload_n hx hb dX2_takeBack_15 rfl (lv_at hl 0 rfl) ?_
  refine lv_iload_n hx hb dX2_takeBack_16 rfl (lv_at hl 1 rfl) ?_
  refine x_put (v := .int x2) X hP hS (gC23 c3 ad w) rfl iwX2_takeBack_X2 tyX2 tyX2_ok nmX2 7 (by decide) lkX2_takeBack_34 rfl rfl rfl (Nat.le_of_ble_eq_true rfl) (pC23_7 c3 ad w x2) dX2_takeBack_17 (fun H locs hP hS => ?_)
  refine x_nmw h hP (fun w_1 h hP => ?_)
  refine lv_aload_n hx hb dX2_takeBack_20 rfl (lv_at hl 0 rfl) ?_
  refine lv_iload_n hx hb dX2_takeBack_21 rfl (lv_at hl 2 rfl) ?_
  refine x_put (v := .int x3) X hP hS (gC23 c3 ad w_1) rfl iwX2_takeBack_X2 tyX2 tyX2_ok nmX2 8 (by decide) lkX2_takeBack_37 rfl rfl rfl (Nat.le_of_ble_eq_true rfl) (pC23_8 c3 ad w_1 x3) dX2_takeBack_22 (fun H locs hP hS => ?_)
  refine x_nmw h hP (fun w_2 h hP => ?_)
  obtain rfl := Option.some.inj h
  exact hret _ _ _ _ hP hS dX2_takeBack_25
def fX2_takeBack_23_E (x1 : Int32) (x2 : Int32) (x3 : Int32) (w : Mm) : Option (Mm) := (if x1 = (-1) then fX2_takeBack_23_15 x2 x3 w else gd (inb x1 6 = true) (nm (sA w 28 x1.toNatClampNeg ((w.1 28 x1.toNatClampNeg) - 1)) (fun w_5 => fX2_takeBack_23_15 x2 x3 w_5)))
set_option maxRecDepth 20000 in
theorem bX2_takeBack_23_E {p : Program} {l : Launch} {e : Env} {s : State} {m : MethodId} {args : Array Value} {below : List Frame} {meth : Method} {c : Code} {Q : State → Prop} {D : va_G} {c3 : C3} {ad : Nat → Nat} {A : Nat → Prop} {w' : Mm} (X : Cx p s m args c cX2_takeBack 4 RX2 wsX2_takeBack D c3 (encC c3 ad) gC A) (hret : Rv p l e (rmX2_takeBack_23) s m args below meth c Q cX2_takeBack D (encC c3 ad) A w') : ∀ (x1 : Int32) (x2 : Int32) (x3 : Int32) (w : Mm) (H : Heap) (locs : List Loc) (ls : Array Slot), va_P D vwCl ((encC c3 ad) w) H → va_S A s.heap H locs → lv_has ls 4 [(0, .ref (ad 23)), (1, .int x1), (2, .int x2), (3, .int x3)] → fX2_takeBack_23_E x1 x2 x3 w = some w' → W p l e (rmX2_takeBack_23) s m args below meth c H locs 0 0 Q (F0 m 0 ls []) := by
  have hx := X.1
  have hb := X.2.1
  have hml := X.2.2.1
  have hown := X.2.2.2.1
  have hts := X.2.2.2.2.1
  intro x1 x2 x3 w H locs ls hP hS hl h
  unfold fX2_takeBack_23_E at h
  refine lv_iload_n hx hb dX2_takeBack_0 rfl (lv_at hl 1 rfl) ?_
  refine lv_iconst (v := (-1)) hx hb dX2_takeBack_1 (by decide) ?_
  refine lv_icmp_eq (tgt := 15) hx hb dX2_takeBack_2 (by decide) (fun c_3 => ?_) (fun c_3 => ?_)
  · replace h := it_p c_3 h
    exact bX2_takeBack_23_15 X hret x2 x3 w _ _ _ hP hS (lv_sub hl [0, 2, 3] rfl) h
  · replace h := it_n c_3 h
    refine lv_aload_n hx hb dX2_takeBack_5 rfl (lv_at hl 0 rfl) ?_
    refine x_get (rest := []) X hP (gC23 c3 ad w) rfl iwX2_takeBack_X2 10 (by decide) lkX2_takeBack_43 rfl dX2_takeBack_6 ?_
    refine lv_iload_n hx hb dX2_takeBack_9 rfl (lv_at hl 1 rfl) ?_
    refine lv_dup2_11 hx hb dX2_takeBack_10 rfl rfl ?_
    obtain ⟨g_4, h⟩ := gd_s h
    refine x_iald X hP (gC28 c3 ad w) g_4 dX2_takeBack_11 ?_
    refine lv_iconst (v := 1) hx hb dX2_takeBack_12 (by decide) ?_
    refine lv_isub hx hb dX2_takeBack_13 ?_
    refine x_iast X hP hS (gC28 c3 ad w) (sC28 c3 ad w _ _) g_4 dX2_takeBack_14 (fun H locs hP hS => ?_)
    refine x_nmw h hP (fun w_5 h hP => ?_)
    exact bX2_takeBack_23_15 X hret x2 x3 w_5 _ _ _ hP hS (lv_sub hl [0, 2, 3] rfl) h
def fX2_takeBack_23 (x1 : Int32) (x2 : Int32) (x3 : Int32) (w : Mm) : Option (Mm) := fX2_takeBack_23_E x1 x2 x3 w
theorem ctX2_takeBack_23 (l : Launch) (D : va_G) (c3 : C3) (ad : Nat → Nat) (w : Mm) (sz : Nat) (x1 : Int32) (x2 : Int32) (x3 : Int32) (w' : Mm) (h : fX2_takeBack_23 x1 x2 x3 w = some w') : Cv l yX2_takeBack wsX2_takeBack rmX2_takeBack_23 D c3 (encC c3 ad) gC [.ref (ad 23), .int x1, .int x2, .int x3] w sz w' := by
  refine Cv.of (cc := cX2_takeBack) (maxL := 4) (encC_ok c3 ad) (by decide) rfl (Nat.le_of_ble_eq_true rfl) ?_
  intro p e s m below meth c A Q ls X hret hP hS hl
  exact bX2_takeBack_23_E X hret x1 x2 x3 w _ _ ls hP hS hl h
theorem iwX6_noteEnd_X2 : ∀ w ∈ wsX20, w ∈ wsX6_noteEnd := fun _ h => List.mem_cons_of_mem _ (List.mem_append_right _ h)
theorem iwX6_noteEnd_X6 : ∀ w ∈ wsX60, w ∈ wsX6_noteEnd := fun _ h => List.mem_cons_of_mem _ (List.mem_append_left _ (List.mem_append_right _ h))
theorem lkX6_noteEnd_15 : Cond.fieldLink RX6 15 "StuckDoor$Turns" "number" "J" ∈ wsX6_noteEnd := by decide +kernel
theorem lkX6_noteEnd_19 : Cond.fieldLink RX6 19 "StuckDoor$Turns" "settleable" "I" ∈ wsX6_noteEnd := by decide +kernel
theorem lkX6_noteEnd_23 : Cond.fieldLink RX6 23 "StuckDoor$Turns" "leastStrain" "I" ∈ wsX6_noteEnd := by decide +kernel
theorem lkX6_noteEnd_30 : Cond.fieldLink RX6 30 "StuckDoor$Family" "settled" "I" ∈ wsX6_noteEnd := by decide +kernel
theorem lkX6_noteEnd_49 : Cond.fieldLink RX6 49 "StuckDoor$Family" "strain" "I" ∈ wsX6_noteEnd := by decide +kernel
def rmX6_noteEnd : Room := { frames := 0, cells := 0, slots := 0, locals := 0 }
def fX6_noteEnd_52 (w : Mm) : Option (Int32 × Mm) := nm (sA w 39 3 (w.1 23 7)) (fun w_1 => some (0, w_1))
set_option maxRecDepth 20000 in
theorem bX6_noteEnd_52 {p : Program} {l : Launch} {e : Env} {s : State} {m : MethodId} {args : Array Value} {below : List Frame} {meth : Method} {c : Code} {Q : State → Prop} {D : va_G} {c3 : C3} {ad : Nat → Nat} {A : Nat → Prop} {r : Int32} {w' : Mm} (X : Cx p s m args c cX6_noteEnd 2 RX6 wsX6_noteEnd D c3 (encC c3 ad) gC A) (hret : Rz p l e (rmX6_noteEnd) s m args below meth c Q cX6_noteEnd D (encC c3 ad) A r w') : ∀ (w : Mm) (H : Heap) (locs : List Loc) (ls : Array Slot), va_P D vwCl ((encC c3 ad) w) H → va_S A s.heap H locs → lv_has ls 2 [(0, .ref (ad 39)), (1, .ref (ad 23))] → fX6_noteEnd_52 w = some (r, w') → W p l e (rmX6_noteEnd) s m args below meth c H locs 0 0 Q (F0 m 52 ls []) := by
  have hx := X.1
  have hb := X.2.1
  have hml := X.2.2.1
  have hown := X.2.2.2.1
  have hts := X.2.2.2.2.1
  intro w H locs ls hP hS hl h
  unfold fX6_noteEnd_52 at h
  refine lv_aload_n hx hb dX6_noteEnd_52 rfl (lv_at hl 0 rfl) ?_
  refine lv_aload_n hx hb dX6_noteEnd_53 rfl (lv_at hl 1 rfl) ?_
  refine x_get (rest := [.ref (ad 39)]) X hP (gC23 c3 ad w) rfl iwX6_noteEnd_X2 7 (by decide) lkX6_noteEnd_49 rfl dX6_noteEnd_54 ?_
  refine x_put (v := .int (w.1 23 7)) X hP hS (gC39 c3 ad w) rfl iwX6_noteEnd_X6 tyX6 tyX6_ok nmX6 3 (by decide) lkX6_noteEnd_23 rfl rfl rfl (Nat.le_of_ble_eq_true rfl) (pC39_3 c3 ad w (w.1 23 7)) dX6_noteEnd_57 (fun H locs hP hS => ?_)
  refine x_nmw h hP (fun w_1 h hP => ?_)
  refine lv_iconst (v := 0) hx hb dX6_noteEnd_60 (by decide) ?_
  obtain ⟨rfl, rfl⟩ := Prod.mk.inj (Option.some.inj h)
  exact hret (Or.inl rfl) _ _ _ _ hP hS dX6_noteEnd_61
def fX6_noteEnd_E (w : Mm) : Option (Int32 × Mm) := nm (sL w 39 1 ((w.2.1 39 1) + 1)) (fun w_2 => nm (sA w_2 39 2 ((w_2.1 39 2) ||| (w_2.1 23 8))) (fun w_3 => (if (w_3.1 23 8) = 7 then (if (w_3.1 39 3) = (-9) then fX6_noteEnd_52 w_3 else (if (w_3.1 39 3) ≤ (w_3.1 23 7) then some (0, w_3) else fX6_noteEnd_52 w_3)) else some (0, w_3))))
set_option maxRecDepth 20000 in
theorem bX6_noteEnd_E {p : Program} {l : Launch} {e : Env} {s : State} {m : MethodId} {args : Array Value} {below : List Frame} {meth : Method} {c : Code} {Q : State → Prop} {D : va_G} {c3 : C3} {ad : Nat → Nat} {A : Nat → Prop} {r : Int32} {w' : Mm} (X : Cx p s m args c cX6_noteEnd 2 RX6 wsX6_noteEnd D c3 (encC c3 ad) gC A) (hret : Rz p l e (rmX6_noteEnd) s m args below meth c Q cX6_noteEnd D (encC c3 ad) A r w') : ∀ (w : Mm) (H : Heap) (locs : List Loc) (ls : Array Slot), va_P D vwCl ((encC c3 ad) w) H → va_S A s.heap H locs → lv_has ls 2 [(0, .ref (ad 39)), (1, .ref (ad 23))] → fX6_noteEnd_E w = some (r, w') → W p l e (rmX6_noteEnd) s m args below meth c H locs 0 0 Q (F0 m 0 ls []) := by
  have hx := X.1
  have hb := X.2.1
  have hml := X.2.2.1
  have hown := X.2.2.2.1
  have hts := X.2.2.2.2.1
  intro w H locs ls hP hS hl h
  unfold fX6_noteEnd_E at h
  refine lv_aload_n hx hb dX6_noteEnd_0 rfl (lv_at hl 0 rfl) ?_
  refine lv_dup hx hb dX6_noteEnd_1 rfl ?_
  refine x_get (rest := [.ref (ad 39)]) X hP (gC39 c3 ad w) rfl iwX6_noteEnd_X6 1 (by decide) lkX6_noteEnd_15 rfl dX6_noteEnd_2 ?_
  refine lv_lconst (v := 1) hx hb dX6_noteEnd_5 (by decide) ?_
  refine lv_ladd hx hb dX6_noteEnd_6 ?_
  refine x_put (v := .long ((w.2.1 39 1) + 1)) X hP hS (gC39 c3 ad w) rfl iwX6_noteEnd_X6 tyX6 tyX6_ok nmX6 1 (by decide) lkX6_noteEnd_15 rfl rfl rfl (Nat.le_of_ble_eq_true rfl) (pC39_1 c3 ad w ((w.2.1 39 1) + 1)) dX6_noteEnd_7 (fun H locs hP hS => ?_)
  refine x_nmw h hP (fun w_2 h hP => ?_)
  refine lv_aload_n hx hb dX6_noteEnd_10 rfl (lv_at hl 0 rfl) ?_
  refine lv_dup hx hb dX6_noteEnd_11 rfl ?_
  refine x_get (rest := [.ref (ad 39)]) X hP (gC39 c3 ad w_2) rfl iwX6_noteEnd_X6 2 (by decide) lkX6_noteEnd_19 rfl dX6_noteEnd_12 ?_
  refine lv_aload_n hx hb dX6_noteEnd_15 rfl (lv_at hl 1 rfl) ?_
  refine x_get (rest := [.int (w_2.1 39 2), .ref (ad 39)]) X hP (gC23 c3 ad w_2) rfl iwX6_noteEnd_X2 8 (by decide) lkX6_noteEnd_30 rfl dX6_noteEnd_16 ?_
  refine lv_ior hx hb dX6_noteEnd_19 ?_
  refine x_put (v := .int ((w_2.1 39 2) ||| (w_2.1 23 8))) X hP hS (gC39 c3 ad w_2) rfl iwX6_noteEnd_X6 tyX6 tyX6_ok nmX6 2 (by decide) lkX6_noteEnd_19 rfl rfl rfl (Nat.le_of_ble_eq_true rfl) (pC39_2 c3 ad w_2 ((w_2.1 39 2) ||| (w_2.1 23 8))) dX6_noteEnd_20 (fun H locs hP hS => ?_)
  refine x_nmw h hP (fun w_3 h hP => ?_)
  refine lv_aload_n hx hb dX6_noteEnd_23 rfl (lv_at hl 1 rfl) ?_
  refine x_get (rest := []) X hP (gC23 c3 ad w_3) rfl iwX6_noteEnd_X2 8 (by decide) lkX6_noteEnd_30 rfl dX6_noteEnd_24 ?_
  refine lv_bipush (v := 7) hx hb dX6_noteEnd_27 (by decide) ?_
  refine lv_icmp_ne (tgt := 60) hx hb dX6_noteEnd_29 (by decide) (fun c_4 => ?_) (fun c_4 => ?_)
  · replace h := it_n c_4 h
    refine lv_iconst (v := 0) hx hb dX6_noteEnd_60 (by decide) ?_
    obtain ⟨rfl, rfl⟩ := Prod.mk.inj (Option.some.inj h)
    exact hret (Or.inl rfl) _ _ _ _ hP hS dX6_noteEnd_61
  · replace h := it_p c_4 h
    refine lv_aload_n hx hb dX6_noteEnd_32 rfl (lv_at hl 0 rfl) ?_
    refine x_get (rest := []) X hP (gC39 c3 ad w_3) rfl iwX6_noteEnd_X6 3 (by decide) lkX6_noteEnd_23 rfl dX6_noteEnd_33 ?_
    refine lv_bipush (v := (-9)) hx hb dX6_noteEnd_36 (by decide) ?_
    refine lv_icmp_eq (tgt := 52) hx hb dX6_noteEnd_38 (by decide) (fun c_5 => ?_) (fun c_5 => ?_)
    · replace h := it_p c_5 h
      exact bX6_noteEnd_52 X hret w_3 _ _ _ hP hS (lv_sub hl [0, 1] rfl) h
    · replace h := it_n c_5 h
      refine lv_aload_n hx hb dX6_noteEnd_41 rfl (lv_at hl 1 rfl) ?_
      refine x_get (rest := []) X hP (gC23 c3 ad w_3) rfl iwX6_noteEnd_X2 7 (by decide) lkX6_noteEnd_49 rfl dX6_noteEnd_42 ?_
      refine lv_aload_n hx hb dX6_noteEnd_45 rfl (lv_at hl 0 rfl) ?_
      refine x_get (rest := [.int (w_3.1 23 7)]) X hP (gC39 c3 ad w_3) rfl iwX6_noteEnd_X6 3 (by decide) lkX6_noteEnd_23 rfl dX6_noteEnd_46 ?_
      refine lv_icmp_ge (tgt := 60) hx hb dX6_noteEnd_49 (by decide) (fun c_6 => ?_) (fun c_6 => ?_)
      · replace h := it_p c_6 h
        refine lv_iconst (v := 0) hx hb dX6_noteEnd_60 (by decide) ?_
        obtain ⟨rfl, rfl⟩ := Prod.mk.inj (Option.some.inj h)
        exact hret (Or.inl rfl) _ _ _ _ hP hS dX6_noteEnd_61
      · replace h := it_n c_6 h
        exact bX6_noteEnd_52 X hret w_3 _ _ _ hP hS (lv_sub hl [0, 1] rfl) h
def fX6_noteEnd (w : Mm) : Option (Int32 × Mm) := fX6_noteEnd_E w
theorem ctX6_noteEnd (l : Launch) (D : va_G) (c3 : C3) (ad : Nat → Nat) (w : Mm) (sz : Nat) (r : Int32) (w' : Mm) (h : fX6_noteEnd w = some (r, w')) : Ci l yX6_noteEnd wsX6_noteEnd rmX6_noteEnd D c3 (encC c3 ad) gC [.ref (ad 39), .ref (ad 23)] w sz r w' := by
  refine Ci.ofz (cc := cX6_noteEnd) (maxL := 2) (encC_ok c3 ad) (by decide) rfl (Nat.le_of_ble_eq_true rfl) ?_
  intro p e s m below meth c A Q ls X hret hP hS hl
  exact bX6_noteEnd_E X hret w _ _ ls hP hS hl h
theorem iwX6_attemptFrom_X2 : ∀ w ∈ wsX20, w ∈ wsX6_attemptFrom := fun _ h => List.mem_cons_of_mem _ (List.mem_append_left _ (List.mem_append_right _ h))
theorem iwX6_attemptFrom_X6 : ∀ w ∈ wsX60, w ∈ wsX6_attemptFrom := fun _ h => List.mem_cons_of_mem _ (List.mem_append_right _ h)
theorem lkX6_attemptFrom_9 : Cond.fieldLink RX6 9 "StuckDoor$Turns" "trial" "[I" ∈ wsX6_attemptFrom := by decide +kernel
theorem lkX6_attemptFrom_30 : Cond.fieldLink RX6 30 "StuckDoor$Family" "settled" "I" ∈ wsX6_attemptFrom := by decide +kernel
theorem lkX6_attemptFrom_39 : Cond.fieldLink RX6 39 "StuckDoor$Family" "people" "I" ∈ wsX6_attemptFrom := by decide +kernel
theorem lkX6_attemptFrom_42 : Cond.fieldLink RX6 42 "StuckDoor$Family" "sayings" "I" ∈ wsX6_attemptFrom := by decide +kernel
theorem lkX6_attemptFrom_49 : Cond.fieldLink RX6 49 "StuckDoor$Family" "strain" "I" ∈ wsX6_attemptFrom := by decide +kernel
def rmX6_attemptFrom (fR lR : Nat) : Room := { frames := fR + 5, cells := 0, slots := 0, locals := lR + 109 }
def fX6_attemptFrom_149 (rc : Int32 → Int32 → Int32 → Int32 → Mm → Option (Int32 × Mm)) (k61 : Int32 → Mm → Option (Int32 × Mm)) (x2 : Int32) (x3 : Int32) (x4 : Int32) (x5 : Int32) (x6 : Int32) (x7 : Int32) (w : Mm) : Option (Int32 × Mm) := k61 (x7 + 1) w
set_option maxRecDepth 20000 in
theorem bX6_attemptFrom_149 {p : Program} {l : Launch} {e : Env} {s : State} {m : MethodId} {args : Array Value} {below : List Frame} {meth : Method} {c : Code} {Q : State → Prop} {D : va_G} {c3 : C3} {ad : Nat → Nat} {A : Nat → Prop} {r : Int32} {w' : Mm} {fR lR : Nat} {rc : Int32 → Int32 → Int32 → Int32 → Mm → Option (Int32 × Mm)} (X : Cx p s m args c cX6_attemptFrom 11 RX6 wsX6_attemptFrom D c3 (encC c3 ad) gC A) (hret : Rz p l e (rmX6_attemptFrom fR lR) s m args below meth c Q cX6_attemptFrom D (encC c3 ad) A r w') (hrc : ∀ (a0 a1 a2 a3 : Int32) (v : Mm) (sz : Nat) (r2 : Int32) (v2 : Mm), rc a0 a1 a2 a3 v = some (r2, v2) → Ci l yX6_attemptFrom wsX6_attemptFrom (mkR fR lR) D c3 (encC c3 ad) gC [.ref (ad 39), .ref (ad 23), .int a0, .int a1, .int a2, .int a3] v sz r2 v2) {x2 : Int32} {x3 : Int32} {x4 : Int32} {x5 : Int32} {x6 : Int32} {k61 : Int32 → Mm → Option (Int32 × Mm)} (hk61 : ∀ (x7 : Int32) (w : Mm) (H : Heap) (locs : List Loc) (ls : Array Slot), va_P D vwCl ((encC c3 ad) w) H → va_S A s.heap H locs → lv_has ls 11 [(0, .ref (ad 39)), (1, .ref (ad 23)), (2, .int x2), (3, .int x3), (4, .int x4), (5, .int x5), (6, .int x6), (7, .int x7)] → k61 x7 w = some (r, w') → W p l e (rmX6_attemptFrom fR lR) s m args below meth c H locs 0 0 Q (F0 m 61 ls [])) : ∀ (x7 : Int32) (w : Mm) (H : Heap) (locs : List Loc) (ls : Array Slot), va_P D vwCl ((encC c3 ad) w) H → va_S A s.heap H locs → lv_has ls 11 [(0, .ref (ad 39)), (1, .ref (ad 23)), (2, .int x2), (3, .int x3), (4, .int x4), (5, .int x5), (6, .int x6), (7, .int x7)] → fX6_attemptFrom_149 rc k61 x2 x3 x4 x5 x6 x7 w = some (r, w') → W p l e (rmX6_attemptFrom fR lR) s m args below meth c H locs 0 0 Q (F0 m 149 ls []) := by
  have hx := X.1
  have hb := X.2.1
  have hml := X.2.2.1
  have hown := X.2.2.2.1
  have hts := X.2.2.2.2.1
  intro x7 w H locs ls hP hS hl h
  unfold fX6_attemptFrom_149 at h
  refine lv_iinc (v := (x7 + 1)) (lv' := [(7, .int (x7 + 1)), (0, .ref (ad 39)), (1, .ref (ad 23)), (2, .int x2), (3, .int x3), (4, .int x4), (5, .int x5), (6, .int x6)]) hx hb dX6_attemptFrom_149 hl (k := 7) rfl rfl (by decide) rfl (fun ls hl => ?_)
  refine lv_goto (tgt := 61) hx hb dX6_attemptFrom_152 (by decide) ?_
  exact hk61 (x7 + 1) w _ _ _ hP hS (lv_sub hl [1, 2, 3, 4, 5, 6, 7, 0] rfl) h
def fX6_attemptFrom_89 (rc : Int32 → Int32 → Int32 → Int32 → Mm → Option (Int32 × Mm)) (k61 : Int32 → Mm → Option (Int32 × Mm)) (x2 : Int32) (x3 : Int32) (x4 : Int32) (x5 : Int32) (x6 : Int32) (x7 : Int32) (w : Mm) : Option (Int32 × Mm) := nm (w.1 23 7) (fun x8_1 => nm (w.1 23 8) (fun x9_2 => gd (inb x3 5 = true) (nm (sA w 40 x3.toNatClampNeg x7) (fun w_4 => bo (fX2_attempt_23 x2 x7 w_4) (fun w_7 => bd (rc x6 (x3 + 1) x4 x5 w_7) (fun r_9 w_10 => bo (fX2_takeBack_23 x7 x8_1 x9_2 w_10) (fun w_13 => (if r_9 = 0 then fX6_attemptFrom_149 rc k61 x2 x3 x4 x5 x6 x7 w_13 else some (1, w_13)))))))))
set_option maxRecDepth 20000 in
theorem bX6_attemptFrom_89 {p : Program} {l : Launch} {e : Env} {s : State} {m : MethodId} {args : Array Value} {below : List Frame} {meth : Method} {c : Code} {Q : State → Prop} {D : va_G} {c3 : C3} {ad : Nat → Nat} {A : Nat → Prop} {r : Int32} {w' : Mm} {fR lR : Nat} {rc : Int32 → Int32 → Int32 → Int32 → Mm → Option (Int32 × Mm)} (X : Cx p s m args c cX6_attemptFrom 11 RX6 wsX6_attemptFrom D c3 (encC c3 ad) gC A) (hret : Rz p l e (rmX6_attemptFrom fR lR) s m args below meth c Q cX6_attemptFrom D (encC c3 ad) A r w') (hrc : ∀ (a0 a1 a2 a3 : Int32) (v : Mm) (sz : Nat) (r2 : Int32) (v2 : Mm), rc a0 a1 a2 a3 v = some (r2, v2) → Ci l yX6_attemptFrom wsX6_attemptFrom (mkR fR lR) D c3 (encC c3 ad) gC [.ref (ad 39), .ref (ad 23), .int a0, .int a1, .int a2, .int a3] v sz r2 v2) {x2 : Int32} {x3 : Int32} {x4 : Int32} {x5 : Int32} {x6 : Int32} {k61 : Int32 → Mm → Option (Int32 × Mm)} (hk61 : ∀ (x7 : Int32) (w : Mm) (H : Heap) (locs : List Loc) (ls : Array Slot), va_P D vwCl ((encC c3 ad) w) H → va_S A s.heap H locs → lv_has ls 11 [(0, .ref (ad 39)), (1, .ref (ad 23)), (2, .int x2), (3, .int x3), (4, .int x4), (5, .int x5), (6, .int x6), (7, .int x7)] → k61 x7 w = some (r, w') → W p l e (rmX6_attemptFrom fR lR) s m args below meth c H locs 0 0 Q (F0 m 61 ls [])) : ∀ (x7 : Int32) (w : Mm) (H : Heap) (locs : List Loc) (ls : Array Slot), va_P D vwCl ((encC c3 ad) w) H → va_S A s.heap H locs → lv_has ls 11 [(0, .ref (ad 39)), (1, .ref (ad 23)), (2, .int x2), (3, .int x3), (4, .int x4), (5, .int x5), (6, .int x6), (7, .int x7)] → fX6_attemptFrom_89 rc k61 x2 x3 x4 x5 x6 x7 w = some (r, w') → W p l e (rmX6_attemptFrom fR lR) s m args below meth c H locs 0 0 Q (F0 m 89 ls []) := by
  have hx := X.1
  have hb := X.2.1
  have hml := X.2.2.1
  have hown := X.2.2.2.1
  have hts := X.2.2.2.2.1
  intro x7 w H locs ls hP hS hl h
  unfold fX6_attemptFrom_89 at h
  refine lv_aload_n hx hb dX6_attemptFrom_89 rfl (lv_at hl 1 rfl) ?_
  refine x_get (rest := []) X hP (gC23 c3 ad w) rfl iwX6_attemptFrom_X2 7 (by decide) lkX6_attemptFrom_49 rfl dX6_attemptFrom_90 ?_
  refine x_nmi h (fun x8_1 h => ?_)
  refine lv_istore (lv' := [(8, .int x8_1), (0, .ref (ad 39)), (1, .ref (ad 23)), (2, .int x2), (3, .int x3), (4, .int x4), (5, .int x5), (6, .int x6), (7, .int x7)]) hx hb dX6_attemptFrom_93 hl (by decide) rfl (fun ls hl => ?_)
  refine lv_aload_n hx hb dX6_attemptFrom_95 rfl (lv_at hl 2 rfl) ?_
  refine x_get (rest := []) X hP (gC23 c3 ad w) rfl iwX6_attemptFrom_X2 8 (by decide) lkX6_attemptFrom_30 rfl dX6_attemptFrom_96 ?_
  refine x_nmi h (fun x9_2 h => ?_)
  refine lv_istore (lv' := [(9, .int x9_2), (8, .int x8_1), (0, .ref (ad 39)), (1, .ref (ad 23)), (2, .int x2), (3, .int x3), (4, .int x4), (5, .int x5), (6, .int x6), (7, .int x7)]) hx hb dX6_attemptFrom_99 hl (by decide) rfl (fun ls hl => ?_)
  refine lv_aload_n hx hb dX6_attemptFrom_101 rfl (lv_at hl 2 rfl) ?_
  refine x_get (rest := []) X hP (gC39 c3 ad w) rfl iwX6_attemptFrom_X6 0 (by decide) lkX6_attemptFrom_9 rfl dX6_attemptFrom_102 ?_
  refine lv_iload_n hx hb dX6_attemptFrom_105 rfl (lv_at hl 5 rfl) ?_
  refine lv_iload hx hb dX6_attemptFrom_106 (lv_at hl 9 rfl) ?_
  obtain ⟨g_3, h⟩ := gd_s h
  refine x_iast X hP hS (gC40 c3 ad w) (sC40 c3 ad w _ _) g_3 dX6_attemptFrom_108 (fun H locs hP hS => ?_)
  refine x_nmw h hP (fun w_4 h hP => ?_)
  refine lv_aload_n hx hb dX6_attemptFrom_109 rfl (lv_at hl 3 rfl) ?_
  refine lv_iload_n hx hb dX6_attemptFrom_110 rfl (lv_at hl 4 rfl) ?_
  refine lv_iload hx hb dX6_attemptFrom_111 (lv_at hl 9 rfl) ?_
  obtain ⟨w_7, e_5, h⟩ := bo_s h
  refine x_gov X hS (x_runV (As := [.int x2, .int x7]) (rest := []) X gC_ok hP hS (ctX2_attempt_23 l D c3 ad w_4 _ x2 x7 _ e_5) (cwV 2 hts gX6_attemptFrom_X2_attempt rfl rfl rfl (by decide +kernel) (by dsimp only [rmX6_attemptFrom, rmX2_attempt_23]; constructor <;> omega)) (gC23 c3 ad w_4) rfl rfl rfl hl.1 rfl (Nat.le_of_ble_eq_true rfl) dX6_attemptFrom_113) (fun H locs hP hS => ?_)
  refine lv_aload_n hx hb dX6_attemptFrom_116 rfl (lv_at hl 2 rfl) ?_
  refine lv_aload_n hx hb dX6_attemptFrom_117 rfl (lv_at hl 3 rfl) ?_
  refine lv_iload hx hb dX6_attemptFrom_118 (lv_at hl 8 rfl) ?_
  refine lv_iload_n hx hb dX6_attemptFrom_120 rfl (lv_at hl 5 rfl) ?_
  refine lv_iconst (v := 1) hx hb dX6_attemptFrom_121 (by decide) ?_
  refine lv_iadd hx hb dX6_attemptFrom_122 ?_
  refine lv_iload hx hb dX6_attemptFrom_123 (lv_at hl 6 rfl) ?_
  refine lv_iload hx hb dX6_attemptFrom_125 (lv_at hl 7 rfl) ?_
  obtain ⟨r_9, w_10, e_8, h⟩ := bd_s h
  refine x_goi X hS (x_runV (As := [.ref (ad 23), .int x6, .int (x3 + 1), .int x4, .int x5]) (rest := []) X gC_ok hP hS (hrc x6 (x3 + 1) x4 x5 w_7 _ _ _ e_8) (cwV 5 hts gX6_attemptFrom_X6_attemptFrom rfl rfl rfl (by decide +kernel) (by dsimp only [rmX6_attemptFrom, mkR]; constructor <;> omega)) (gC39 c3 ad w_7) rfl rfl rfl hl.1 rfl (Nat.le_of_ble_eq_true rfl) dX6_attemptFrom_127) (fun H locs hP hS => ?_)
  refine lv_istore (lv' := [(10, .int r_9), (9, .int x9_2), (8, .int x8_1), (0, .ref (ad 39)), (1, .ref (ad 23)), (2, .int x2), (3, .int x3), (4, .int x4), (5, .int x5), (6, .int x6), (7, .int x7)]) hx hb dX6_attemptFrom_130 hl (by decide) rfl (fun ls hl => ?_)
  refine lv_aload_n hx hb dX6_attemptFrom_132 rfl (lv_at hl 4 rfl) ?_
  refine lv_iload hx hb dX6_attemptFrom_133 (lv_at hl 10 rfl) ?_
  refine lv_iload hx hb dX6_attemptFrom_135 (lv_at hl 2 rfl) ?_
  refine lv_iload hx hb dX6_attemptFrom_137 (lv_at hl 1 rfl) ?_
  obtain ⟨w_13, e_11, h⟩ := bo_s h
  refine x_gov X hS (x_runV (As := [.int x7, .int x8_1, .int x9_2]) (rest := []) X gC_ok hP hS (ctX2_takeBack_23 l D c3 ad w_10 _ x7 x8_1 x9_2 _ e_11) (cwV 3 hts gX6_attemptFrom_X2_takeBack rfl rfl rfl (by decide +kernel) (by dsimp only [rmX6_attemptFrom, rmX2_takeBack_23]; constructor <;> omega)) (gC23 c3 ad w_10) rfl rfl rfl hl.1 rfl (Nat.le_of_ble_eq_true rfl) dX6_attemptFrom_139) (fun H locs hP hS => ?_)
  refine lv_iload hx hb dX6_attemptFrom_142 (lv_at hl 0 rfl) ?_
  refine lv_if_eq (tgt := 149) hx hb dX6_attemptFrom_144 (by decide) (fun c_14 => ?_) (fun c_14 => ?_)
  · replace h := it_p c_14 h
    exact bX6_attemptFrom_149 (x2 := x2) (x3 := x3) (x4 := x4) (x5 := x5) (x6 := x6) (k61 := k61) X hret hrc hk61 x7 w_13 _ _ _ hP hS (lv_sub hl [3, 4, 5, 6, 7, 8, 9, 10] rfl) h
  · replace h := it_n c_14 h
    refine lv_iconst (v := 1) hx hb dX6_attemptFrom_147 (by decide) ?_
    obtain ⟨rfl, rfl⟩ := Prod.mk.inj (Option.some.inj h)
    exact hret (Or.inr rfl) _ _ _ _ hP hS dX6_attemptFrom_148
def fX6_attemptFrom_61 (rc : Int32 → Int32 → Int32 → Int32 → Mm → Option (Int32 × Mm)) (x2 : Int32) (x3 : Int32) (x4 : Int32) (x5 : Int32) (x6 : Int32) : Nat → Int32 → Mm → Option (Int32 × Mm)
  | 0, _, _ => none
  | n + 1, x7, w => (if (w.1 23 2) ≤ x7 then some (0, w) else (if x7 = (-1) then fX6_attemptFrom_89 rc (fX6_attemptFrom_61 rc x2 x3 x4 x5 x6 n) x2 x3 x4 x5 x6 x7 w else bo (fX2_bearsSaying_23 x2 x7 w) (fun r_18 => (if r_18 = 0 then fX6_attemptFrom_149 rc (fX6_attemptFrom_61 rc x2 x3 x4 x5 x6 n) x2 x3 x4 x5 x6 x7 w else fX6_attemptFrom_89 rc (fX6_attemptFrom_61 rc x2 x3 x4 x5 x6 n) x2 x3 x4 x5 x6 x7 w))))
set_option maxRecDepth 20000 in
theorem bX6_attemptFrom_61 {p : Program} {l : Launch} {e : Env} {s : State} {m : MethodId} {args : Array Value} {below : List Frame} {meth : Method} {c : Code} {Q : State → Prop} {D : va_G} {c3 : C3} {ad : Nat → Nat} {A : Nat → Prop} {r : Int32} {w' : Mm} {fR lR : Nat} {rc : Int32 → Int32 → Int32 → Int32 → Mm → Option (Int32 × Mm)} (X : Cx p s m args c cX6_attemptFrom 11 RX6 wsX6_attemptFrom D c3 (encC c3 ad) gC A) (hret : Rz p l e (rmX6_attemptFrom fR lR) s m args below meth c Q cX6_attemptFrom D (encC c3 ad) A r w') (hrc : ∀ (a0 a1 a2 a3 : Int32) (v : Mm) (sz : Nat) (r2 : Int32) (v2 : Mm), rc a0 a1 a2 a3 v = some (r2, v2) → Ci l yX6_attemptFrom wsX6_attemptFrom (mkR fR lR) D c3 (encC c3 ad) gC [.ref (ad 39), .ref (ad 23), .int a0, .int a1, .int a2, .int a3] v sz r2 v2) : ∀ (x2 : Int32) (x3 : Int32) (x4 : Int32) (x5 : Int32) (x6 : Int32) (n : Nat) (x7 : Int32) (w : Mm) (H : Heap) (locs : List Loc) (ls : Array Slot), va_P D vwCl ((encC c3 ad) w) H → va_S A s.heap H locs → lv_has ls 11 [(0, .ref (ad 39)), (1, .ref (ad 23)), (2, .int x2), (3, .int x3), (4, .int x4), (5, .int x5), (6, .int x6), (7, .int x7)] → fX6_attemptFrom_61 rc x2 x3 x4 x5 x6 n x7 w = some (r, w') → W p l e (rmX6_attemptFrom fR lR) s m args below meth c H locs 0 0 Q (F0 m 61 ls []) := by
  have hx := X.1
  have hb := X.2.1
  have hml := X.2.2.1
  have hown := X.2.2.2.1
  have hts := X.2.2.2.2.1
  intro x2 x3 x4 x5 x6 n
  induction n with
  | zero =>
    intro x7 w H locs ls hP hS hl h
    exact absurd h (by simp [fX6_attemptFrom_61])
  | succ n ih =>
    intro x7 w H locs ls hP hS hl h
    rw [fX6_attemptFrom_61] at h
    refine lv_iload hx hb dX6_attemptFrom_61 (lv_at hl 7 rfl) ?_
    refine lv_aload_n hx hb dX6_attemptFrom_63 rfl (lv_at hl 1 rfl) ?_
    refine x_get (rest := [.int x7]) X hP (gC23 c3 ad w) rfl iwX6_attemptFrom_X2 2 (by decide) lkX6_attemptFrom_42 rfl dX6_attemptFrom_64 ?_
    refine lv_icmp_ge (tgt := 155) hx hb dX6_attemptFrom_67 (by decide) (fun c_15 => ?_) (fun c_15 => ?_)
    · replace h := it_p c_15 h
      refine lv_iconst (v := 0) hx hb dX6_attemptFrom_155 (by decide) ?_
      obtain ⟨rfl, rfl⟩ := Prod.mk.inj (Option.some.inj h)
      exact hret (Or.inl rfl) _ _ _ _ hP hS dX6_attemptFrom_156
    · replace h := it_n c_15 h
      refine lv_iload hx hb dX6_attemptFrom_70 (lv_at hl 7 rfl) ?_
      refine lv_iconst (v := (-1)) hx hb dX6_attemptFrom_72 (by decide) ?_
      refine lv_icmp_eq (tgt := 89) hx hb dX6_attemptFrom_73 (by decide) (fun c_16 => ?_) (fun c_16 => ?_)
      · replace h := it_p c_16 h
        exact bX6_attemptFrom_89 (x2 := x2) (x3 := x3) (x4 := x4) (x5 := x5) (x6 := x6) (k61 := (fX6_attemptFrom_61 rc x2 x3 x4 x5 x6 n)) X hret hrc ih x7 w _ _ _ hP hS (lv_sub hl [0, 1, 2, 3, 4, 5, 6, 7] rfl) h
      · replace h := it_n c_16 h
        refine lv_aload_n hx hb dX6_attemptFrom_76 rfl (lv_at hl 1 rfl) ?_
        refine lv_iload_n hx hb dX6_attemptFrom_77 rfl (lv_at hl 2 rfl) ?_
        refine lv_iload hx hb dX6_attemptFrom_78 (lv_at hl 7 rfl) ?_
        obtain ⟨r_18, e_17, h⟩ := bo_s h
        refine x_goi X hS (x_runV (As := [.int x2, .int x7]) (rest := []) X gC_ok hP hS (ctX2_bearsSaying_23 l D c3 ad w _ x2 x7 _ e_17) (cwV 2 hts gX6_attemptFrom_X2_bearsSaying rfl rfl rfl (by decide +kernel) (by dsimp only [rmX6_attemptFrom, rmX2_bearsSaying_23]; constructor <;> omega)) (gC23 c3 ad w) rfl rfl rfl hl.1 rfl (Nat.le_of_ble_eq_true rfl) dX6_attemptFrom_80) (fun H locs hP hS => ?_)
        refine lv_if_ne (tgt := 89) hx hb dX6_attemptFrom_83 (by decide) (fun c_20 => ?_) (fun c_20 => ?_)
        · replace h := it_n c_20 h
          exact bX6_attemptFrom_89 (x2 := x2) (x3 := x3) (x4 := x4) (x5 := x5) (x6 := x6) (k61 := (fX6_attemptFrom_61 rc x2 x3 x4 x5 x6 n)) X hret hrc ih x7 w _ _ _ hP hS (lv_sub hl [0, 1, 2, 3, 4, 5, 6, 7] rfl) h
        · replace h := it_p c_20 h
          refine lv_goto (tgt := 149) hx hb dX6_attemptFrom_86 (by decide) ?_
          exact bX6_attemptFrom_149 (x2 := x2) (x3 := x3) (x4 := x4) (x5 := x5) (x6 := x6) (k61 := (fX6_attemptFrom_61 rc x2 x3 x4 x5 x6 n)) X hret hrc ih x7 w _ _ _ hP hS (lv_sub hl [0, 1, 2, 3, 4, 5, 6, 7] rfl) h
def fX6_attemptFrom_56 (rc : Int32 → Int32 → Int32 → Int32 → Mm → Option (Int32 × Mm)) (x2 : Int32) (x3 : Int32) (x4 : Int32) (x5 : Int32) (z0 : Int32) (w : Mm) : Option (Int32 × Mm) := fX6_attemptFrom_61 rc x2 x3 x4 x5 z0 FU (-1) w
set_option maxRecDepth 20000 in
theorem bX6_attemptFrom_56 {p : Program} {l : Launch} {e : Env} {s : State} {m : MethodId} {args : Array Value} {below : List Frame} {meth : Method} {c : Code} {Q : State → Prop} {D : va_G} {c3 : C3} {ad : Nat → Nat} {A : Nat → Prop} {r : Int32} {w' : Mm} {fR lR : Nat} {rc : Int32 → Int32 → Int32 → Int32 → Mm → Option (Int32 × Mm)} (X : Cx p s m args c cX6_attemptFrom 11 RX6 wsX6_attemptFrom D c3 (encC c3 ad) gC A) (hret : Rz p l e (rmX6_attemptFrom fR lR) s m args below meth c Q cX6_attemptFrom D (encC c3 ad) A r w') (hrc : ∀ (a0 a1 a2 a3 : Int32) (v : Mm) (sz : Nat) (r2 : Int32) (v2 : Mm), rc a0 a1 a2 a3 v = some (r2, v2) → Ci l yX6_attemptFrom wsX6_attemptFrom (mkR fR lR) D c3 (encC c3 ad) gC [.ref (ad 39), .ref (ad 23), .int a0, .int a1, .int a2, .int a3] v sz r2 v2) : ∀ (x2 : Int32) (x3 : Int32) (x4 : Int32) (x5 : Int32) (z0 : Int32) (w : Mm) (H : Heap) (locs : List Loc) (ls : Array Slot), va_P D vwCl ((encC c3 ad) w) H → va_S A s.heap H locs → lv_has ls 11 [(0, .ref (ad 39)), (1, .ref (ad 23)), (2, .int x2), (3, .int x3), (4, .int x4), (5, .int x5)] → fX6_attemptFrom_56 rc x2 x3 x4 x5 z0 w = some (r, w') → W p l e (rmX6_attemptFrom fR lR) s m args below meth c H locs 0 0 Q (F0 m 56 ls [.int z0]) := by
  have hx := X.1
  have hb := X.2.1
  have hml := X.2.2.1
  have hown := X.2.2.2.1
  have hts := X.2.2.2.2.1
  intro x2 x3 x4 x5 z0 w H locs ls hP hS hl h
  unfold fX6_attemptFrom_56 at h
  refine lv_istore (lv' := [(6, .int z0), (0, .ref (ad 39)), (1, .ref (ad 23)), (2, .int x2), (3, .int x3), (4, .int x4), (5, .int x5)]) hx hb dX6_attemptFrom_56 hl (by decide) rfl (fun ls hl => ?_)
  refine lv_iconst (v := (-1)) hx hb dX6_attemptFrom_58 (by decide) ?_
  refine lv_istore (lv' := [(7, .int (-1)), (6, .int z0), (0, .ref (ad 39)), (1, .ref (ad 23)), (2, .int x2), (3, .int x3), (4, .int x4), (5, .int x5)]) hx hb dX6_attemptFrom_59 hl (by decide) rfl (fun ls hl => ?_)
  exact bX6_attemptFrom_61 X hret hrc x2 x3 x4 x5 z0 FU (-1) w _ _ _ hP hS (lv_sub hl [2, 3, 4, 5, 6, 7, 1, 0] rfl) h
def fX6_attemptFrom_11 (rc : Int32 → Int32 → Int32 → Int32 → Mm → Option (Int32 × Mm)) (x5 : Int32) (w : Mm) : Option (Int32 × Mm) := (if x5 = 0 then bd (fX6_noteEnd w) (fun r_23 w_24 => gd (r_23 = 0 ∨ r_23 = 1) (some (r_23, w_24))) else (if (w.1 23 8) = 7 then some (1, w) else some (0, w)))
set_option maxRecDepth 20000 in
theorem bX6_attemptFrom_11 {p : Program} {l : Launch} {e : Env} {s : State} {m : MethodId} {args : Array Value} {below : List Frame} {meth : Method} {c : Code} {Q : State → Prop} {D : va_G} {c3 : C3} {ad : Nat → Nat} {A : Nat → Prop} {r : Int32} {w' : Mm} {fR lR : Nat} {rc : Int32 → Int32 → Int32 → Int32 → Mm → Option (Int32 × Mm)} (X : Cx p s m args c cX6_attemptFrom 11 RX6 wsX6_attemptFrom D c3 (encC c3 ad) gC A) (hret : Rz p l e (rmX6_attemptFrom fR lR) s m args below meth c Q cX6_attemptFrom D (encC c3 ad) A r w') (hrc : ∀ (a0 a1 a2 a3 : Int32) (v : Mm) (sz : Nat) (r2 : Int32) (v2 : Mm), rc a0 a1 a2 a3 v = some (r2, v2) → Ci l yX6_attemptFrom wsX6_attemptFrom (mkR fR lR) D c3 (encC c3 ad) gC [.ref (ad 39), .ref (ad 23), .int a0, .int a1, .int a2, .int a3] v sz r2 v2) : ∀ (x5 : Int32) (w : Mm) (H : Heap) (locs : List Loc) (ls : Array Slot), va_P D vwCl ((encC c3 ad) w) H → va_S A s.heap H locs → lv_has ls 11 [(0, .ref (ad 39)), (1, .ref (ad 23)), (5, .int x5)] → fX6_attemptFrom_11 rc x5 w = some (r, w') → W p l e (rmX6_attemptFrom fR lR) s m args below meth c H locs 0 0 Q (F0 m 11 ls []) := by
  have hx := X.1
  have hb := X.2.1
  have hml := X.2.2.1
  have hown := X.2.2.2.1
  have hts := X.2.2.2.2.1
  intro x5 w H locs ls hP hS hl h
  unfold fX6_attemptFrom_11 at h
  refine lv_iload hx hb dX6_attemptFrom_11 (lv_at hl 2 rfl) ?_
  refine lv_if_eq (tgt := 33) hx hb dX6_attemptFrom_13 (by decide) (fun c_21 => ?_) (fun c_21 => ?_)
  · replace h := it_p c_21 h
    refine lv_aload_n hx hb dX6_attemptFrom_33 rfl (lv_at hl 0 rfl) ?_
    refine lv_aload_n hx hb dX6_attemptFrom_34 rfl (lv_at hl 1 rfl) ?_
    obtain ⟨r_23, w_24, e_22, h⟩ := bd_s h
    refine x_goi X hS (x_runV (As := [.ref (ad 23)]) (rest := []) X gC_ok hP hS (ctX6_noteEnd l D c3 ad w _ _ _ e_22) (cwV 1 hts gX6_attemptFrom_X6_noteEnd rfl rfl rfl (by decide +kernel) (by dsimp only [rmX6_attemptFrom, rmX6_noteEnd]; constructor <;> omega)) (gC39 c3 ad w) rfl rfl rfl hl.1 rfl (Nat.le_of_ble_eq_true rfl) dX6_attemptFrom_35) (fun H locs hP hS => ?_)
    obtain ⟨g_25, h⟩ := gd_s h
    obtain ⟨rfl, rfl⟩ := Prod.mk.inj (Option.some.inj h)
    exact hret g_25 _ _ _ _ hP hS dX6_attemptFrom_38
  · replace h := it_n c_21 h
    refine lv_aload_n hx hb dX6_attemptFrom_16 rfl (lv_at hl 1 rfl) ?_
    refine x_get (rest := []) X hP (gC23 c3 ad w) rfl iwX6_attemptFrom_X2 8 (by decide) lkX6_attemptFrom_30 rfl dX6_attemptFrom_17 ?_
    refine lv_bipush (v := 7) hx hb dX6_attemptFrom_20 (by decide) ?_
    refine lv_icmp_ne (tgt := 29) hx hb dX6_attemptFrom_22 (by decide) (fun c_26 => ?_) (fun c_26 => ?_)
    · replace h := it_n c_26 h
      refine lv_iconst (v := 0) hx hb dX6_attemptFrom_29 (by decide) ?_
      refine lv_goto (tgt := 38) hx hb dX6_attemptFrom_30 (by decide) ?_
      obtain ⟨rfl, rfl⟩ := Prod.mk.inj (Option.some.inj h)
      exact hret (Or.inl rfl) _ _ _ _ hP hS dX6_attemptFrom_38
    · replace h := it_p c_26 h
      refine lv_iconst (v := 1) hx hb dX6_attemptFrom_25 (by decide) ?_
      refine lv_goto (tgt := 38) hx hb dX6_attemptFrom_26 (by decide) ?_
      obtain ⟨rfl, rfl⟩ := Prod.mk.inj (Option.some.inj h)
      exact hret (Or.inr rfl) _ _ _ _ hP hS dX6_attemptFrom_38
def fX6_attemptFrom_E (rc : Int32 → Int32 → Int32 → Int32 → Mm → Option (Int32 × Mm)) (x2 : Int32) (x3 : Int32) (x4 : Int32) (x5 : Int32) (w : Mm) : Option (Int32 × Mm) := (if x4 ≤ x3 then fX6_attemptFrom_11 rc x5 w else (if x3 < 5 then (if (w.1 23 0) ≤ (x2 + 1) then fX6_attemptFrom_56 rc x2 x3 x4 x5 0 w else fX6_attemptFrom_56 rc x2 x3 x4 x5 (x2 + 1) w) else fX6_attemptFrom_11 rc x5 w))
set_option maxRecDepth 20000 in
theorem bX6_attemptFrom_E {p : Program} {l : Launch} {e : Env} {s : State} {m : MethodId} {args : Array Value} {below : List Frame} {meth : Method} {c : Code} {Q : State → Prop} {D : va_G} {c3 : C3} {ad : Nat → Nat} {A : Nat → Prop} {r : Int32} {w' : Mm} {fR lR : Nat} {rc : Int32 → Int32 → Int32 → Int32 → Mm → Option (Int32 × Mm)} (X : Cx p s m args c cX6_attemptFrom 11 RX6 wsX6_attemptFrom D c3 (encC c3 ad) gC A) (hret : Rz p l e (rmX6_attemptFrom fR lR) s m args below meth c Q cX6_attemptFrom D (encC c3 ad) A r w') (hrc : ∀ (a0 a1 a2 a3 : Int32) (v : Mm) (sz : Nat) (r2 : Int32) (v2 : Mm), rc a0 a1 a2 a3 v = some (r2, v2) → Ci l yX6_attemptFrom wsX6_attemptFrom (mkR fR lR) D c3 (encC c3 ad) gC [.ref (ad 39), .ref (ad 23), .int a0, .int a1, .int a2, .int a3] v sz r2 v2) : ∀ (x2 : Int32) (x3 : Int32) (x4 : Int32) (x5 : Int32) (w : Mm) (H : Heap) (locs : List Loc) (ls : Array Slot), va_P D vwCl ((encC c3 ad) w) H → va_S A s.heap H locs → lv_has ls 11 [(0, .ref (ad 39)), (1, .ref (ad 23)), (2, .int x2), (3, .int x3), (4, .int x4), (5, .int x5)] → fX6_attemptFrom_E rc x2 x3 x4 x5 w = some (r, w') → W p l e (rmX6_attemptFrom fR lR) s m args below meth c H locs 0 0 Q (F0 m 0 ls []) := by
  have hx := X.1
  have hb := X.2.1
  have hml := X.2.2.1
  have hown := X.2.2.2.1
  have hts := X.2.2.2.2.1
  intro x2 x3 x4 x5 w H locs ls hP hS hl h
  unfold fX6_attemptFrom_E at h
  refine lv_iload_n hx hb dX6_attemptFrom_0 rfl (lv_at hl 3 rfl) ?_
  refine lv_iload hx hb dX6_attemptFrom_1 (lv_at hl 4 rfl) ?_
  refine lv_icmp_ge (tgt := 11) hx hb dX6_attemptFrom_3 (by decide) (fun c_27 => ?_) (fun c_27 => ?_)
  · replace h := it_p c_27 h
    exact bX6_attemptFrom_11 X hret hrc x5 w _ _ _ hP hS (lv_sub hl [0, 1, 5] rfl) h
  · replace h := it_n c_27 h
    refine lv_iload_n hx hb dX6_attemptFrom_6 rfl (lv_at hl 3 rfl) ?_
    refine lv_iconst (v := 5) hx hb dX6_attemptFrom_7 (by decide) ?_
    refine lv_icmp_lt (tgt := 39) hx hb dX6_attemptFrom_8 (by decide) (fun c_28 => ?_) (fun c_28 => ?_)
    · replace h := it_p c_28 h
      refine lv_iload_n hx hb dX6_attemptFrom_39 rfl (lv_at hl 2 rfl) ?_
      refine lv_iconst (v := 1) hx hb dX6_attemptFrom_40 (by decide) ?_
      refine lv_iadd hx hb dX6_attemptFrom_41 ?_
      refine lv_aload_n hx hb dX6_attemptFrom_42 rfl (lv_at hl 1 rfl) ?_
      refine x_get (rest := [.int (x2 + 1)]) X hP (gC23 c3 ad w) rfl iwX6_attemptFrom_X2 0 (by decide) lkX6_attemptFrom_39 rfl dX6_attemptFrom_43 ?_
      refine lv_icmp_ge (tgt := 55) hx hb dX6_attemptFrom_46 (by decide) (fun c_29 => ?_) (fun c_29 => ?_)
      · replace h := it_p c_29 h
        refine lv_iconst (v := 0) hx hb dX6_attemptFrom_55 (by decide) ?_
        exact bX6_attemptFrom_56 X hret hrc x2 x3 x4 x5 0 w _ _ _ hP hS (lv_sub hl [0, 1, 2, 3, 4, 5] rfl) h
      · replace h := it_n c_29 h
        refine lv_iload_n hx hb dX6_attemptFrom_49 rfl (lv_at hl 2 rfl) ?_
        refine lv_iconst (v := 1) hx hb dX6_attemptFrom_50 (by decide) ?_
        refine lv_iadd hx hb dX6_attemptFrom_51 ?_
        refine lv_goto (tgt := 56) hx hb dX6_attemptFrom_52 (by decide) ?_
        exact bX6_attemptFrom_56 X hret hrc x2 x3 x4 x5 (x2 + 1) w _ _ _ hP hS (lv_sub hl [0, 1, 2, 3, 4, 5] rfl) h
    · replace h := it_n c_28 h
      exact bX6_attemptFrom_11 X hret hrc x5 w _ _ _ hP hS (lv_sub hl [0, 1, 5] rfl) h
theorem ctX6_attemptFrom_S (l : Launch) (D : va_G) (c3 : C3) (ad : Nat → Nat) (w : Mm) (sz : Nat) {fR lR : Nat} {rc : Int32 → Int32 → Int32 → Int32 → Mm → Option (Int32 × Mm)} (hrc : ∀ (a0 a1 a2 a3 : Int32) (v : Mm) (sz : Nat) (r2 : Int32) (v2 : Mm), rc a0 a1 a2 a3 v = some (r2, v2) → Ci l yX6_attemptFrom wsX6_attemptFrom (mkR fR lR) D c3 (encC c3 ad) gC [.ref (ad 39), .ref (ad 23), .int a0, .int a1, .int a2, .int a3] v sz r2 v2) (x2 : Int32) (x3 : Int32) (x4 : Int32) (x5 : Int32) (r : Int32) (w' : Mm) (h : fX6_attemptFrom_E rc x2 x3 x4 x5 w = some (r, w')) : Ci l yX6_attemptFrom wsX6_attemptFrom (rmX6_attemptFrom fR lR) D c3 (encC c3 ad) gC [.ref (ad 39), .ref (ad 23), .int x2, .int x3, .int x4, .int x5] w sz r w' := by
  refine Ci.ofz (cc := cX6_attemptFrom) (maxL := 11) (encC_ok c3 ad) (by decide) rfl (Nat.le_of_ble_eq_true rfl) ?_
  intro p e s m below meth c A Q ls X hret hP hS hl
  exact bX6_attemptFrom_E X hret hrc x2 x3 x4 x5 w _ _ ls hP hS hl h
def fX6_attemptFrom : Nat → Int32 → Int32 → Int32 → Int32 → Mm → Option (Int32 × Mm)
  | 0, _, _, _, _, _ => none
  | d + 1, x2, x3, x4, x5, w => fX6_attemptFrom_E (fX6_attemptFrom d) x2 x3 x4 x5 w
theorem ctX6_attemptFrom (l : Launch) (D : va_G) (c3 : C3) (ad : Nat → Nat) (w : Mm) (sz : Nat) (d : Nat) (x2 : Int32) (x3 : Int32) (x4 : Int32) (x5 : Int32) (r : Int32) (w' : Mm) (h : fX6_attemptFrom d x2 x3 x4 x5 w = some (r, w')) : Ci l yX6_attemptFrom wsX6_attemptFrom (mkR (5 * d) (109 * d)) D c3 (encC c3 ad) gC [.ref (ad 39), .ref (ad 23), .int x2, .int x3, .int x4, .int x5] w sz r w' := by
  induction d generalizing w sz x2 x3 x4 x5 r w' with
  | zero => exact absurd h (by simp [fX6_attemptFrom])
  | succ d ih =>
    rw [fX6_attemptFrom] at h
    exact ctX6_attemptFrom_S (fR := 5 * d) (lR := 109 * d) (rc := fX6_attemptFrom d) l D c3 ad w sz (fun a0 a1 a2 a3 v sz r2 v2 h2 => ih v sz a0 a1 a2 a3 r2 v2 h2) x2 x3 x4 x5 r w' h
def rmX6_findFirst : Room := { frames := 51, cells := 0, slots := 0, locals := 1120 }
def fX6_findFirst_E (x2 : Int32) (x3 : Int32) (w : Mm) : Option (Int32 × Mm) := bd (fX6_attemptFrom DEP x2 0 x3 1 w) (fun r_2 w_3 => gd (r_2 = 0 ∨ r_2 = 1) (some (r_2, w_3)))
set_option maxRecDepth 20000 in
theorem bX6_findFirst_E {p : Program} {l : Launch} {e : Env} {s : State} {m : MethodId} {args : Array Value} {below : List Frame} {meth : Method} {c : Code} {Q : State → Prop} {D : va_G} {c3 : C3} {ad : Nat → Nat} {A : Nat → Prop} {r : Int32} {w' : Mm} (X : Cx p s m args c cX6_findFirst 4 RX6 wsX6_findFirst D c3 (encC c3 ad) gC A) (hret : Rz p l e (rmX6_findFirst) s m args below meth c Q cX6_findFirst D (encC c3 ad) A r w') : ∀ (x2 : Int32) (x3 : Int32) (w : Mm) (H : Heap) (locs : List Loc) (ls : Array Slot), va_P D vwCl ((encC c3 ad) w) H → va_S A s.heap H locs → lv_has ls 4 [(0, .ref (ad 39)), (1, .ref (ad 23)), (2, .int x2), (3, .int x3)] → fX6_findFirst_E x2 x3 w = some (r, w') → W p l e (rmX6_findFirst) s m args below meth c H locs 0 0 Q (F0 m 0 ls []) := by
  have hx := X.1
  have hb := X.2.1
  have hml := X.2.2.1
  have hown := X.2.2.2.1
  have hts := X.2.2.2.2.1
  intro x2 x3 w H locs ls hP hS hl h
  unfold fX6_findFirst_E at h
  refine lv_aload_n hx hb dX6_findFirst_0 rfl (lv_at hl 0 rfl) ?_
  refine lv_aload_n hx hb dX6_findFirst_1 rfl (lv_at hl 1 rfl) ?_
  refine lv_iload_n hx hb dX6_findFirst_2 rfl (lv_at hl 2 rfl) ?_
  refine lv_iconst (v := 0) hx hb dX6_findFirst_3 (by decide) ?_
  refine lv_iload_n hx hb dX6_findFirst_4 rfl (lv_at hl 3 rfl) ?_
  refine lv_iconst (v := 1) hx hb dX6_findFirst_5 (by decide) ?_
  obtain ⟨r_2, w_3, e_1, h⟩ := bd_s h
  refine x_goi X hS (x_runV (As := [.ref (ad 23), .int x2, .int 0, .int x3, .int 1]) (rest := []) X gC_ok hP hS (ctX6_attemptFrom l D c3 ad w _ DEP x2 0 x3 1 _ _ e_1) (cwV 5 hts gX6_findFirst_X6_attemptFrom rfl rfl rfl (by decide +kernel) (by decide)) (gC39 c3 ad w) rfl rfl rfl hl.1 rfl (Nat.le_of_ble_eq_true rfl) dX6_findFirst_6) (fun H locs hP hS => ?_)
  obtain ⟨g_4, h⟩ := gd_s h
  obtain ⟨rfl, rfl⟩ := Prod.mk.inj (Option.some.inj h)
  exact hret g_4 _ _ _ _ hP hS dX6_findFirst_9
def fX6_findFirst (x2 : Int32) (x3 : Int32) (w : Mm) : Option (Int32 × Mm) := fX6_findFirst_E x2 x3 w
theorem ctX6_findFirst (l : Launch) (D : va_G) (c3 : C3) (ad : Nat → Nat) (w : Mm) (sz : Nat) (x2 : Int32) (x3 : Int32) (r : Int32) (w' : Mm) (h : fX6_findFirst x2 x3 w = some (r, w')) : Ci l yX6_findFirst wsX6_findFirst rmX6_findFirst D c3 (encC c3 ad) gC [.ref (ad 39), .ref (ad 23), .int x2, .int x3] w sz r w' := by
  refine Ci.ofz (cc := cX6_findFirst) (maxL := 4) (encC_ok c3 ad) (by decide) rfl (Nat.le_of_ble_eq_true rfl) ?_
  intro p e s m below meth c A Q ls X hret hP hS hl
  exact bX6_findFirst_E X hret x2 x3 w _ _ ls hP hS hl h

theorem iwX5_howMany_X5 : ∀ w ∈ wsX50, w ∈ wsX5_howMany := fun _ h => List.mem_cons_of_mem _ (List.mem_append_right _ h)
theorem lkX5_howMany_16 : Cond.fieldLink RX5 16 "StuckDoor$Rows" "sizes" "[I" ∈ wsX5_howMany := by decide +kernel
def rmX5_howMany_1 : Room := { frames := 0, cells := 0, slots := 0, locals := 0 }
def fX5_howMany_1_26 (k4 : Int32 → Int32 → Option (Int32)) (x1 : Int32) (x2 : Int32) (w : Mm) : Option (Int32) := k4 x1 (x2 + 1)
set_option maxRecDepth 20000 in
theorem bX5_howMany_1_26 {p : Program} {l : Launch} {e : Env} {s : State} {m : MethodId} {args : Array Value} {below : List Frame} {meth : Method} {c : Code} {Q : State → Prop} {D : va_G} {c3 : C3} {ad : Nat → Nat} {A : Nat → Prop} {r : Int32} {w : Mm} (X : Cx p s m args c cX5_howMany 3 RX5 wsX5_howMany D c3 (encC c3 ad) gC A) (hret : Ri p l e (rmX5_howMany_1) s m args below meth c Q cX5_howMany D (encC c3 ad) A r w) {k4 : Int32 → Int32 → Option (Int32)} (hk4 : ∀ (x1 : Int32) (x2 : Int32) (H : Heap) (locs : List Loc) (ls : Array Slot), va_P D vwCl ((encC c3 ad) w) H → va_S A s.heap H locs → lv_has ls 3 [(0, .ref (ad 1)), (1, .int x1), (2, .int x2)] → k4 x1 x2 = some r → W p l e (rmX5_howMany_1) s m args below meth c H locs 0 0 Q (F0 m 4 ls [])) : ∀ (x1 : Int32) (x2 : Int32) (H : Heap) (locs : List Loc) (ls : Array Slot), va_P D vwCl ((encC c3 ad) w) H → va_S A s.heap H locs → lv_has ls 3 [(0, .ref (ad 1)), (1, .int x1), (2, .int x2)] → fX5_howMany_1_26 k4 x1 x2 w = some r → W p l e (rmX5_howMany_1) s m args below meth c H locs 0 0 Q (F0 m 26 ls []) := by
  have hx := X.1
  have hb := X.2.1
  have hml := X.2.2.1
  have hown := X.2.2.2.1
  have hts := X.2.2.2.2.1
  intro x1 x2 H locs ls hP hS hl h
  unfold fX5_howMany_1_26 at h
  refine lv_iinc (v := (x2 + 1)) (lv' := [(2, .int (x2 + 1)), (0, .ref (ad 1)), (1, .int x1)]) hx hb dX5_howMany_26 hl (k := 2) rfl rfl (by decide) rfl (fun ls hl => ?_)
  refine lv_goto (tgt := 4) hx hb dX5_howMany_29 (by decide) ?_
  exact hk4 x1 (x2 + 1) _ _ _ hP hS (lv_sub hl [1, 2, 0] rfl) h
def fX5_howMany_1_4 (w : Mm) : Nat → Int32 → Int32 → Option (Int32)
  | 0, _, _ => none
  | n + 1, x1, x2 => (if 6 ≤ x2 then some x1 else gd (inb x2 6 = true) ((if (w.1 3 x2.toNatClampNeg) = (-1) then fX5_howMany_1_26 (fX5_howMany_1_4 w n) x1 x2 w else fX5_howMany_1_26 (fX5_howMany_1_4 w n) (x1 + 1) x2 w)))
set_option maxRecDepth 20000 in
theorem bX5_howMany_1_4 {p : Program} {l : Launch} {e : Env} {s : State} {m : MethodId} {args : Array Value} {below : List Frame} {meth : Method} {c : Code} {Q : State → Prop} {D : va_G} {c3 : C3} {ad : Nat → Nat} {A : Nat → Prop} {r : Int32} {w : Mm} (X : Cx p s m args c cX5_howMany 3 RX5 wsX5_howMany D c3 (encC c3 ad) gC A) (hret : Ri p l e (rmX5_howMany_1) s m args below meth c Q cX5_howMany D (encC c3 ad) A r w) : ∀ (n : Nat) (x1 : Int32) (x2 : Int32) (H : Heap) (locs : List Loc) (ls : Array Slot), va_P D vwCl ((encC c3 ad) w) H → va_S A s.heap H locs → lv_has ls 3 [(0, .ref (ad 1)), (1, .int x1), (2, .int x2)] → fX5_howMany_1_4 w n x1 x2 = some r → W p l e (rmX5_howMany_1) s m args below meth c H locs 0 0 Q (F0 m 4 ls []) := by
  have hx := X.1
  have hb := X.2.1
  have hml := X.2.2.1
  have hown := X.2.2.2.1
  have hts := X.2.2.2.2.1
  intro n
  induction n with
  | zero =>
    intro x1 x2 H locs ls hP hS hl h
    exact absurd h (by simp [fX5_howMany_1_4])
  | succ n ih =>
    intro x1 x2 H locs ls hP hS hl h
    rw [fX5_howMany_1_4] at h
    refine lv_iload_n hx hb dX5_howMany_4 rfl (lv_at hl 2 rfl) ?_
    refine lv_aload_n hx hb dX5_howMany_5 rfl (lv_at hl 0 rfl) ?_
    refine x_get (rest := [.int x2]) X hP (gC1 c3 ad w) rfl iwX5_howMany_X5 1 (by decide) lkX5_howMany_16 rfl dX5_howMany_6 ?_
    refine x_alen (v := 6) X hP (gC3 c3 ad w) rfl dX5_howMany_9 ?_
    refine lv_icmp_ge (tgt := 32) hx hb dX5_howMany_10 (by decide) (fun c_1 => ?_) (fun c_1 => ?_)
    · replace h := it_p c_1 h
      refine lv_iload_n hx hb dX5_howMany_32 rfl (lv_at hl 1 rfl) ?_
      obtain rfl := Option.some.inj h
      exact hret _ _ _ _ hP hS dX5_howMany_33
    · replace h := it_n c_1 h
      refine lv_aload_n hx hb dX5_howMany_13 rfl (lv_at hl 0 rfl) ?_
      refine x_get (rest := []) X hP (gC1 c3 ad w) rfl iwX5_howMany_X5 1 (by decide) lkX5_howMany_16 rfl dX5_howMany_14 ?_
      refine lv_iload_n hx hb dX5_howMany_17 rfl (lv_at hl 2 rfl) ?_
      obtain ⟨g_2, h⟩ := gd_s h
      refine x_iald X hP (gC3 c3 ad w) g_2 dX5_howMany_18 ?_
      refine lv_iconst (v := (-1)) hx hb dX5_howMany_19 (by decide) ?_
      refine lv_icmp_eq (tgt := 26) hx hb dX5_howMany_20 (by decide) (fun c_3 => ?_) (fun c_3 => ?_)
      · replace h := it_p c_3 h
        exact bX5_howMany_1_26 (k4 := (fX5_howMany_1_4 w n)) X hret ih x1 x2 _ _ _ hP hS (lv_sub hl [0, 1, 2] rfl) h
      · replace h := it_n c_3 h
        refine lv_iinc (v := (x1 + 1)) (lv' := [(1, .int (x1 + 1)), (0, .ref (ad 1)), (2, .int x2)]) hx hb dX5_howMany_23 hl (k := 1) rfl rfl (by decide) rfl (fun ls hl => ?_)
        exact bX5_howMany_1_26 (k4 := (fX5_howMany_1_4 w n)) X hret ih (x1 + 1) x2 _ _ _ hP hS (lv_sub hl [1, 0, 2] rfl) h
def fX5_howMany_1_E (w : Mm) : Option (Int32) := fX5_howMany_1_4 w FU 0 0
set_option maxRecDepth 20000 in
theorem bX5_howMany_1_E {p : Program} {l : Launch} {e : Env} {s : State} {m : MethodId} {args : Array Value} {below : List Frame} {meth : Method} {c : Code} {Q : State → Prop} {D : va_G} {c3 : C3} {ad : Nat → Nat} {A : Nat → Prop} {r : Int32} {w : Mm} (X : Cx p s m args c cX5_howMany 3 RX5 wsX5_howMany D c3 (encC c3 ad) gC A) (hret : Ri p l e (rmX5_howMany_1) s m args below meth c Q cX5_howMany D (encC c3 ad) A r w) : ∀ (H : Heap) (locs : List Loc) (ls : Array Slot), va_P D vwCl ((encC c3 ad) w) H → va_S A s.heap H locs → lv_has ls 3 [(0, .ref (ad 1))] → fX5_howMany_1_E w = some r → W p l e (rmX5_howMany_1) s m args below meth c H locs 0 0 Q (F0 m 0 ls []) := by
  have hx := X.1
  have hb := X.2.1
  have hml := X.2.2.1
  have hown := X.2.2.2.1
  have hts := X.2.2.2.2.1
  intro H locs ls hP hS hl h
  unfold fX5_howMany_1_E at h
  refine lv_iconst (v := 0) hx hb dX5_howMany_0 (by decide) ?_
  refine lv_istore_n (lv' := [(1, .int 0), (0, .ref (ad 1))]) hx hb dX5_howMany_1 rfl hl (by decide) rfl (fun ls hl => ?_)
  refine lv_iconst (v := 0) hx hb dX5_howMany_2 (by decide) ?_
  refine lv_istore_n (lv' := [(2, .int 0), (1, .int 0), (0, .ref (ad 1))]) hx hb dX5_howMany_3 rfl hl (by decide) rfl (fun ls hl => ?_)
  exact bX5_howMany_1_4 X hret FU 0 0 _ _ _ hP hS (lv_sub hl [2, 1, 0] rfl) h
def fX5_howMany_1 (w : Mm) : Option (Int32) := fX5_howMany_1_E w
theorem ctX5_howMany_1 (l : Launch) (D : va_G) (c3 : C3) (ad : Nat → Nat) (w : Mm) (sz : Nat) (r : Int32) (h : fX5_howMany_1 w = some r) : Ci l yX5_howMany wsX5_howMany rmX5_howMany_1 D c3 (encC c3 ad) gC [.ref (ad 1)] w sz r w := by
  refine Ci.of (cc := cX5_howMany) (maxL := 3) (encC_ok c3 ad) (by decide) rfl (Nat.le_of_ble_eq_true rfl) ?_
  intro p e s m below meth c A Q ls X hret hP hS hl
  exact bX5_howMany_1_E X hret _ _ ls hP hS hl h
def rmX5_howMany_10 : Room := { frames := 0, cells := 0, slots := 0, locals := 0 }
def fX5_howMany_10_26 (k4 : Int32 → Int32 → Option (Int32)) (x1 : Int32) (x2 : Int32) (w : Mm) : Option (Int32) := k4 x1 (x2 + 1)
set_option maxRecDepth 20000 in
theorem bX5_howMany_10_26 {p : Program} {l : Launch} {e : Env} {s : State} {m : MethodId} {args : Array Value} {below : List Frame} {meth : Method} {c : Code} {Q : State → Prop} {D : va_G} {c3 : C3} {ad : Nat → Nat} {A : Nat → Prop} {r : Int32} {w : Mm} (X : Cx p s m args c cX5_howMany 3 RX5 wsX5_howMany D c3 (encC c3 ad) gC A) (hret : Ri p l e (rmX5_howMany_10) s m args below meth c Q cX5_howMany D (encC c3 ad) A r w) {k4 : Int32 → Int32 → Option (Int32)} (hk4 : ∀ (x1 : Int32) (x2 : Int32) (H : Heap) (locs : List Loc) (ls : Array Slot), va_P D vwCl ((encC c3 ad) w) H → va_S A s.heap H locs → lv_has ls 3 [(0, .ref (ad 10)), (1, .int x1), (2, .int x2)] → k4 x1 x2 = some r → W p l e (rmX5_howMany_10) s m args below meth c H locs 0 0 Q (F0 m 4 ls [])) : ∀ (x1 : Int32) (x2 : Int32) (H : Heap) (locs : List Loc) (ls : Array Slot), va_P D vwCl ((encC c3 ad) w) H → va_S A s.heap H locs → lv_has ls 3 [(0, .ref (ad 10)), (1, .int x1), (2, .int x2)] → fX5_howMany_10_26 k4 x1 x2 w = some r → W p l e (rmX5_howMany_10) s m args below meth c H locs 0 0 Q (F0 m 26 ls []) := by
  have hx := X.1
  have hb := X.2.1
  have hml := X.2.2.1
  have hown := X.2.2.2.1
  have hts := X.2.2.2.2.1
  intro x1 x2 H locs ls hP hS hl h
  unfold fX5_howMany_10_26 at h
  refine lv_iinc (v := (x2 + 1)) (lv' := [(2, .int (x2 + 1)), (0, .ref (ad 10)), (1, .int x1)]) hx hb dX5_howMany_26 hl (k := 2) rfl rfl (by decide) rfl (fun ls hl => ?_)
  refine lv_goto (tgt := 4) hx hb dX5_howMany_29 (by decide) ?_
  exact hk4 x1 (x2 + 1) _ _ _ hP hS (lv_sub hl [1, 2, 0] rfl) h
def fX5_howMany_10_4 (w : Mm) : Nat → Int32 → Int32 → Option (Int32)
  | 0, _, _ => none
  | n + 1, x1, x2 => (if 4 ≤ x2 then some x1 else gd (inb x2 4 = true) ((if (w.1 12 x2.toNatClampNeg) = (-1) then fX5_howMany_10_26 (fX5_howMany_10_4 w n) x1 x2 w else fX5_howMany_10_26 (fX5_howMany_10_4 w n) (x1 + 1) x2 w)))
set_option maxRecDepth 20000 in
theorem bX5_howMany_10_4 {p : Program} {l : Launch} {e : Env} {s : State} {m : MethodId} {args : Array Value} {below : List Frame} {meth : Method} {c : Code} {Q : State → Prop} {D : va_G} {c3 : C3} {ad : Nat → Nat} {A : Nat → Prop} {r : Int32} {w : Mm} (X : Cx p s m args c cX5_howMany 3 RX5 wsX5_howMany D c3 (encC c3 ad) gC A) (hret : Ri p l e (rmX5_howMany_10) s m args below meth c Q cX5_howMany D (encC c3 ad) A r w) : ∀ (n : Nat) (x1 : Int32) (x2 : Int32) (H : Heap) (locs : List Loc) (ls : Array Slot), va_P D vwCl ((encC c3 ad) w) H → va_S A s.heap H locs → lv_has ls 3 [(0, .ref (ad 10)), (1, .int x1), (2, .int x2)] → fX5_howMany_10_4 w n x1 x2 = some r → W p l e (rmX5_howMany_10) s m args below meth c H locs 0 0 Q (F0 m 4 ls []) := by
  have hx := X.1
  have hb := X.2.1
  have hml := X.2.2.1
  have hown := X.2.2.2.1
  have hts := X.2.2.2.2.1
  intro n
  induction n with
  | zero =>
    intro x1 x2 H locs ls hP hS hl h
    exact absurd h (by simp [fX5_howMany_10_4])
  | succ n ih =>
    intro x1 x2 H locs ls hP hS hl h
    rw [fX5_howMany_10_4] at h
    refine lv_iload_n hx hb dX5_howMany_4 rfl (lv_at hl 2 rfl) ?_
    refine lv_aload_n hx hb dX5_howMany_5 rfl (lv_at hl 0 rfl) ?_
    refine x_get (rest := [.int x2]) X hP (gC10 c3 ad w) rfl iwX5_howMany_X5 1 (by decide) lkX5_howMany_16 rfl dX5_howMany_6 ?_
    refine x_alen (v := 4) X hP (gC12 c3 ad w) rfl dX5_howMany_9 ?_
    refine lv_icmp_ge (tgt := 32) hx hb dX5_howMany_10 (by decide) (fun c_1 => ?_) (fun c_1 => ?_)
    · replace h := it_p c_1 h
      refine lv_iload_n hx hb dX5_howMany_32 rfl (lv_at hl 1 rfl) ?_
      obtain rfl := Option.some.inj h
      exact hret _ _ _ _ hP hS dX5_howMany_33
    · replace h := it_n c_1 h
      refine lv_aload_n hx hb dX5_howMany_13 rfl (lv_at hl 0 rfl) ?_
      refine x_get (rest := []) X hP (gC10 c3 ad w) rfl iwX5_howMany_X5 1 (by decide) lkX5_howMany_16 rfl dX5_howMany_14 ?_
      refine lv_iload_n hx hb dX5_howMany_17 rfl (lv_at hl 2 rfl) ?_
      obtain ⟨g_2, h⟩ := gd_s h
      refine x_iald X hP (gC12 c3 ad w) g_2 dX5_howMany_18 ?_
      refine lv_iconst (v := (-1)) hx hb dX5_howMany_19 (by decide) ?_
      refine lv_icmp_eq (tgt := 26) hx hb dX5_howMany_20 (by decide) (fun c_3 => ?_) (fun c_3 => ?_)
      · replace h := it_p c_3 h
        exact bX5_howMany_10_26 (k4 := (fX5_howMany_10_4 w n)) X hret ih x1 x2 _ _ _ hP hS (lv_sub hl [0, 1, 2] rfl) h
      · replace h := it_n c_3 h
        refine lv_iinc (v := (x1 + 1)) (lv' := [(1, .int (x1 + 1)), (0, .ref (ad 10)), (2, .int x2)]) hx hb dX5_howMany_23 hl (k := 1) rfl rfl (by decide) rfl (fun ls hl => ?_)
        exact bX5_howMany_10_26 (k4 := (fX5_howMany_10_4 w n)) X hret ih (x1 + 1) x2 _ _ _ hP hS (lv_sub hl [1, 0, 2] rfl) h
def fX5_howMany_10_E (w : Mm) : Option (Int32) := fX5_howMany_10_4 w FU 0 0
set_option maxRecDepth 20000 in
theorem bX5_howMany_10_E {p : Program} {l : Launch} {e : Env} {s : State} {m : MethodId} {args : Array Value} {below : List Frame} {meth : Method} {c : Code} {Q : State → Prop} {D : va_G} {c3 : C3} {ad : Nat → Nat} {A : Nat → Prop} {r : Int32} {w : Mm} (X : Cx p s m args c cX5_howMany 3 RX5 wsX5_howMany D c3 (encC c3 ad) gC A) (hret : Ri p l e (rmX5_howMany_10) s m args below meth c Q cX5_howMany D (encC c3 ad) A r w) : ∀ (H : Heap) (locs : List Loc) (ls : Array Slot), va_P D vwCl ((encC c3 ad) w) H → va_S A s.heap H locs → lv_has ls 3 [(0, .ref (ad 10))] → fX5_howMany_10_E w = some r → W p l e (rmX5_howMany_10) s m args below meth c H locs 0 0 Q (F0 m 0 ls []) := by
  have hx := X.1
  have hb := X.2.1
  have hml := X.2.2.1
  have hown := X.2.2.2.1
  have hts := X.2.2.2.2.1
  intro H locs ls hP hS hl h
  unfold fX5_howMany_10_E at h
  refine lv_iconst (v := 0) hx hb dX5_howMany_0 (by decide) ?_
  refine lv_istore_n (lv' := [(1, .int 0), (0, .ref (ad 10))]) hx hb dX5_howMany_1 rfl hl (by decide) rfl (fun ls hl => ?_)
  refine lv_iconst (v := 0) hx hb dX5_howMany_2 (by decide) ?_
  refine lv_istore_n (lv' := [(2, .int 0), (1, .int 0), (0, .ref (ad 10))]) hx hb dX5_howMany_3 rfl hl (by decide) rfl (fun ls hl => ?_)
  exact bX5_howMany_10_4 X hret FU 0 0 _ _ _ hP hS (lv_sub hl [2, 1, 0] rfl) h
def fX5_howMany_10 (w : Mm) : Option (Int32) := fX5_howMany_10_E w
theorem ctX5_howMany_10 (l : Launch) (D : va_G) (c3 : C3) (ad : Nat → Nat) (w : Mm) (sz : Nat) (r : Int32) (h : fX5_howMany_10 w = some r) : Ci l yX5_howMany wsX5_howMany rmX5_howMany_10 D c3 (encC c3 ad) gC [.ref (ad 10)] w sz r w := by
  refine Ci.of (cc := cX5_howMany) (maxL := 3) (encC_ok c3 ad) (by decide) rfl (Nat.le_of_ble_eq_true rfl) ?_
  intro p e s m below meth c A Q ls X hret hP hS hl
  exact bX5_howMany_10_E X hret _ _ ls hP hS hl h
def rmX5_howMany_17 : Room := { frames := 0, cells := 0, slots := 0, locals := 0 }
def fX5_howMany_17_26 (k4 : Int32 → Int32 → Option (Int32)) (x1 : Int32) (x2 : Int32) (w : Mm) : Option (Int32) := k4 x1 (x2 + 1)
set_option maxRecDepth 20000 in
theorem bX5_howMany_17_26 {p : Program} {l : Launch} {e : Env} {s : State} {m : MethodId} {args : Array Value} {below : List Frame} {meth : Method} {c : Code} {Q : State → Prop} {D : va_G} {c3 : C3} {ad : Nat → Nat} {A : Nat → Prop} {r : Int32} {w : Mm} (X : Cx p s m args c cX5_howMany 3 RX5 wsX5_howMany D c3 (encC c3 ad) gC A) (hret : Ri p l e (rmX5_howMany_17) s m args below meth c Q cX5_howMany D (encC c3 ad) A r w) {k4 : Int32 → Int32 → Option (Int32)} (hk4 : ∀ (x1 : Int32) (x2 : Int32) (H : Heap) (locs : List Loc) (ls : Array Slot), va_P D vwCl ((encC c3 ad) w) H → va_S A s.heap H locs → lv_has ls 3 [(0, .ref (ad 17)), (1, .int x1), (2, .int x2)] → k4 x1 x2 = some r → W p l e (rmX5_howMany_17) s m args below meth c H locs 0 0 Q (F0 m 4 ls [])) : ∀ (x1 : Int32) (x2 : Int32) (H : Heap) (locs : List Loc) (ls : Array Slot), va_P D vwCl ((encC c3 ad) w) H → va_S A s.heap H locs → lv_has ls 3 [(0, .ref (ad 17)), (1, .int x1), (2, .int x2)] → fX5_howMany_17_26 k4 x1 x2 w = some r → W p l e (rmX5_howMany_17) s m args below meth c H locs 0 0 Q (F0 m 26 ls []) := by
  have hx := X.1
  have hb := X.2.1
  have hml := X.2.2.1
  have hown := X.2.2.2.1
  have hts := X.2.2.2.2.1
  intro x1 x2 H locs ls hP hS hl h
  unfold fX5_howMany_17_26 at h
  refine lv_iinc (v := (x2 + 1)) (lv' := [(2, .int (x2 + 1)), (0, .ref (ad 17)), (1, .int x1)]) hx hb dX5_howMany_26 hl (k := 2) rfl rfl (by decide) rfl (fun ls hl => ?_)
  refine lv_goto (tgt := 4) hx hb dX5_howMany_29 (by decide) ?_
  exact hk4 x1 (x2 + 1) _ _ _ hP hS (lv_sub hl [1, 2, 0] rfl) h
def fX5_howMany_17_4 (w : Mm) : Nat → Int32 → Int32 → Option (Int32)
  | 0, _, _ => none
  | n + 1, x1, x2 => (if 3 ≤ x2 then some x1 else gd (inb x2 3 = true) ((if (w.1 19 x2.toNatClampNeg) = (-1) then fX5_howMany_17_26 (fX5_howMany_17_4 w n) x1 x2 w else fX5_howMany_17_26 (fX5_howMany_17_4 w n) (x1 + 1) x2 w)))
set_option maxRecDepth 20000 in
theorem bX5_howMany_17_4 {p : Program} {l : Launch} {e : Env} {s : State} {m : MethodId} {args : Array Value} {below : List Frame} {meth : Method} {c : Code} {Q : State → Prop} {D : va_G} {c3 : C3} {ad : Nat → Nat} {A : Nat → Prop} {r : Int32} {w : Mm} (X : Cx p s m args c cX5_howMany 3 RX5 wsX5_howMany D c3 (encC c3 ad) gC A) (hret : Ri p l e (rmX5_howMany_17) s m args below meth c Q cX5_howMany D (encC c3 ad) A r w) : ∀ (n : Nat) (x1 : Int32) (x2 : Int32) (H : Heap) (locs : List Loc) (ls : Array Slot), va_P D vwCl ((encC c3 ad) w) H → va_S A s.heap H locs → lv_has ls 3 [(0, .ref (ad 17)), (1, .int x1), (2, .int x2)] → fX5_howMany_17_4 w n x1 x2 = some r → W p l e (rmX5_howMany_17) s m args below meth c H locs 0 0 Q (F0 m 4 ls []) := by
  have hx := X.1
  have hb := X.2.1
  have hml := X.2.2.1
  have hown := X.2.2.2.1
  have hts := X.2.2.2.2.1
  intro n
  induction n with
  | zero =>
    intro x1 x2 H locs ls hP hS hl h
    exact absurd h (by simp [fX5_howMany_17_4])
  | succ n ih =>
    intro x1 x2 H locs ls hP hS hl h
    rw [fX5_howMany_17_4] at h
    refine lv_iload_n hx hb dX5_howMany_4 rfl (lv_at hl 2 rfl) ?_
    refine lv_aload_n hx hb dX5_howMany_5 rfl (lv_at hl 0 rfl) ?_
    refine x_get (rest := [.int x2]) X hP (gC17 c3 ad w) rfl iwX5_howMany_X5 1 (by decide) lkX5_howMany_16 rfl dX5_howMany_6 ?_
    refine x_alen (v := 3) X hP (gC19 c3 ad w) rfl dX5_howMany_9 ?_
    refine lv_icmp_ge (tgt := 32) hx hb dX5_howMany_10 (by decide) (fun c_1 => ?_) (fun c_1 => ?_)
    · replace h := it_p c_1 h
      refine lv_iload_n hx hb dX5_howMany_32 rfl (lv_at hl 1 rfl) ?_
      obtain rfl := Option.some.inj h
      exact hret _ _ _ _ hP hS dX5_howMany_33
    · replace h := it_n c_1 h
      refine lv_aload_n hx hb dX5_howMany_13 rfl (lv_at hl 0 rfl) ?_
      refine x_get (rest := []) X hP (gC17 c3 ad w) rfl iwX5_howMany_X5 1 (by decide) lkX5_howMany_16 rfl dX5_howMany_14 ?_
      refine lv_iload_n hx hb dX5_howMany_17 rfl (lv_at hl 2 rfl) ?_
      obtain ⟨g_2, h⟩ := gd_s h
      refine x_iald X hP (gC19 c3 ad w) g_2 dX5_howMany_18 ?_
      refine lv_iconst (v := (-1)) hx hb dX5_howMany_19 (by decide) ?_
      refine lv_icmp_eq (tgt := 26) hx hb dX5_howMany_20 (by decide) (fun c_3 => ?_) (fun c_3 => ?_)
      · replace h := it_p c_3 h
        exact bX5_howMany_17_26 (k4 := (fX5_howMany_17_4 w n)) X hret ih x1 x2 _ _ _ hP hS (lv_sub hl [0, 1, 2] rfl) h
      · replace h := it_n c_3 h
        refine lv_iinc (v := (x1 + 1)) (lv' := [(1, .int (x1 + 1)), (0, .ref (ad 17)), (2, .int x2)]) hx hb dX5_howMany_23 hl (k := 1) rfl rfl (by decide) rfl (fun ls hl => ?_)
        exact bX5_howMany_17_26 (k4 := (fX5_howMany_17_4 w n)) X hret ih (x1 + 1) x2 _ _ _ hP hS (lv_sub hl [1, 0, 2] rfl) h
def fX5_howMany_17_E (w : Mm) : Option (Int32) := fX5_howMany_17_4 w FU 0 0
set_option maxRecDepth 20000 in
theorem bX5_howMany_17_E {p : Program} {l : Launch} {e : Env} {s : State} {m : MethodId} {args : Array Value} {below : List Frame} {meth : Method} {c : Code} {Q : State → Prop} {D : va_G} {c3 : C3} {ad : Nat → Nat} {A : Nat → Prop} {r : Int32} {w : Mm} (X : Cx p s m args c cX5_howMany 3 RX5 wsX5_howMany D c3 (encC c3 ad) gC A) (hret : Ri p l e (rmX5_howMany_17) s m args below meth c Q cX5_howMany D (encC c3 ad) A r w) : ∀ (H : Heap) (locs : List Loc) (ls : Array Slot), va_P D vwCl ((encC c3 ad) w) H → va_S A s.heap H locs → lv_has ls 3 [(0, .ref (ad 17))] → fX5_howMany_17_E w = some r → W p l e (rmX5_howMany_17) s m args below meth c H locs 0 0 Q (F0 m 0 ls []) := by
  have hx := X.1
  have hb := X.2.1
  have hml := X.2.2.1
  have hown := X.2.2.2.1
  have hts := X.2.2.2.2.1
  intro H locs ls hP hS hl h
  unfold fX5_howMany_17_E at h
  refine lv_iconst (v := 0) hx hb dX5_howMany_0 (by decide) ?_
  refine lv_istore_n (lv' := [(1, .int 0), (0, .ref (ad 17))]) hx hb dX5_howMany_1 rfl hl (by decide) rfl (fun ls hl => ?_)
  refine lv_iconst (v := 0) hx hb dX5_howMany_2 (by decide) ?_
  refine lv_istore_n (lv' := [(2, .int 0), (1, .int 0), (0, .ref (ad 17))]) hx hb dX5_howMany_3 rfl hl (by decide) rfl (fun ls hl => ?_)
  exact bX5_howMany_17_4 X hret FU 0 0 _ _ _ hP hS (lv_sub hl [2, 1, 0] rfl) h
def fX5_howMany_17 (w : Mm) : Option (Int32) := fX5_howMany_17_E w
theorem ctX5_howMany_17 (l : Launch) (D : va_G) (c3 : C3) (ad : Nat → Nat) (w : Mm) (sz : Nat) (r : Int32) (h : fX5_howMany_17 w = some r) : Ci l yX5_howMany wsX5_howMany rmX5_howMany_17 D c3 (encC c3 ad) gC [.ref (ad 17)] w sz r w := by
  refine Ci.of (cc := cX5_howMany) (maxL := 3) (encC_ok c3 ad) (by decide) rfl (Nat.le_of_ble_eq_true rfl) ?_
  intro p e s m below meth c A Q ls X hret hP hS hl
  exact bX5_howMany_17_E X hret _ _ ls hP hS hl h
theorem iwX7_count_X2 : ∀ w ∈ wsX20, w ∈ wsX7_count := fun _ h => List.mem_cons_of_mem _ (List.mem_append_left _ (List.mem_append_right _ h))
theorem iwX7_count_X7 : ∀ w ∈ wsX70, w ∈ wsX7_count := fun _ h => List.mem_cons_of_mem _ (List.mem_append_left _ (List.mem_append_left _ (List.mem_append_right _ h)))
theorem lkX7_count_14 : Cond.fieldLink RX7 14 "StuckDoor" "ints" "LStuckDoor$Rows;" ∈ wsX7_count := by decide +kernel
theorem lkX7_count_18 : Cond.fieldLink RX7 18 "StuckDoor" "texts" "LStuckDoor$Rows;" ∈ wsX7_count := by decide +kernel
theorem lkX7_count_21 : Cond.fieldLink RX7 21 "StuckDoor" "kept" "LStuckDoor$Rows;" ∈ wsX7_count := by decide +kernel
theorem lkX7_count_27 : Cond.fieldLink RX7 27 "StuckDoor" "family" "LStuckDoor$Family;" ∈ wsX7_count := by decide +kernel
theorem lkX7_count_121 : Cond.fieldLink RX7 121 "StuckDoor$Family" "sayings" "I" ∈ wsX7_count := by decide +kernel
theorem lkX7_count_168 : Cond.fieldLink RX7 168 "StuckDoor$Family" "deeds" "I" ∈ wsX7_count := by decide +kernel
theorem lkX7_count_178 : Cond.fieldLink RX7 178 "StuckDoor$Family" "strain" "I" ∈ wsX7_count := by decide +kernel
theorem lkX7_count_292 : Cond.fieldLink RX7 292 "StuckDoor$Family" "people" "I" ∈ wsX7_count := by decide +kernel
theorem lkX7_count_298 : Cond.fieldLink RX7 298 "StuckDoor$Family" "settled" "I" ∈ wsX7_count := by decide +kernel
theorem lkX7_count_301 : Cond.fieldLink RX7 301 "StuckDoor$Family" "whoIsOver" "I" ∈ wsX7_count := by decide +kernel
def rmX7_count : Room := { frames := 2, cells := 0, slots := 0, locals := 45 }
def fX7_count_E (x1 : Int32) (w : Mm) : Option (Int32) := (if x1 = 0 then some (w.1 23 2) else (if x1 = 1 then some (w.1 23 0) else (if x1 = 2 then bo (fX2_daysGone_23 w) (fun r_5 => some r_5) else (if x1 = 3 then some (w.1 23 11) else (if x1 = 4 then some (w.1 23 7) else (if x1 = 5 then some (w.1 23 8) else (if x1 = 6 then some (w.1 23 9) else (if x1 = 7 then bo (fX2_howManyOfKind_23 1 w) (fun r_13 => some r_13) else (if x1 = 8 then bo (fX5_howMany_1 w) (fun r_17 => some r_17) else (if x1 = 9 then bo (fX5_howMany_10 w) (fun r_21 => some r_21) else (if x1 = 10 then bo (fX5_howMany_17 w) (fun r_25 => some r_25) else some (-1))))))))))))
set_option maxRecDepth 20000 in
theorem bX7_count_E {p : Program} {l : Launch} {e : Env} {s : State} {m : MethodId} {args : Array Value} {below : List Frame} {meth : Method} {c : Code} {Q : State → Prop} {D : va_G} {c3 : C3} {ad : Nat → Nat} {A : Nat → Prop} {r : Int32} {w : Mm} (X : Cx p s m args c cX7_count 2 RX7 wsX7_count D c3 (encC c3 ad) gC A) (hret : Ri p l e (rmX7_count) s m args below meth c Q cX7_count D (encC c3 ad) A r w) : ∀ (x1 : Int32) (H : Heap) (locs : List Loc) (ls : Array Slot), va_P D vwCl ((encC c3 ad) w) H → va_S A s.heap H locs → lv_has ls 2 [(0, .ref (ad 0)), (1, .int x1)] → fX7_count_E x1 w = some r → W p l e (rmX7_count) s m args below meth c H locs 0 0 Q (F0 m 0 ls []) := by
  have hx := X.1
  have hb := X.2.1
  have hml := X.2.2.1
  have hown := X.2.2.2.1
  have hts := X.2.2.2.2.1
  intro x1 H locs ls hP hS hl h
  unfold fX7_count_E at h
  refine lv_iload_n hx hb dX7_count_0 rfl (lv_at hl 1 rfl) ?_
  by_cases c_1 : x1 = 0
  · replace h := it_p c_1 h
    refine lv_tableIn (off := 59) (tgt := 60) hx hb dX7_count_1 (by rw [c_1]; decide) (by rw [c_1]; decide) (by rw [c_1]; decide) (by decide) ?_
    refine lv_aload_n hx hb dX7_count_60 rfl (lv_at hl 0 rfl) ?_
    refine x_get (rest := []) X hP (gC0 c3 ad w) rfl iwX7_count_X7 3 (by decide) lkX7_count_27 rfl dX7_count_61 ?_
    refine x_get (rest := []) X hP (gC23 c3 ad w) rfl iwX7_count_X2 2 (by decide) lkX7_count_121 rfl dX7_count_64 ?_
    obtain rfl := Option.some.inj h
    exact hret _ _ _ _ hP hS dX7_count_67
  replace h := it_n c_1 h
  by_cases c_2 : x1 = 1
  · replace h := it_p c_2 h
    refine lv_tableIn (off := 67) (tgt := 68) hx hb dX7_count_1 (by rw [c_2]; decide) (by rw [c_2]; decide) (by rw [c_2]; decide) (by decide) ?_
    refine lv_aload_n hx hb dX7_count_68 rfl (lv_at hl 0 rfl) ?_
    refine x_get (rest := []) X hP (gC0 c3 ad w) rfl iwX7_count_X7 3 (by decide) lkX7_count_27 rfl dX7_count_69 ?_
    refine x_get (rest := []) X hP (gC23 c3 ad w) rfl iwX7_count_X2 0 (by decide) lkX7_count_292 rfl dX7_count_72 ?_
    obtain rfl := Option.some.inj h
    exact hret _ _ _ _ hP hS dX7_count_75
  replace h := it_n c_2 h
  by_cases c_3 : x1 = 2
  · replace h := it_p c_3 h
    refine lv_tableIn (off := 75) (tgt := 76) hx hb dX7_count_1 (by rw [c_3]; decide) (by rw [c_3]; decide) (by rw [c_3]; decide) (by decide) ?_
    refine lv_aload_n hx hb dX7_count_76 rfl (lv_at hl 0 rfl) ?_
    refine x_get (rest := []) X hP (gC0 c3 ad w) rfl iwX7_count_X7 3 (by decide) lkX7_count_27 rfl dX7_count_77 ?_
    obtain ⟨r_5, e_4, h⟩ := bo_s h
    refine x_goi X hS (x_runV (As := []) (rest := []) X gC_ok hP hS (ctX2_daysGone_23 l D c3 ad w _ _ e_4) (cwV 0 hts gX7_count_X2_daysGone rfl rfl rfl (by decide +kernel) ⟨by decide, by decide⟩) (gC23 c3 ad w) rfl rfl rfl hl.1 rfl (Nat.le_of_ble_eq_true rfl) dX7_count_80) (fun H locs hP hS => ?_)
    obtain rfl := Option.some.inj h
    exact hret _ _ _ _ hP hS dX7_count_83
  replace h := it_n c_3 h
  by_cases c_7 : x1 = 3
  · replace h := it_p c_7 h
    refine lv_tableIn (off := 83) (tgt := 84) hx hb dX7_count_1 (by rw [c_7]; decide) (by rw [c_7]; decide) (by rw [c_7]; decide) (by decide) ?_
    refine lv_aload_n hx hb dX7_count_84 rfl (lv_at hl 0 rfl) ?_
    refine x_get (rest := []) X hP (gC0 c3 ad w) rfl iwX7_count_X7 3 (by decide) lkX7_count_27 rfl dX7_count_85 ?_
    refine x_get (rest := []) X hP (gC23 c3 ad w) rfl iwX7_count_X2 11 (by decide) lkX7_count_168 rfl dX7_count_88 ?_
    obtain rfl := Option.some.inj h
    exact hret _ _ _ _ hP hS dX7_count_91
  replace h := it_n c_7 h
  by_cases c_8 : x1 = 4
  · replace h := it_p c_8 h
    refine lv_tableIn (off := 91) (tgt := 92) hx hb dX7_count_1 (by rw [c_8]; decide) (by rw [c_8]; decide) (by rw [c_8]; decide) (by decide) ?_
    refine lv_aload_n hx hb dX7_count_92 rfl (lv_at hl 0 rfl) ?_
    refine x_get (rest := []) X hP (gC0 c3 ad w) rfl iwX7_count_X7 3 (by decide) lkX7_count_27 rfl dX7_count_93 ?_
    refine x_get (rest := []) X hP (gC23 c3 ad w) rfl iwX7_count_X2 7 (by decide) lkX7_count_178 rfl dX7_count_96 ?_
    obtain rfl := Option.some.inj h
    exact hret _ _ _ _ hP hS dX7_count_99
  replace h := it_n c_8 h
  by_cases c_9 : x1 = 5
  · replace h := it_p c_9 h
    refine lv_tableIn (off := 99) (tgt := 100) hx hb dX7_count_1 (by rw [c_9]; decide) (by rw [c_9]; decide) (by rw [c_9]; decide) (by decide) ?_
    refine lv_aload_n hx hb dX7_count_100 rfl (lv_at hl 0 rfl) ?_
    refine x_get (rest := []) X hP (gC0 c3 ad w) rfl iwX7_count_X7 3 (by decide) lkX7_count_27 rfl dX7_count_101 ?_
    refine x_get (rest := []) X hP (gC23 c3 ad w) rfl iwX7_count_X2 8 (by decide) lkX7_count_298 rfl dX7_count_104 ?_
    obtain rfl := Option.some.inj h
    exact hret _ _ _ _ hP hS dX7_count_107
  replace h := it_n c_9 h
  by_cases c_10 : x1 = 6
  · replace h := it_p c_10 h
    refine lv_tableIn (off := 107) (tgt := 108) hx hb dX7_count_1 (by rw [c_10]; decide) (by rw [c_10]; decide) (by rw [c_10]; decide) (by decide) ?_
    refine lv_aload_n hx hb dX7_count_108 rfl (lv_at hl 0 rfl) ?_
    refine x_get (rest := []) X hP (gC0 c3 ad w) rfl iwX7_count_X7 3 (by decide) lkX7_count_27 rfl dX7_count_109 ?_
    refine x_get (rest := []) X hP (gC23 c3 ad w) rfl iwX7_count_X2 9 (by decide) lkX7_count_301 rfl dX7_count_112 ?_
    obtain rfl := Option.some.inj h
    exact hret _ _ _ _ hP hS dX7_count_115
  replace h := it_n c_10 h
  by_cases c_11 : x1 = 7
  · replace h := it_p c_11 h
    refine lv_tableIn (off := 115) (tgt := 116) hx hb dX7_count_1 (by rw [c_11]; decide) (by rw [c_11]; decide) (by rw [c_11]; decide) (by decide) ?_
    refine lv_aload_n hx hb dX7_count_116 rfl (lv_at hl 0 rfl) ?_
    refine x_get (rest := []) X hP (gC0 c3 ad w) rfl iwX7_count_X7 3 (by decide) lkX7_count_27 rfl dX7_count_117 ?_
    refine lv_iconst (v := 1) hx hb dX7_count_120 (by decide) ?_
    obtain ⟨r_13, e_12, h⟩ := bo_s h
    refine x_goi X hS (x_runV (As := [.int 1]) (rest := []) X gC_ok hP hS (ctX2_howManyOfKind_23 l D c3 ad w _ 1 _ e_12) (cwV 1 hts gX7_count_X2_howManyOfKind rfl rfl rfl (by decide +kernel) ⟨by decide, by decide⟩) (gC23 c3 ad w) rfl rfl rfl hl.1 rfl (Nat.le_of_ble_eq_true rfl) dX7_count_121) (fun H locs hP hS => ?_)
    obtain rfl := Option.some.inj h
    exact hret _ _ _ _ hP hS dX7_count_124
  replace h := it_n c_11 h
  by_cases c_15 : x1 = 8
  · replace h := it_p c_15 h
    refine lv_tableIn (off := 124) (tgt := 125) hx hb dX7_count_1 (by rw [c_15]; decide) (by rw [c_15]; decide) (by rw [c_15]; decide) (by decide) ?_
    refine lv_aload_n hx hb dX7_count_125 rfl (lv_at hl 0 rfl) ?_
    refine x_get (rest := []) X hP (gC0 c3 ad w) rfl iwX7_count_X7 0 (by decide) lkX7_count_14 rfl dX7_count_126 ?_
    obtain ⟨r_17, e_16, h⟩ := bo_s h
    refine x_goi X hS (x_runV (As := []) (rest := []) X gC_ok hP hS (ctX5_howMany_1 l D c3 ad w _ _ e_16) (cwV 0 hts gX7_count_X5_howMany rfl rfl rfl (by decide +kernel) ⟨by decide, by decide⟩) (gC1 c3 ad w) rfl rfl rfl hl.1 rfl (Nat.le_of_ble_eq_true rfl) dX7_count_129) (fun H locs hP hS => ?_)
    obtain rfl := Option.some.inj h
    exact hret _ _ _ _ hP hS dX7_count_132
  replace h := it_n c_15 h
  by_cases c_19 : x1 = 9
  · replace h := it_p c_19 h
    refine lv_tableIn (off := 132) (tgt := 133) hx hb dX7_count_1 (by rw [c_19]; decide) (by rw [c_19]; decide) (by rw [c_19]; decide) (by decide) ?_
    refine lv_aload_n hx hb dX7_count_133 rfl (lv_at hl 0 rfl) ?_
    refine x_get (rest := []) X hP (gC0 c3 ad w) rfl iwX7_count_X7 1 (by decide) lkX7_count_18 rfl dX7_count_134 ?_
    obtain ⟨r_21, e_20, h⟩ := bo_s h
    refine x_goi X hS (x_runV (As := []) (rest := []) X gC_ok hP hS (ctX5_howMany_10 l D c3 ad w _ _ e_20) (cwV 0 hts gX7_count_X5_howMany rfl rfl rfl (by decide +kernel) ⟨by decide, by decide⟩) (gC10 c3 ad w) rfl rfl rfl hl.1 rfl (Nat.le_of_ble_eq_true rfl) dX7_count_137) (fun H locs hP hS => ?_)
    obtain rfl := Option.some.inj h
    exact hret _ _ _ _ hP hS dX7_count_140
  replace h := it_n c_19 h
  by_cases c_23 : x1 = 10
  · replace h := it_p c_23 h
    refine lv_tableIn (off := 140) (tgt := 141) hx hb dX7_count_1 (by rw [c_23]; decide) (by rw [c_23]; decide) (by rw [c_23]; decide) (by decide) ?_
    refine lv_aload_n hx hb dX7_count_141 rfl (lv_at hl 0 rfl) ?_
    refine x_get (rest := []) X hP (gC0 c3 ad w) rfl iwX7_count_X7 2 (by decide) lkX7_count_21 rfl dX7_count_142 ?_
    obtain ⟨r_25, e_24, h⟩ := bo_s h
    refine x_goi X hS (x_runV (As := []) (rest := []) X gC_ok hP hS (ctX5_howMany_17 l D c3 ad w _ _ e_24) (cwV 0 hts gX7_count_X5_howMany rfl rfl rfl (by decide +kernel) ⟨by decide, by decide⟩) (gC17 c3 ad w) rfl rfl rfl hl.1 rfl (Nat.le_of_ble_eq_true rfl) dX7_count_145) (fun H locs hP hS => ?_)
    obtain rfl := Option.some.inj h
    exact hret _ _ _ _ hP hS dX7_count_148
  replace h := it_n c_23 h
  refine lv_tableOut (tgt := 149) hx hb dX7_count_1 (by have := lv_neT c_1 (a := 0) rfl; have := lv_neT c_2 (a := 1) rfl; have := lv_neT c_3 (a := 2) rfl; have := lv_neT c_7 (a := 3) rfl; have := lv_neT c_8 (a := 4) rfl; have := lv_neT c_9 (a := 5) rfl; have := lv_neT c_10 (a := 6) rfl; have := lv_neT c_11 (a := 7) rfl; have := lv_neT c_15 (a := 8) rfl; have := lv_neT c_19 (a := 9) rfl; have := lv_neT c_23 (a := 10) rfl; omega) (by decide) ?_
  refine lv_iconst (v := (-1)) hx hb dX7_count_149 (by decide) ?_
  obtain rfl := Option.some.inj h
  exact hret _ _ _ _ hP hS dX7_count_150
def fX7_count (x1 : Int32) (w : Mm) : Option (Int32) := fX7_count_E x1 w
theorem ctX7_count (l : Launch) (D : va_G) (c3 : C3) (ad : Nat → Nat) (w : Mm) (sz : Nat) (x1 : Int32) (r : Int32) (h : fX7_count x1 w = some r) : Ci l yX7_count wsX7_count rmX7_count D c3 (encC c3 ad) gC [.ref (ad 0), .int x1] w sz r w := by
  refine Ci.of (cc := cX7_count) (maxL := 2) (encC_ok c3 ad) (by decide) rfl (Nat.le_of_ble_eq_true rfl) ?_
  intro p e s m below meth c A Q ls X hret hP hS hl
  exact bX7_count_E X hret x1 _ _ ls hP hS hl h
theorem iwX7_finding_X7 : ∀ w ∈ wsX70, w ∈ wsX7_finding := fun _ h => List.mem_cons_of_mem _ (List.mem_append_right _ h)
theorem lkX7_finding_56 : Cond.fieldLink RX7 56 "StuckDoor" "latest" "I" ∈ wsX7_finding := by decide +kernel
def rmX7_finding : Room := { frames := 0, cells := 0, slots := 0, locals := 0 }
def fX7_finding_E (w : Mm) : Option (Int32) := some (w.1 0 8)
set_option maxRecDepth 20000 in
theorem bX7_finding_E {p : Program} {l : Launch} {e : Env} {s : State} {m : MethodId} {args : Array Value} {below : List Frame} {meth : Method} {c : Code} {Q : State → Prop} {D : va_G} {c3 : C3} {ad : Nat → Nat} {A : Nat → Prop} {r : Int32} {w : Mm} (X : Cx p s m args c cX7_finding 1 RX7 wsX7_finding D c3 (encC c3 ad) gC A) (hret : Ri p l e (rmX7_finding) s m args below meth c Q cX7_finding D (encC c3 ad) A r w) : ∀ (H : Heap) (locs : List Loc) (ls : Array Slot), va_P D vwCl ((encC c3 ad) w) H → va_S A s.heap H locs → lv_has ls 1 [(0, .ref (ad 0))] → fX7_finding_E w = some r → W p l e (rmX7_finding) s m args below meth c H locs 0 0 Q (F0 m 0 ls []) := by
  have hx := X.1
  have hb := X.2.1
  have hml := X.2.2.1
  have hown := X.2.2.2.1
  have hts := X.2.2.2.2.1
  intro H locs ls hP hS hl h
  unfold fX7_finding_E at h
  refine lv_aload_n hx hb dX7_finding_0 rfl (lv_at hl 0 rfl) ?_
  refine x_get (rest := []) X hP (gC0 c3 ad w) rfl iwX7_finding_X7 8 (by decide) lkX7_finding_56 rfl dX7_finding_1 ?_
  obtain rfl := Option.some.inj h
  exact hret _ _ _ _ hP hS dX7_finding_4
def fX7_finding (w : Mm) : Option (Int32) := fX7_finding_E w
theorem ctX7_finding (l : Launch) (D : va_G) (c3 : C3) (ad : Nat → Nat) (w : Mm) (sz : Nat) (r : Int32) (h : fX7_finding w = some r) : Ci l yX7_finding wsX7_finding rmX7_finding D c3 (encC c3 ad) gC [.ref (ad 0)] w sz r w := by
  refine Ci.of (cc := cX7_finding) (maxL := 1) (encC_ok c3 ad) (by decide) rfl (Nat.le_of_ble_eq_true rfl) ?_
  intro p e s m below meth c A Q ls X hret hP hS hl
  exact bX7_finding_E X hret _ _ ls hP hS hl h
theorem iwX7_findings_X7 : ∀ w ∈ wsX70, w ∈ wsX7_findings := fun _ h => List.mem_cons_of_mem _ (List.mem_append_right _ h)
theorem lkX7_findings_52 : Cond.fieldLink RX7 52 "StuckDoor" "found" "[I" ∈ wsX7_findings := by decide +kernel
def rmX7_findings : Room := { frames := 0, cells := 0, slots := 0, locals := 0 }
def fX7_findings_10 (w : Mm) : Option (Int32) := some (-1)
set_option maxRecDepth 20000 in
theorem bX7_findings_10 {p : Program} {l : Launch} {e : Env} {s : State} {m : MethodId} {args : Array Value} {below : List Frame} {meth : Method} {c : Code} {Q : State → Prop} {D : va_G} {c3 : C3} {ad : Nat → Nat} {A : Nat → Prop} {r : Int32} {w : Mm} (X : Cx p s m args c cX7_findings 2 RX7 wsX7_findings D c3 (encC c3 ad) gC A) (hret : Ri p l e (rmX7_findings) s m args below meth c Q cX7_findings D (encC c3 ad) A r w) : ∀ (H : Heap) (locs : List Loc) (ls : Array Slot), va_P D vwCl ((encC c3 ad) w) H → va_S A s.heap H locs → lv_has ls 2 [] → fX7_findings_10 w = some r → W p l e (rmX7_findings) s m args below meth c H locs 0 0 Q (F0 m 10 ls []) := by
  have hx := X.1
  have hb := X.2.1
  have hml := X.2.2.1
  have hown := X.2.2.2.1
  have hts := X.2.2.2.2.1
  intro H locs ls hP hS hl h
  unfold fX7_findings_10 at h
  refine lv_iconst (v := (-1)) hx hb dX7_findings_10 (by decide) ?_
  refine lv_goto (tgt := 20) hx hb dX7_findings_11 (by decide) ?_
  obtain rfl := Option.some.inj h
  exact hret _ _ _ _ hP hS dX7_findings_20
def fX7_findings_E (x1 : Int32) (w : Mm) : Option (Int32) := (if x1 < 1 then fX7_findings_10 w else (if x1 ≤ 5 then gd (inb x1 6 = true) (some (w.1 43 x1.toNatClampNeg)) else fX7_findings_10 w))
set_option maxRecDepth 20000 in
theorem bX7_findings_E {p : Program} {l : Launch} {e : Env} {s : State} {m : MethodId} {args : Array Value} {below : List Frame} {meth : Method} {c : Code} {Q : State → Prop} {D : va_G} {c3 : C3} {ad : Nat → Nat} {A : Nat → Prop} {r : Int32} {w : Mm} (X : Cx p s m args c cX7_findings 2 RX7 wsX7_findings D c3 (encC c3 ad) gC A) (hret : Ri p l e (rmX7_findings) s m args below meth c Q cX7_findings D (encC c3 ad) A r w) : ∀ (x1 : Int32) (H : Heap) (locs : List Loc) (ls : Array Slot), va_P D vwCl ((encC c3 ad) w) H → va_S A s.heap H locs → lv_has ls 2 [(0, .ref (ad 0)), (1, .int x1)] → fX7_findings_E x1 w = some r → W p l e (rmX7_findings) s m args below meth c H locs 0 0 Q (F0 m 0 ls []) := by
  have hx := X.1
  have hb := X.2.1
  have hml := X.2.2.1
  have hown := X.2.2.2.1
  have hts := X.2.2.2.2.1
  intro x1 H locs ls hP hS hl h
  unfold fX7_findings_E at h
  refine lv_iload_n hx hb dX7_findings_0 rfl (lv_at hl 1 rfl) ?_
  refine lv_iconst (v := 1) hx hb dX7_findings_1 (by decide) ?_
  refine lv_icmp_lt (tgt := 10) hx hb dX7_findings_2 (by decide) (fun c_1 => ?_) (fun c_1 => ?_)
  · replace h := it_p c_1 h
    exact bX7_findings_10 X hret _ _ _ hP hS (lv_sub hl [] rfl) h
  · replace h := it_n c_1 h
    refine lv_iload_n hx hb dX7_findings_5 rfl (lv_at hl 1 rfl) ?_
    refine lv_iconst (v := 5) hx hb dX7_findings_6 (by decide) ?_
    refine lv_icmp_le (tgt := 14) hx hb dX7_findings_7 (by decide) (fun c_2 => ?_) (fun c_2 => ?_)
    · replace h := it_p c_2 h
      refine lv_aload_n hx hb dX7_findings_14 rfl (lv_at hl 0 rfl) ?_
      refine x_get (rest := []) X hP (gC0 c3 ad w) rfl iwX7_findings_X7 7 (by decide) lkX7_findings_52 rfl dX7_findings_15 ?_
      refine lv_iload_n hx hb dX7_findings_18 rfl (lv_at hl 1 rfl) ?_
      obtain ⟨g_3, h⟩ := gd_s h
      refine x_iald X hP (gC43 c3 ad w) g_3 dX7_findings_19 ?_
      obtain rfl := Option.some.inj h
      exact hret _ _ _ _ hP hS dX7_findings_20
    · replace h := it_n c_2 h
      exact bX7_findings_10 X hret _ _ _ hP hS (lv_sub hl [] rfl) h
def fX7_findings (x1 : Int32) (w : Mm) : Option (Int32) := fX7_findings_E x1 w
theorem ctX7_findings (l : Launch) (D : va_G) (c3 : C3) (ad : Nat → Nat) (w : Mm) (sz : Nat) (x1 : Int32) (r : Int32) (h : fX7_findings x1 w = some r) : Ci l yX7_findings wsX7_findings rmX7_findings D c3 (encC c3 ad) gC [.ref (ad 0), .int x1] w sz r w := by
  refine Ci.of (cc := cX7_findings) (maxL := 2) (encC_ok c3 ad) (by decide) rfl (Nat.le_of_ble_eq_true rfl) ?_
  intro p e s m below meth c A Q ls X hret hP hS hl
  exact bX7_findings_E X hret x1 _ _ ls hP hS hl h
theorem iwX5_mixInto_X5 : ∀ w ∈ wsX50, w ∈ wsX5_mixInto := fun _ h => List.mem_cons_of_mem _ (List.mem_append_right _ h)
theorem lkX5_mixInto_11 : Cond.fieldLink RX5 11 "StuckDoor$Rows" "places" "[[I" ∈ wsX5_mixInto := by decide +kernel
theorem lkX5_mixInto_16 : Cond.fieldLink RX5 16 "StuckDoor$Rows" "sizes" "[I" ∈ wsX5_mixInto := by decide +kernel
def rmX5_mixInto_1 : Room := { frames := 0, cells := 0, slots := 0, locals := 0 }
def fX5_mixInto_1_33 (k5 : Int64 → Int32 → Option (Int64)) (x5 : Int32) (w : Mm) : Nat → Int64 → Int32 → Option (Int64)
  | 0, _, _ => none
  | n + 1, y3, x6 => gd (inb x5 6 = true) ((if (w.1 3 x5.toNatClampNeg) ≤ x6 then k5 y3 (x5 + 1) else gd (inb x6 40 = true) (nm ((31 * y3) + ((w.1 (4 + x5.toNatClampNeg) x6.toNatClampNeg).toInt64)) (fun y3_5 => fX5_mixInto_1_33 k5 x5 w n y3_5 (x6 + 1)))))
set_option maxRecDepth 20000 in
theorem bX5_mixInto_1_33 {p : Program} {l : Launch} {e : Env} {s : State} {m : MethodId} {args : Array Value} {below : List Frame} {meth : Method} {c : Code} {Q : State → Prop} {D : va_G} {c3 : C3} {ad : Nat → Nat} {A : Nat → Prop} {r : Int64} {w : Mm} (X : Cx p s m args c cX5_mixInto 7 RX5 wsX5_mixInto D c3 (encC c3 ad) gC A) (hret : Rl p l e (rmX5_mixInto_1) s m args below meth c Q cX5_mixInto D (encC c3 ad) A r w) {k5 : Int64 → Int32 → Option (Int64)} (hk5 : ∀ (y3 : Int64) (x5 : Int32) (H : Heap) (locs : List Loc) (ls : Array Slot), va_P D vwCl ((encC c3 ad) w) H → va_S A s.heap H locs → lv_has ls 7 [(0, .ref (ad 1)), (3, .long y3), (5, .int x5)] → k5 y3 x5 = some r → W p l e (rmX5_mixInto_1) s m args below meth c H locs 0 0 Q (F0 m 5 ls [])) : ∀ (x5 : Int32) (n : Nat) (y3 : Int64) (x6 : Int32) (H : Heap) (locs : List Loc) (ls : Array Slot), va_P D vwCl ((encC c3 ad) w) H → va_S A s.heap H locs → lv_has ls 7 [(0, .ref (ad 1)), (3, .long y3), (5, .int x5), (6, .int x6)] → fX5_mixInto_1_33 k5 x5 w n y3 x6 = some r → W p l e (rmX5_mixInto_1) s m args below meth c H locs 0 0 Q (F0 m 33 ls []) := by
  have hx := X.1
  have hb := X.2.1
  have hml := X.2.2.1
  have hown := X.2.2.2.1
  have hts := X.2.2.2.2.1
  intro x5 n
  induction n with
  | zero =>
    intro y3 x6 H locs ls hP hS hl h
    exact absurd h (by simp [fX5_mixInto_1_33])
  | succ n ih =>
    intro y3 x6 H locs ls hP hS hl h
    rw [fX5_mixInto_1_33] at h
    refine lv_iload hx hb dX5_mixInto_33 (lv_at hl 3 rfl) ?_
    refine lv_aload_n hx hb dX5_mixInto_35 rfl (lv_at hl 0 rfl) ?_
    refine x_get (rest := [.int x6]) X hP (gC1 c3 ad w) rfl iwX5_mixInto_X5 1 (by decide) lkX5_mixInto_16 rfl dX5_mixInto_36 ?_
    refine lv_iload hx hb dX5_mixInto_39 (lv_at hl 2 rfl) ?_
    obtain ⟨g_1, h⟩ := gd_s h
    refine x_iald X hP (gC3 c3 ad w) g_1 dX5_mixInto_41 ?_
    refine lv_icmp_ge (tgt := 69) hx hb dX5_mixInto_42 (by decide) (fun c_2 => ?_) (fun c_2 => ?_)
    · replace h := it_p c_2 h
      refine lv_iinc (v := (x5 + 1)) (lv' := [(5, .int (x5 + 1)), (0, .ref (ad 1)), (3, .long y3), (6, .int x6)]) hx hb dX5_mixInto_69 hl (k := 2) rfl rfl (by decide) rfl (fun ls hl => ?_)
      refine lv_goto (tgt := 5) hx hb dX5_mixInto_72 (by decide) ?_
      exact hk5 y3 (x5 + 1) _ _ _ hP hS (lv_sub hl [1, 2, 0] rfl) h
    · replace h := it_n c_2 h
      refine lv_ldc2 (v := 31) hx hb hown (hts (.constantLong RX5 33 (31)) (by decide +kernel)) dX5_mixInto_45 ?_
      refine lv_lload_n hx hb dX5_mixInto_48 rfl (lv_at hl 1 rfl) ?_
      refine lv_lmul hx hb dX5_mixInto_49 ?_
      refine lv_aload_n hx hb dX5_mixInto_50 rfl (lv_at hl 0 rfl) ?_
      refine x_get (rest := [.long (31 * y3)]) X hP (gC1 c3 ad w) rfl iwX5_mixInto_X5 0 (by decide) lkX5_mixInto_11 rfl dX5_mixInto_51 ?_
      refine lv_iload hx hb dX5_mixInto_54 (lv_at hl 2 rfl) ?_
      have q_3 := rgn 4 g_1
      refine x_aald (z := ad (4 + x5.toNatClampNeg)) X hP (gC2 c3 ad w) g_1 rfl dX5_mixInto_56 ?_
      refine lv_iload hx hb dX5_mixInto_57 (lv_at hl 3 rfl) ?_
      obtain ⟨g_4, h⟩ := gd_s h
      refine x_iald X hP (gCrI c3 ad w q_3) g_4 dX5_mixInto_59 ?_
      refine lv_i2l (v := (w.1 (4 + x5.toNatClampNeg) x6.toNatClampNeg).toInt64) hx hb dX5_mixInto_60 rfl ?_
      refine lv_ladd hx hb dX5_mixInto_61 ?_
      refine x_nml h (fun y3_5 h => ?_)
      refine lv_lstore_n (lv' := [(3, .long y3_5), (0, .ref (ad 1)), (5, .int x5), (6, .int x6)]) hx hb dX5_mixInto_62 rfl hl (by decide) rfl (fun ls hl => ?_)
      refine lv_iinc (v := (x6 + 1)) (lv' := [(6, .int (x6 + 1)), (3, .long y3_5), (0, .ref (ad 1)), (5, .int x5)]) hx hb dX5_mixInto_63 hl (k := 3) rfl rfl (by decide) rfl (fun ls hl => ?_)
      refine lv_goto (tgt := 33) hx hb dX5_mixInto_66 (by decide) ?_
      exact ih y3_5 (x6 + 1) _ _ _ hP hS (lv_sub hl [2, 1, 3, 0] rfl) h
def fX5_mixInto_1_5 (w : Mm) : Nat → Int64 → Int32 → Option (Int64)
  | 0, _, _ => none
  | n + 1, y3, x5 => (if 6 ≤ x5 then some y3 else gd (inb x5 6 = true) (nm ((31 * y3) + ((w.1 3 x5.toNatClampNeg).toInt64)) (fun y3_8 => fX5_mixInto_1_33 (fX5_mixInto_1_5 w n) x5 w FU y3_8 0)))
set_option maxRecDepth 20000 in
theorem bX5_mixInto_1_5 {p : Program} {l : Launch} {e : Env} {s : State} {m : MethodId} {args : Array Value} {below : List Frame} {meth : Method} {c : Code} {Q : State → Prop} {D : va_G} {c3 : C3} {ad : Nat → Nat} {A : Nat → Prop} {r : Int64} {w : Mm} (X : Cx p s m args c cX5_mixInto 7 RX5 wsX5_mixInto D c3 (encC c3 ad) gC A) (hret : Rl p l e (rmX5_mixInto_1) s m args below meth c Q cX5_mixInto D (encC c3 ad) A r w) : ∀ (n : Nat) (y3 : Int64) (x5 : Int32) (H : Heap) (locs : List Loc) (ls : Array Slot), va_P D vwCl ((encC c3 ad) w) H → va_S A s.heap H locs → lv_has ls 7 [(0, .ref (ad 1)), (3, .long y3), (5, .int x5)] → fX5_mixInto_1_5 w n y3 x5 = some r → W p l e (rmX5_mixInto_1) s m args below meth c H locs 0 0 Q (F0 m 5 ls []) := by
  have hx := X.1
  have hb := X.2.1
  have hml := X.2.2.1
  have hown := X.2.2.2.1
  have hts := X.2.2.2.2.1
  intro n
  induction n with
  | zero =>
    intro y3 x5 H locs ls hP hS hl h
    exact absurd h (by simp [fX5_mixInto_1_5])
  | succ n ih =>
    intro y3 x5 H locs ls hP hS hl h
    rw [fX5_mixInto_1_5] at h
    refine lv_iload hx hb dX5_mixInto_5 (lv_at hl 2 rfl) ?_
    refine lv_aload_n hx hb dX5_mixInto_7 rfl (lv_at hl 0 rfl) ?_
    refine x_get (rest := [.int x5]) X hP (gC1 c3 ad w) rfl iwX5_mixInto_X5 1 (by decide) lkX5_mixInto_16 rfl dX5_mixInto_8 ?_
    refine x_alen (v := 6) X hP (gC3 c3 ad w) rfl dX5_mixInto_11 ?_
    refine lv_icmp_ge (tgt := 75) hx hb dX5_mixInto_12 (by decide) (fun c_6 => ?_) (fun c_6 => ?_)
    · replace h := it_p c_6 h
      refine lv_lload_n hx hb dX5_mixInto_75 rfl (lv_at hl 1 rfl) ?_
      obtain rfl := Option.some.inj h
      exact hret _ _ _ _ hP hS dX5_mixInto_76
    · replace h := it_n c_6 h
      refine lv_ldc2 (v := 31) hx hb hown (hts (.constantLong RX5 33 (31)) (by decide +kernel)) dX5_mixInto_15 ?_
      refine lv_lload_n hx hb dX5_mixInto_18 rfl (lv_at hl 1 rfl) ?_
      refine lv_lmul hx hb dX5_mixInto_19 ?_
      refine lv_aload_n hx hb dX5_mixInto_20 rfl (lv_at hl 0 rfl) ?_
      refine x_get (rest := [.long (31 * y3)]) X hP (gC1 c3 ad w) rfl iwX5_mixInto_X5 1 (by decide) lkX5_mixInto_16 rfl dX5_mixInto_21 ?_
      refine lv_iload hx hb dX5_mixInto_24 (lv_at hl 2 rfl) ?_
      obtain ⟨g_7, h⟩ := gd_s h
      refine x_iald X hP (gC3 c3 ad w) g_7 dX5_mixInto_26 ?_
      refine lv_i2l (v := (w.1 3 x5.toNatClampNeg).toInt64) hx hb dX5_mixInto_27 rfl ?_
      refine lv_ladd hx hb dX5_mixInto_28 ?_
      refine x_nml h (fun y3_8 h => ?_)
      refine lv_lstore_n (lv' := [(3, .long y3_8), (0, .ref (ad 1)), (5, .int x5)]) hx hb dX5_mixInto_29 rfl hl (by decide) rfl (fun ls hl => ?_)
      refine lv_iconst (v := 0) hx hb dX5_mixInto_30 (by decide) ?_
      refine lv_istore (lv' := [(6, .int 0), (3, .long y3_8), (0, .ref (ad 1)), (5, .int x5)]) hx hb dX5_mixInto_31 hl (by decide) rfl (fun ls hl => ?_)
      exact bX5_mixInto_1_33 (k5 := (fX5_mixInto_1_5 w n)) X hret ih x5 FU y3_8 0 _ _ _ hP hS (lv_sub hl [2, 1, 3, 0] rfl) h
def fX5_mixInto_1_E (y1 : Int64) (w : Mm) : Option (Int64) := fX5_mixInto_1_5 w FU y1 0
set_option maxRecDepth 20000 in
theorem bX5_mixInto_1_E {p : Program} {l : Launch} {e : Env} {s : State} {m : MethodId} {args : Array Value} {below : List Frame} {meth : Method} {c : Code} {Q : State → Prop} {D : va_G} {c3 : C3} {ad : Nat → Nat} {A : Nat → Prop} {r : Int64} {w : Mm} (X : Cx p s m args c cX5_mixInto 7 RX5 wsX5_mixInto D c3 (encC c3 ad) gC A) (hret : Rl p l e (rmX5_mixInto_1) s m args below meth c Q cX5_mixInto D (encC c3 ad) A r w) : ∀ (y1 : Int64) (H : Heap) (locs : List Loc) (ls : Array Slot), va_P D vwCl ((encC c3 ad) w) H → va_S A s.heap H locs → lv_has ls 7 [(0, .ref (ad 1)), (1, .long y1)] → fX5_mixInto_1_E y1 w = some r → W p l e (rmX5_mixInto_1) s m args below meth c H locs 0 0 Q (F0 m 0 ls []) := by
  have hx := X.1
  have hb := X.2.1
  have hml := X.2.2.1
  have hown := X.2.2.2.1
  have hts := X.2.2.2.2.1
  intro y1 H locs ls hP hS hl h
  unfold fX5_mixInto_1_E at h
  refine lv_lload_n hx hb dX5_mixInto_0 rfl (lv_at hl 1 rfl) ?_
  refine lv_lstore_n (lv' := [(3, .long y1), (0, .ref (ad 1)), (1, .long y1)]) hx hb dX5_mixInto_1 rfl hl (by decide) rfl (fun ls hl => ?_)
  refine lv_iconst (v := 0) hx hb dX5_mixInto_2 (by decide) ?_
  refine lv_istore (lv' := [(5, .int 0), (3, .long y1), (0, .ref (ad 1)), (1, .long y1)]) hx hb dX5_mixInto_3 hl (by decide) rfl (fun ls hl => ?_)
  exact bX5_mixInto_1_5 X hret FU y1 0 _ _ _ hP hS (lv_sub hl [2, 1, 0] rfl) h
def fX5_mixInto_1 (y1 : Int64) (w : Mm) : Option (Int64) := fX5_mixInto_1_E y1 w
theorem ctX5_mixInto_1 (l : Launch) (D : va_G) (c3 : C3) (ad : Nat → Nat) (w : Mm) (sz : Nat) (y1 : Int64) (r : Int64) (h : fX5_mixInto_1 y1 w = some r) : Cl l yX5_mixInto wsX5_mixInto rmX5_mixInto_1 D c3 (encC c3 ad) gC [.ref (ad 1), .long y1] w sz r w := by
  refine Cl.of (cc := cX5_mixInto) (maxL := 7) (encC_ok c3 ad) (by decide) rfl (Nat.le_of_ble_eq_true rfl) ?_
  intro p e s m below meth c A Q ls X hret hP hS hl
  exact bX5_mixInto_1_E X hret y1 _ _ ls hP hS hl h
def rmX5_mixInto_10 : Room := { frames := 0, cells := 0, slots := 0, locals := 0 }
def fX5_mixInto_10_33 (k5 : Int64 → Int32 → Option (Int64)) (x5 : Int32) (w : Mm) : Nat → Int64 → Int32 → Option (Int64)
  | 0, _, _ => none
  | n + 1, y3, x6 => gd (inb x5 4 = true) ((if (w.1 12 x5.toNatClampNeg) ≤ x6 then k5 y3 (x5 + 1) else gd (inb x6 60 = true) (nm ((31 * y3) + ((w.1 (13 + x5.toNatClampNeg) x6.toNatClampNeg).toInt64)) (fun y3_5 => fX5_mixInto_10_33 k5 x5 w n y3_5 (x6 + 1)))))
set_option maxRecDepth 20000 in
theorem bX5_mixInto_10_33 {p : Program} {l : Launch} {e : Env} {s : State} {m : MethodId} {args : Array Value} {below : List Frame} {meth : Method} {c : Code} {Q : State → Prop} {D : va_G} {c3 : C3} {ad : Nat → Nat} {A : Nat → Prop} {r : Int64} {w : Mm} (X : Cx p s m args c cX5_mixInto 7 RX5 wsX5_mixInto D c3 (encC c3 ad) gC A) (hret : Rl p l e (rmX5_mixInto_10) s m args below meth c Q cX5_mixInto D (encC c3 ad) A r w) {k5 : Int64 → Int32 → Option (Int64)} (hk5 : ∀ (y3 : Int64) (x5 : Int32) (H : Heap) (locs : List Loc) (ls : Array Slot), va_P D vwCl ((encC c3 ad) w) H → va_S A s.heap H locs → lv_has ls 7 [(0, .ref (ad 10)), (3, .long y3), (5, .int x5)] → k5 y3 x5 = some r → W p l e (rmX5_mixInto_10) s m args below meth c H locs 0 0 Q (F0 m 5 ls [])) : ∀ (x5 : Int32) (n : Nat) (y3 : Int64) (x6 : Int32) (H : Heap) (locs : List Loc) (ls : Array Slot), va_P D vwCl ((encC c3 ad) w) H → va_S A s.heap H locs → lv_has ls 7 [(0, .ref (ad 10)), (3, .long y3), (5, .int x5), (6, .int x6)] → fX5_mixInto_10_33 k5 x5 w n y3 x6 = some r → W p l e (rmX5_mixInto_10) s m args below meth c H locs 0 0 Q (F0 m 33 ls []) := by
  have hx := X.1
  have hb := X.2.1
  have hml := X.2.2.1
  have hown := X.2.2.2.1
  have hts := X.2.2.2.2.1
  intro x5 n
  induction n with
  | zero =>
    intro y3 x6 H locs ls hP hS hl h
    exact absurd h (by simp [fX5_mixInto_10_33])
  | succ n ih =>
    intro y3 x6 H locs ls hP hS hl h
    rw [fX5_mixInto_10_33] at h
    refine lv_iload hx hb dX5_mixInto_33 (lv_at hl 3 rfl) ?_
    refine lv_aload_n hx hb dX5_mixInto_35 rfl (lv_at hl 0 rfl) ?_
    refine x_get (rest := [.int x6]) X hP (gC10 c3 ad w) rfl iwX5_mixInto_X5 1 (by decide) lkX5_mixInto_16 rfl dX5_mixInto_36 ?_
    refine lv_iload hx hb dX5_mixInto_39 (lv_at hl 2 rfl) ?_
    obtain ⟨g_1, h⟩ := gd_s h
    refine x_iald X hP (gC12 c3 ad w) g_1 dX5_mixInto_41 ?_
    refine lv_icmp_ge (tgt := 69) hx hb dX5_mixInto_42 (by decide) (fun c_2 => ?_) (fun c_2 => ?_)
    · replace h := it_p c_2 h
      refine lv_iinc (v := (x5 + 1)) (lv' := [(5, .int (x5 + 1)), (0, .ref (ad 10)), (3, .long y3), (6, .int x6)]) hx hb dX5_mixInto_69 hl (k := 2) rfl rfl (by decide) rfl (fun ls hl => ?_)
      refine lv_goto (tgt := 5) hx hb dX5_mixInto_72 (by decide) ?_
      exact hk5 y3 (x5 + 1) _ _ _ hP hS (lv_sub hl [1, 2, 0] rfl) h
    · replace h := it_n c_2 h
      refine lv_ldc2 (v := 31) hx hb hown (hts (.constantLong RX5 33 (31)) (by decide +kernel)) dX5_mixInto_45 ?_
      refine lv_lload_n hx hb dX5_mixInto_48 rfl (lv_at hl 1 rfl) ?_
      refine lv_lmul hx hb dX5_mixInto_49 ?_
      refine lv_aload_n hx hb dX5_mixInto_50 rfl (lv_at hl 0 rfl) ?_
      refine x_get (rest := [.long (31 * y3)]) X hP (gC10 c3 ad w) rfl iwX5_mixInto_X5 0 (by decide) lkX5_mixInto_11 rfl dX5_mixInto_51 ?_
      refine lv_iload hx hb dX5_mixInto_54 (lv_at hl 2 rfl) ?_
      have q_3 := rgn 13 g_1
      refine x_aald (z := ad (13 + x5.toNatClampNeg)) X hP (gC11 c3 ad w) g_1 rfl dX5_mixInto_56 ?_
      refine lv_iload hx hb dX5_mixInto_57 (lv_at hl 3 rfl) ?_
      obtain ⟨g_4, h⟩ := gd_s h
      refine x_iald X hP (gCrT c3 ad w q_3) g_4 dX5_mixInto_59 ?_
      refine lv_i2l (v := (w.1 (13 + x5.toNatClampNeg) x6.toNatClampNeg).toInt64) hx hb dX5_mixInto_60 rfl ?_
      refine lv_ladd hx hb dX5_mixInto_61 ?_
      refine x_nml h (fun y3_5 h => ?_)
      refine lv_lstore_n (lv' := [(3, .long y3_5), (0, .ref (ad 10)), (5, .int x5), (6, .int x6)]) hx hb dX5_mixInto_62 rfl hl (by decide) rfl (fun ls hl => ?_)
      refine lv_iinc (v := (x6 + 1)) (lv' := [(6, .int (x6 + 1)), (3, .long y3_5), (0, .ref (ad 10)), (5, .int x5)]) hx hb dX5_mixInto_63 hl (k := 3) rfl rfl (by decide) rfl (fun ls hl => ?_)
      refine lv_goto (tgt := 33) hx hb dX5_mixInto_66 (by decide) ?_
      exact ih y3_5 (x6 + 1) _ _ _ hP hS (lv_sub hl [2, 1, 3, 0] rfl) h
def fX5_mixInto_10_5 (w : Mm) : Nat → Int64 → Int32 → Option (Int64)
  | 0, _, _ => none
  | n + 1, y3, x5 => (if 4 ≤ x5 then some y3 else gd (inb x5 4 = true) (nm ((31 * y3) + ((w.1 12 x5.toNatClampNeg).toInt64)) (fun y3_8 => fX5_mixInto_10_33 (fX5_mixInto_10_5 w n) x5 w FU y3_8 0)))
set_option maxRecDepth 20000 in
theorem bX5_mixInto_10_5 {p : Program} {l : Launch} {e : Env} {s : State} {m : MethodId} {args : Array Value} {below : List Frame} {meth : Method} {c : Code} {Q : State → Prop} {D : va_G} {c3 : C3} {ad : Nat → Nat} {A : Nat → Prop} {r : Int64} {w : Mm} (X : Cx p s m args c cX5_mixInto 7 RX5 wsX5_mixInto D c3 (encC c3 ad) gC A) (hret : Rl p l e (rmX5_mixInto_10) s m args below meth c Q cX5_mixInto D (encC c3 ad) A r w) : ∀ (n : Nat) (y3 : Int64) (x5 : Int32) (H : Heap) (locs : List Loc) (ls : Array Slot), va_P D vwCl ((encC c3 ad) w) H → va_S A s.heap H locs → lv_has ls 7 [(0, .ref (ad 10)), (3, .long y3), (5, .int x5)] → fX5_mixInto_10_5 w n y3 x5 = some r → W p l e (rmX5_mixInto_10) s m args below meth c H locs 0 0 Q (F0 m 5 ls []) := by
  have hx := X.1
  have hb := X.2.1
  have hml := X.2.2.1
  have hown := X.2.2.2.1
  have hts := X.2.2.2.2.1
  intro n
  induction n with
  | zero =>
    intro y3 x5 H locs ls hP hS hl h
    exact absurd h (by simp [fX5_mixInto_10_5])
  | succ n ih =>
    intro y3 x5 H locs ls hP hS hl h
    rw [fX5_mixInto_10_5] at h
    refine lv_iload hx hb dX5_mixInto_5 (lv_at hl 2 rfl) ?_
    refine lv_aload_n hx hb dX5_mixInto_7 rfl (lv_at hl 0 rfl) ?_
    refine x_get (rest := [.int x5]) X hP (gC10 c3 ad w) rfl iwX5_mixInto_X5 1 (by decide) lkX5_mixInto_16 rfl dX5_mixInto_8 ?_
    refine x_alen (v := 4) X hP (gC12 c3 ad w) rfl dX5_mixInto_11 ?_
    refine lv_icmp_ge (tgt := 75) hx hb dX5_mixInto_12 (by decide) (fun c_6 => ?_) (fun c_6 => ?_)
    · replace h := it_p c_6 h
      refine lv_lload_n hx hb dX5_mixInto_75 rfl (lv_at hl 1 rfl) ?_
      obtain rfl := Option.some.inj h
      exact hret _ _ _ _ hP hS dX5_mixInto_76
    · replace h := it_n c_6 h
      refine lv_ldc2 (v := 31) hx hb hown (hts (.constantLong RX5 33 (31)) (by decide +kernel)) dX5_mixInto_15 ?_
      refine lv_lload_n hx hb dX5_mixInto_18 rfl (lv_at hl 1 rfl) ?_
      refine lv_lmul hx hb dX5_mixInto_19 ?_
      refine lv_aload_n hx hb dX5_mixInto_20 rfl (lv_at hl 0 rfl) ?_
      refine x_get (rest := [.long (31 * y3)]) X hP (gC10 c3 ad w) rfl iwX5_mixInto_X5 1 (by decide) lkX5_mixInto_16 rfl dX5_mixInto_21 ?_
      refine lv_iload hx hb dX5_mixInto_24 (lv_at hl 2 rfl) ?_
      obtain ⟨g_7, h⟩ := gd_s h
      refine x_iald X hP (gC12 c3 ad w) g_7 dX5_mixInto_26 ?_
      refine lv_i2l (v := (w.1 12 x5.toNatClampNeg).toInt64) hx hb dX5_mixInto_27 rfl ?_
      refine lv_ladd hx hb dX5_mixInto_28 ?_
      refine x_nml h (fun y3_8 h => ?_)
      refine lv_lstore_n (lv' := [(3, .long y3_8), (0, .ref (ad 10)), (5, .int x5)]) hx hb dX5_mixInto_29 rfl hl (by decide) rfl (fun ls hl => ?_)
      refine lv_iconst (v := 0) hx hb dX5_mixInto_30 (by decide) ?_
      refine lv_istore (lv' := [(6, .int 0), (3, .long y3_8), (0, .ref (ad 10)), (5, .int x5)]) hx hb dX5_mixInto_31 hl (by decide) rfl (fun ls hl => ?_)
      exact bX5_mixInto_10_33 (k5 := (fX5_mixInto_10_5 w n)) X hret ih x5 FU y3_8 0 _ _ _ hP hS (lv_sub hl [2, 1, 3, 0] rfl) h
def fX5_mixInto_10_E (y1 : Int64) (w : Mm) : Option (Int64) := fX5_mixInto_10_5 w FU y1 0
set_option maxRecDepth 20000 in
theorem bX5_mixInto_10_E {p : Program} {l : Launch} {e : Env} {s : State} {m : MethodId} {args : Array Value} {below : List Frame} {meth : Method} {c : Code} {Q : State → Prop} {D : va_G} {c3 : C3} {ad : Nat → Nat} {A : Nat → Prop} {r : Int64} {w : Mm} (X : Cx p s m args c cX5_mixInto 7 RX5 wsX5_mixInto D c3 (encC c3 ad) gC A) (hret : Rl p l e (rmX5_mixInto_10) s m args below meth c Q cX5_mixInto D (encC c3 ad) A r w) : ∀ (y1 : Int64) (H : Heap) (locs : List Loc) (ls : Array Slot), va_P D vwCl ((encC c3 ad) w) H → va_S A s.heap H locs → lv_has ls 7 [(0, .ref (ad 10)), (1, .long y1)] → fX5_mixInto_10_E y1 w = some r → W p l e (rmX5_mixInto_10) s m args below meth c H locs 0 0 Q (F0 m 0 ls []) := by
  have hx := X.1
  have hb := X.2.1
  have hml := X.2.2.1
  have hown := X.2.2.2.1
  have hts := X.2.2.2.2.1
  intro y1 H locs ls hP hS hl h
  unfold fX5_mixInto_10_E at h
  refine lv_lload_n hx hb dX5_mixInto_0 rfl (lv_at hl 1 rfl) ?_
  refine lv_lstore_n (lv' := [(3, .long y1), (0, .ref (ad 10)), (1, .long y1)]) hx hb dX5_mixInto_1 rfl hl (by decide) rfl (fun ls hl => ?_)
  refine lv_iconst (v := 0) hx hb dX5_mixInto_2 (by decide) ?_
  refine lv_istore (lv' := [(5, .int 0), (3, .long y1), (0, .ref (ad 10)), (1, .long y1)]) hx hb dX5_mixInto_3 hl (by decide) rfl (fun ls hl => ?_)
  exact bX5_mixInto_10_5 X hret FU y1 0 _ _ _ hP hS (lv_sub hl [2, 1, 0] rfl) h
def fX5_mixInto_10 (y1 : Int64) (w : Mm) : Option (Int64) := fX5_mixInto_10_E y1 w
theorem ctX5_mixInto_10 (l : Launch) (D : va_G) (c3 : C3) (ad : Nat → Nat) (w : Mm) (sz : Nat) (y1 : Int64) (r : Int64) (h : fX5_mixInto_10 y1 w = some r) : Cl l yX5_mixInto wsX5_mixInto rmX5_mixInto_10 D c3 (encC c3 ad) gC [.ref (ad 10), .long y1] w sz r w := by
  refine Cl.of (cc := cX5_mixInto) (maxL := 7) (encC_ok c3 ad) (by decide) rfl (Nat.le_of_ble_eq_true rfl) ?_
  intro p e s m below meth c A Q ls X hret hP hS hl
  exact bX5_mixInto_10_E X hret y1 _ _ ls hP hS hl h
theorem iwX7_digest_X2 : ∀ w ∈ wsX20, w ∈ wsX7_digest := fun _ h => List.mem_cons_of_mem _ (List.mem_append_left _ (List.mem_append_right _ h))
theorem iwX7_digest_X5 : ∀ w ∈ wsX50, w ∈ wsX7_digest := fun _ h => List.mem_cons_of_mem _ (List.mem_append_right _ h)
theorem iwX7_digest_X7 : ∀ w ∈ wsX70, w ∈ wsX7_digest := fun _ h => List.mem_cons_of_mem _ (List.mem_append_left _ (List.mem_append_left _ (List.mem_append_right _ h)))
theorem lkX7_digest_14 : Cond.fieldLink RX7 14 "StuckDoor" "ints" "LStuckDoor$Rows;" ∈ wsX7_digest := by decide +kernel
theorem lkX7_digest_18 : Cond.fieldLink RX7 18 "StuckDoor" "texts" "LStuckDoor$Rows;" ∈ wsX7_digest := by decide +kernel
theorem lkX7_digest_21 : Cond.fieldLink RX7 21 "StuckDoor" "kept" "LStuckDoor$Rows;" ∈ wsX7_digest := by decide +kernel
theorem lkX7_digest_27 : Cond.fieldLink RX7 27 "StuckDoor" "family" "LStuckDoor$Family;" ∈ wsX7_digest := by decide +kernel
theorem lkX7_digest_94 : Cond.fieldLink RX7 94 "StuckDoor$Rows" "sizes" "[I" ∈ wsX7_digest := by decide +kernel
theorem lkX7_digest_121 : Cond.fieldLink RX7 121 "StuckDoor$Family" "sayings" "I" ∈ wsX7_digest := by decide +kernel
theorem lkX7_digest_161 : Cond.fieldLink RX7 161 "StuckDoor$Family" "bearing" "[I" ∈ wsX7_digest := by decide +kernel
theorem lkX7_digest_226 : Cond.fieldLink RX7 226 "StuckDoor$Family" "stuckRooms" "I" ∈ wsX7_digest := by decide +kernel
theorem lkX7_digest_292 : Cond.fieldLink RX7 292 "StuckDoor$Family" "people" "I" ∈ wsX7_digest := by decide +kernel
def rmX7_digest : Room := { frames := 4, cells := 0, slots := 0, locals := 87 }
def fX7_digest_136 (w : Mm) : Nat → Int64 → Int32 → Option (Int64)
  | 0, _, _ => none
  | n + 1, y1, x3 => (if 3 ≤ x3 then bo (fX5_mixInto_1 y1 w) (fun r_3 => bo (fX5_mixInto_10 r_3 w) (fun r_6 => some r_6)) else gd (inb x3 3 = true) (nm ((31 * y1) + ((w.1 19 x3.toNatClampNeg).toInt64)) (fun y1_9 => fX7_digest_136 w n y1_9 (x3 + 1))))
set_option maxRecDepth 20000 in
theorem bX7_digest_136 {p : Program} {l : Launch} {e : Env} {s : State} {m : MethodId} {args : Array Value} {below : List Frame} {meth : Method} {c : Code} {Q : State → Prop} {D : va_G} {c3 : C3} {ad : Nat → Nat} {A : Nat → Prop} {r : Int64} {w : Mm} (X : Cx p s m args c cX7_digest 5 RX7 wsX7_digest D c3 (encC c3 ad) gC A) (hret : Rl p l e (rmX7_digest) s m args below meth c Q cX7_digest D (encC c3 ad) A r w) : ∀ (n : Nat) (y1 : Int64) (x3 : Int32) (H : Heap) (locs : List Loc) (ls : Array Slot), va_P D vwCl ((encC c3 ad) w) H → va_S A s.heap H locs → lv_has ls 5 [(0, .ref (ad 0)), (1, .long y1), (3, .int x3)] → fX7_digest_136 w n y1 x3 = some r → W p l e (rmX7_digest) s m args below meth c H locs 0 0 Q (F0 m 136 ls []) := by
  have hx := X.1
  have hb := X.2.1
  have hml := X.2.2.1
  have hown := X.2.2.2.1
  have hts := X.2.2.2.2.1
  intro n
  induction n with
  | zero =>
    intro y1 x3 H locs ls hP hS hl h
    exact absurd h (by simp [fX7_digest_136])
  | succ n ih =>
    intro y1 x3 H locs ls hP hS hl h
    rw [fX7_digest_136] at h
    refine lv_iload_n hx hb dX7_digest_136 rfl (lv_at hl 2 rfl) ?_
    refine lv_iconst (v := 3) hx hb dX7_digest_137 (by decide) ?_
    refine lv_icmp_ge (tgt := 164) hx hb dX7_digest_138 (by decide) (fun c_1 => ?_) (fun c_1 => ?_)
    · replace h := it_p c_1 h
      refine lv_aload_n hx hb dX7_digest_164 rfl (lv_at hl 0 rfl) ?_
      refine x_get (rest := []) X hP (gC0 c3 ad w) rfl iwX7_digest_X7 1 (by decide) lkX7_digest_18 rfl dX7_digest_165 ?_
      refine lv_aload_n hx hb dX7_digest_168 rfl (lv_at hl 0 rfl) ?_
      refine x_get (rest := [.ref (ad 10)]) X hP (gC0 c3 ad w) rfl iwX7_digest_X7 0 (by decide) lkX7_digest_14 rfl dX7_digest_169 ?_
      refine lv_lload_n hx hb dX7_digest_172 rfl (lv_at hl 1 rfl) ?_
      obtain ⟨r_3, e_2, h⟩ := bo_s h
      refine x_gol X hS (x_runV (As := [.long y1]) (rest := [.ref (ad 10)]) X gC_ok hP hS (ctX5_mixInto_1 l D c3 ad w _ y1 _ e_2) (cwV 1 hts gX7_digest_X5_mixInto rfl rfl rfl (by decide +kernel) ⟨by decide, by decide⟩) (gC1 c3 ad w) rfl rfl rfl hl.1 rfl (Nat.le_of_ble_eq_true rfl) dX7_digest_173) (fun H locs hP hS => ?_)
      obtain ⟨r_6, e_5, h⟩ := bo_s h
      refine x_gol X hS (x_runV (As := [.long r_3]) (rest := []) X gC_ok hP hS (ctX5_mixInto_10 l D c3 ad w _ r_3 _ e_5) (cwV 1 hts gX7_digest_X5_mixInto rfl rfl rfl (by decide +kernel) ⟨by decide, by decide⟩) (gC10 c3 ad w) rfl rfl rfl hl.1 rfl (Nat.le_of_ble_eq_true rfl) dX7_digest_176) (fun H locs hP hS => ?_)
      obtain rfl := Option.some.inj h
      exact hret _ _ _ _ hP hS dX7_digest_179
    · replace h := it_n c_1 h
      refine lv_ldc2 (v := 31) hx hb hown (hts (.constantLong RX7 312 (31)) (by decide +kernel)) dX7_digest_141 ?_
      refine lv_lload_n hx hb dX7_digest_144 rfl (lv_at hl 1 rfl) ?_
      refine lv_lmul hx hb dX7_digest_145 ?_
      refine lv_aload_n hx hb dX7_digest_146 rfl (lv_at hl 0 rfl) ?_
      refine x_get (rest := [.long (31 * y1)]) X hP (gC0 c3 ad w) rfl iwX7_digest_X7 2 (by decide) lkX7_digest_21 rfl dX7_digest_147 ?_
      refine x_get (rest := [.long (31 * y1)]) X hP (gC17 c3 ad w) rfl iwX7_digest_X5 1 (by decide) lkX7_digest_94 rfl dX7_digest_150 ?_
      refine lv_iload_n hx hb dX7_digest_153 rfl (lv_at hl 2 rfl) ?_
      obtain ⟨g_8, h⟩ := gd_s h
      refine x_iald X hP (gC19 c3 ad w) g_8 dX7_digest_154 ?_
      refine lv_i2l (v := (w.1 19 x3.toNatClampNeg).toInt64) hx hb dX7_digest_155 rfl ?_
      refine lv_ladd hx hb dX7_digest_156 ?_
      refine x_nml h (fun y1_9 h => ?_)
      refine lv_lstore_n (lv' := [(1, .long y1_9), (0, .ref (ad 0)), (3, .int x3)]) hx hb dX7_digest_157 rfl hl (by decide) rfl (fun ls hl => ?_)
      refine lv_iinc (v := (x3 + 1)) (lv' := [(3, .int (x3 + 1)), (1, .long y1_9), (0, .ref (ad 0))]) hx hb dX7_digest_158 hl (k := 2) rfl rfl (by decide) rfl (fun ls hl => ?_)
      refine lv_goto (tgt := 136) hx hb dX7_digest_161 (by decide) ?_
      exact ih y1_9 (x3 + 1) _ _ _ hP hS (lv_sub hl [2, 1, 0] rfl) h
def fX7_digest_83 (k69 : Int64 → Int32 → Option (Int64)) (x3 : Int32) (w : Mm) : Nat → Int64 → Int32 → Option (Int64)
  | 0, _, _ => none
  | n + 1, y1, x4 => (if 4 < x4 then k69 y1 (x3 + 1) else bo (fX2_aspect_23 x3 x4 w) (fun r_12 => nm ((31 * y1) + r_12.toInt64) (fun y1_14 => fX7_digest_83 k69 x3 w n y1_14 (x4 + 1))))
set_option maxRecDepth 20000 in
theorem bX7_digest_83 {p : Program} {l : Launch} {e : Env} {s : State} {m : MethodId} {args : Array Value} {below : List Frame} {meth : Method} {c : Code} {Q : State → Prop} {D : va_G} {c3 : C3} {ad : Nat → Nat} {A : Nat → Prop} {r : Int64} {w : Mm} (X : Cx p s m args c cX7_digest 5 RX7 wsX7_digest D c3 (encC c3 ad) gC A) (hret : Rl p l e (rmX7_digest) s m args below meth c Q cX7_digest D (encC c3 ad) A r w) {k69 : Int64 → Int32 → Option (Int64)} (hk69 : ∀ (y1 : Int64) (x3 : Int32) (H : Heap) (locs : List Loc) (ls : Array Slot), va_P D vwCl ((encC c3 ad) w) H → va_S A s.heap H locs → lv_has ls 5 [(0, .ref (ad 0)), (1, .long y1), (3, .int x3)] → k69 y1 x3 = some r → W p l e (rmX7_digest) s m args below meth c H locs 0 0 Q (F0 m 69 ls [])) : ∀ (x3 : Int32) (n : Nat) (y1 : Int64) (x4 : Int32) (H : Heap) (locs : List Loc) (ls : Array Slot), va_P D vwCl ((encC c3 ad) w) H → va_S A s.heap H locs → lv_has ls 5 [(0, .ref (ad 0)), (1, .long y1), (3, .int x3), (4, .int x4)] → fX7_digest_83 k69 x3 w n y1 x4 = some r → W p l e (rmX7_digest) s m args below meth c H locs 0 0 Q (F0 m 83 ls []) := by
  have hx := X.1
  have hb := X.2.1
  have hml := X.2.2.1
  have hown := X.2.2.2.1
  have hts := X.2.2.2.2.1
  intro x3 n
  induction n with
  | zero =>
    intro y1 x4 H locs ls hP hS hl h
    exact absurd h (by simp [fX7_digest_83])
  | succ n ih =>
    intro y1 x4 H locs ls hP hS hl h
    rw [fX7_digest_83] at h
    refine lv_iload hx hb dX7_digest_83 (lv_at hl 3 rfl) ?_
    refine lv_iconst (v := 4) hx hb dX7_digest_85 (by decide) ?_
    refine lv_icmp_gt (tgt := 113) hx hb dX7_digest_86 (by decide) (fun c_10 => ?_) (fun c_10 => ?_)
    · replace h := it_p c_10 h
      refine lv_iinc (v := (x3 + 1)) (lv' := [(3, .int (x3 + 1)), (0, .ref (ad 0)), (1, .long y1), (4, .int x4)]) hx hb dX7_digest_113 hl (k := 2) rfl rfl (by decide) rfl (fun ls hl => ?_)
      refine lv_goto (tgt := 69) hx hb dX7_digest_116 (by decide) ?_
      exact hk69 y1 (x3 + 1) _ _ _ hP hS (lv_sub hl [1, 2, 0] rfl) h
    · replace h := it_n c_10 h
      refine lv_ldc2 (v := 31) hx hb hown (hts (.constantLong RX7 312 (31)) (by decide +kernel)) dX7_digest_89 ?_
      refine lv_lload_n hx hb dX7_digest_92 rfl (lv_at hl 1 rfl) ?_
      refine lv_lmul hx hb dX7_digest_93 ?_
      refine lv_aload_n hx hb dX7_digest_94 rfl (lv_at hl 0 rfl) ?_
      refine x_get (rest := [.long (31 * y1)]) X hP (gC0 c3 ad w) rfl iwX7_digest_X7 3 (by decide) lkX7_digest_27 rfl dX7_digest_95 ?_
      refine lv_iload_n hx hb dX7_digest_98 rfl (lv_at hl 2 rfl) ?_
      refine lv_iload hx hb dX7_digest_99 (lv_at hl 3 rfl) ?_
      obtain ⟨r_12, e_11, h⟩ := bo_s h
      refine x_goi X hS (x_runV (As := [.int x3, .int x4]) (rest := [.long (31 * y1)]) X gC_ok hP hS (ctX2_aspect_23 l D c3 ad w _ x3 x4 _ e_11) (cwV 2 hts gX7_digest_X2_aspect rfl rfl rfl (by decide +kernel) ⟨by decide, by decide⟩) (gC23 c3 ad w) rfl rfl rfl hl.1 rfl (Nat.le_of_ble_eq_true rfl) dX7_digest_101) (fun H locs hP hS => ?_)
      refine lv_i2l (v := r_12.toInt64) hx hb dX7_digest_104 rfl ?_
      refine lv_ladd hx hb dX7_digest_105 ?_
      refine x_nml h (fun y1_14 h => ?_)
      refine lv_lstore_n (lv' := [(1, .long y1_14), (0, .ref (ad 0)), (3, .int x3), (4, .int x4)]) hx hb dX7_digest_106 rfl hl (by decide) rfl (fun ls hl => ?_)
      refine lv_iinc (v := (x4 + 1)) (lv' := [(4, .int (x4 + 1)), (1, .long y1_14), (0, .ref (ad 0)), (3, .int x3)]) hx hb dX7_digest_107 hl (k := 3) rfl rfl (by decide) rfl (fun ls hl => ?_)
      refine lv_goto (tgt := 83) hx hb dX7_digest_110 (by decide) ?_
      exact ih y1_14 (x4 + 1) _ _ _ hP hS (lv_sub hl [2, 1, 3, 0] rfl) h
def fX7_digest_69 (w : Mm) : Nat → Int64 → Int32 → Option (Int64)
  | 0, _, _ => none
  | n + 1, y1, x3 => (if (w.1 23 2) ≤ x3 then nm ((31 * y1) + ((w.1 23 6).toInt64)) (fun y1_16 => fX7_digest_136 w FU y1_16 0) else fX7_digest_83 (fX7_digest_69 w n) x3 w FU y1 0)
set_option maxRecDepth 20000 in
theorem bX7_digest_69 {p : Program} {l : Launch} {e : Env} {s : State} {m : MethodId} {args : Array Value} {below : List Frame} {meth : Method} {c : Code} {Q : State → Prop} {D : va_G} {c3 : C3} {ad : Nat → Nat} {A : Nat → Prop} {r : Int64} {w : Mm} (X : Cx p s m args c cX7_digest 5 RX7 wsX7_digest D c3 (encC c3 ad) gC A) (hret : Rl p l e (rmX7_digest) s m args below meth c Q cX7_digest D (encC c3 ad) A r w) : ∀ (n : Nat) (y1 : Int64) (x3 : Int32) (H : Heap) (locs : List Loc) (ls : Array Slot), va_P D vwCl ((encC c3 ad) w) H → va_S A s.heap H locs → lv_has ls 5 [(0, .ref (ad 0)), (1, .long y1), (3, .int x3)] → fX7_digest_69 w n y1 x3 = some r → W p l e (rmX7_digest) s m args below meth c H locs 0 0 Q (F0 m 69 ls []) := by
  have hx := X.1
  have hb := X.2.1
  have hml := X.2.2.1
  have hown := X.2.2.2.1
  have hts := X.2.2.2.2.1
  intro n
  induction n with
  | zero =>
    intro y1 x3 H locs ls hP hS hl h
    exact absurd h (by simp [fX7_digest_69])
  | succ n ih =>
    intro y1 x3 H locs ls hP hS hl h
    rw [fX7_digest_69] at h
    refine lv_iload_n hx hb dX7_digest_69 rfl (lv_at hl 2 rfl) ?_
    refine lv_aload_n hx hb dX7_digest_70 rfl (lv_at hl 0 rfl) ?_
    refine x_get (rest := [.int x3]) X hP (gC0 c3 ad w) rfl iwX7_digest_X7 3 (by decide) lkX7_digest_27 rfl dX7_digest_71 ?_
    refine x_get (rest := [.int x3]) X hP (gC23 c3 ad w) rfl iwX7_digest_X2 2 (by decide) lkX7_digest_121 rfl dX7_digest_74 ?_
    refine lv_icmp_ge (tgt := 119) hx hb dX7_digest_77 (by decide) (fun c_15 => ?_) (fun c_15 => ?_)
    · replace h := it_p c_15 h
      refine lv_ldc2 (v := 31) hx hb hown (hts (.constantLong RX7 312 (31)) (by decide +kernel)) dX7_digest_119 ?_
      refine lv_lload_n hx hb dX7_digest_122 rfl (lv_at hl 1 rfl) ?_
      refine lv_lmul hx hb dX7_digest_123 ?_
      refine lv_aload_n hx hb dX7_digest_124 rfl (lv_at hl 0 rfl) ?_
      refine x_get (rest := [.long (31 * y1)]) X hP (gC0 c3 ad w) rfl iwX7_digest_X7 3 (by decide) lkX7_digest_27 rfl dX7_digest_125 ?_
      refine x_get (rest := [.long (31 * y1)]) X hP (gC23 c3 ad w) rfl iwX7_digest_X2 6 (by decide) lkX7_digest_226 rfl dX7_digest_128 ?_
      refine lv_i2l (v := (w.1 23 6).toInt64) hx hb dX7_digest_131 rfl ?_
      refine lv_ladd hx hb dX7_digest_132 ?_
      refine x_nml h (fun y1_16 h => ?_)
      refine lv_lstore_n (lv' := [(1, .long y1_16), (0, .ref (ad 0)), (3, .int x3)]) hx hb dX7_digest_133 rfl hl (by decide) rfl (fun ls hl => ?_)
      refine lv_iconst (v := 0) hx hb dX7_digest_134 (by decide) ?_
      refine lv_istore_n (lv' := [(3, .int 0), (1, .long y1_16), (0, .ref (ad 0))]) hx hb dX7_digest_135 rfl hl (by decide) rfl (fun ls hl => ?_)
      exact bX7_digest_136 X hret FU y1_16 0 _ _ _ hP hS (lv_sub hl [2, 1, 0] rfl) h
    · replace h := it_n c_15 h
      refine lv_iconst (v := 0) hx hb dX7_digest_80 (by decide) ?_
      refine lv_istore (lv' := [(4, .int 0), (0, .ref (ad 0)), (1, .long y1), (3, .int x3)]) hx hb dX7_digest_81 hl (by decide) rfl (fun ls hl => ?_)
      exact bX7_digest_83 (k69 := (fX7_digest_69 w n)) X hret ih x3 FU y1 0 _ _ _ hP hS (lv_sub hl [1, 2, 3, 0] rfl) h
def fX7_digest_33 (w : Mm) : Nat → Int64 → Int32 → Option (Int64)
  | 0, _, _ => none
  | n + 1, y1, x3 => (if (w.1 23 0) ≤ x3 then fX7_digest_69 w FU y1 0 else gd (inb x3 4 = true) (nm ((31 * y1) + ((w.1 24 x3.toNatClampNeg).toInt64)) (fun y1_19 => fX7_digest_33 w n y1_19 (x3 + 1))))
set_option maxRecDepth 20000 in
theorem bX7_digest_33 {p : Program} {l : Launch} {e : Env} {s : State} {m : MethodId} {args : Array Value} {below : List Frame} {meth : Method} {c : Code} {Q : State → Prop} {D : va_G} {c3 : C3} {ad : Nat → Nat} {A : Nat → Prop} {r : Int64} {w : Mm} (X : Cx p s m args c cX7_digest 5 RX7 wsX7_digest D c3 (encC c3 ad) gC A) (hret : Rl p l e (rmX7_digest) s m args below meth c Q cX7_digest D (encC c3 ad) A r w) : ∀ (n : Nat) (y1 : Int64) (x3 : Int32) (H : Heap) (locs : List Loc) (ls : Array Slot), va_P D vwCl ((encC c3 ad) w) H → va_S A s.heap H locs → lv_has ls 5 [(0, .ref (ad 0)), (1, .long y1), (3, .int x3)] → fX7_digest_33 w n y1 x3 = some r → W p l e (rmX7_digest) s m args below meth c H locs 0 0 Q (F0 m 33 ls []) := by
  have hx := X.1
  have hb := X.2.1
  have hml := X.2.2.1
  have hown := X.2.2.2.1
  have hts := X.2.2.2.2.1
  intro n
  induction n with
  | zero =>
    intro y1 x3 H locs ls hP hS hl h
    exact absurd h (by simp [fX7_digest_33])
  | succ n ih =>
    intro y1 x3 H locs ls hP hS hl h
    rw [fX7_digest_33] at h
    refine lv_iload_n hx hb dX7_digest_33 rfl (lv_at hl 2 rfl) ?_
    refine lv_aload_n hx hb dX7_digest_34 rfl (lv_at hl 0 rfl) ?_
    refine x_get (rest := [.int x3]) X hP (gC0 c3 ad w) rfl iwX7_digest_X7 3 (by decide) lkX7_digest_27 rfl dX7_digest_35 ?_
    refine x_get (rest := [.int x3]) X hP (gC23 c3 ad w) rfl iwX7_digest_X2 0 (by decide) lkX7_digest_292 rfl dX7_digest_38 ?_
    refine lv_icmp_ge (tgt := 67) hx hb dX7_digest_41 (by decide) (fun c_17 => ?_) (fun c_17 => ?_)
    · replace h := it_p c_17 h
      refine lv_iconst (v := 0) hx hb dX7_digest_67 (by decide) ?_
      refine lv_istore_n (lv' := [(3, .int 0), (0, .ref (ad 0)), (1, .long y1)]) hx hb dX7_digest_68 rfl hl (by decide) rfl (fun ls hl => ?_)
      exact bX7_digest_69 X hret FU y1 0 _ _ _ hP hS (lv_sub hl [1, 2, 0] rfl) h
    · replace h := it_n c_17 h
      refine lv_ldc2 (v := 31) hx hb hown (hts (.constantLong RX7 312 (31)) (by decide +kernel)) dX7_digest_44 ?_
      refine lv_lload_n hx hb dX7_digest_47 rfl (lv_at hl 1 rfl) ?_
      refine lv_lmul hx hb dX7_digest_48 ?_
      refine lv_aload_n hx hb dX7_digest_49 rfl (lv_at hl 0 rfl) ?_
      refine x_get (rest := [.long (31 * y1)]) X hP (gC0 c3 ad w) rfl iwX7_digest_X7 3 (by decide) lkX7_digest_27 rfl dX7_digest_50 ?_
      refine x_get (rest := [.long (31 * y1)]) X hP (gC23 c3 ad w) rfl iwX7_digest_X2 1 (by decide) lkX7_digest_161 rfl dX7_digest_53 ?_
      refine lv_iload_n hx hb dX7_digest_56 rfl (lv_at hl 2 rfl) ?_
      obtain ⟨g_18, h⟩ := gd_s h
      refine x_iald X hP (gC24 c3 ad w) g_18 dX7_digest_57 ?_
      refine lv_i2l (v := (w.1 24 x3.toNatClampNeg).toInt64) hx hb dX7_digest_58 rfl ?_
      refine lv_ladd hx hb dX7_digest_59 ?_
      refine x_nml h (fun y1_19 h => ?_)
      refine lv_lstore_n (lv' := [(1, .long y1_19), (0, .ref (ad 0)), (3, .int x3)]) hx hb dX7_digest_60 rfl hl (by decide) rfl (fun ls hl => ?_)
      refine lv_iinc (v := (x3 + 1)) (lv' := [(3, .int (x3 + 1)), (1, .long y1_19), (0, .ref (ad 0))]) hx hb dX7_digest_61 hl (k := 2) rfl rfl (by decide) rfl (fun ls hl => ?_)
      refine lv_goto (tgt := 33) hx hb dX7_digest_64 (by decide) ?_
      exact ih y1_19 (x3 + 1) _ _ _ hP hS (lv_sub hl [2, 1, 0] rfl) h
def fX7_digest_6 (w : Mm) : Nat → Int64 → Int32 → Option (Int64)
  | 0, _, _ => none
  | n + 1, y1, x3 => (if 10 < x3 then fX7_digest_33 w FU y1 0 else bo (fX7_count x3 w) (fun r_22 => nm ((31 * y1) + r_22.toInt64) (fun y1_24 => fX7_digest_6 w n y1_24 (x3 + 1))))
set_option maxRecDepth 20000 in
theorem bX7_digest_6 {p : Program} {l : Launch} {e : Env} {s : State} {m : MethodId} {args : Array Value} {below : List Frame} {meth : Method} {c : Code} {Q : State → Prop} {D : va_G} {c3 : C3} {ad : Nat → Nat} {A : Nat → Prop} {r : Int64} {w : Mm} (X : Cx p s m args c cX7_digest 5 RX7 wsX7_digest D c3 (encC c3 ad) gC A) (hret : Rl p l e (rmX7_digest) s m args below meth c Q cX7_digest D (encC c3 ad) A r w) : ∀ (n : Nat) (y1 : Int64) (x3 : Int32) (H : Heap) (locs : List Loc) (ls : Array Slot), va_P D vwCl ((encC c3 ad) w) H → va_S A s.heap H locs → lv_has ls 5 [(0, .ref (ad 0)), (1, .long y1), (3, .int x3)] → fX7_digest_6 w n y1 x3 = some r → W p l e (rmX7_digest) s m args below meth c H locs 0 0 Q (F0 m 6 ls []) := by
  have hx := X.1
  have hb := X.2.1
  have hml := X.2.2.1
  have hown := X.2.2.2.1
  have hts := X.2.2.2.2.1
  intro n
  induction n with
  | zero =>
    intro y1 x3 H locs ls hP hS hl h
    exact absurd h (by simp [fX7_digest_6])
  | succ n ih =>
    intro y1 x3 H locs ls hP hS hl h
    rw [fX7_digest_6] at h
    refine lv_iload_n hx hb dX7_digest_6 rfl (lv_at hl 2 rfl) ?_
    refine lv_bipush (v := 10) hx hb dX7_digest_7 (by decide) ?_
    refine lv_icmp_gt (tgt := 31) hx hb dX7_digest_9 (by decide) (fun c_20 => ?_) (fun c_20 => ?_)
    · replace h := it_p c_20 h
      refine lv_iconst (v := 0) hx hb dX7_digest_31 (by decide) ?_
      refine lv_istore_n (lv' := [(3, .int 0), (0, .ref (ad 0)), (1, .long y1)]) hx hb dX7_digest_32 rfl hl (by decide) rfl (fun ls hl => ?_)
      exact bX7_digest_33 X hret FU y1 0 _ _ _ hP hS (lv_sub hl [1, 2, 0] rfl) h
    · replace h := it_n c_20 h
      refine lv_ldc2 (v := 31) hx hb hown (hts (.constantLong RX7 312 (31)) (by decide +kernel)) dX7_digest_12 ?_
      refine lv_lload_n hx hb dX7_digest_15 rfl (lv_at hl 1 rfl) ?_
      refine lv_lmul hx hb dX7_digest_16 ?_
      refine lv_aload_n hx hb dX7_digest_17 rfl (lv_at hl 0 rfl) ?_
      refine lv_iload_n hx hb dX7_digest_18 rfl (lv_at hl 2 rfl) ?_
      obtain ⟨r_22, e_21, h⟩ := bo_s h
      refine x_goi X hS (x_runV (As := [.int x3]) (rest := [.long (31 * y1)]) X gC_ok hP hS (ctX7_count l D c3 ad w _ x3 _ e_21) (cwV 1 hts gX7_digest_X7_count rfl rfl rfl (by decide +kernel) ⟨by decide, by decide⟩) (gC0 c3 ad w) rfl rfl rfl hl.1 rfl (Nat.le_of_ble_eq_true rfl) dX7_digest_19) (fun H locs hP hS => ?_)
      refine lv_i2l (v := r_22.toInt64) hx hb dX7_digest_22 rfl ?_
      refine lv_ladd hx hb dX7_digest_23 ?_
      refine x_nml h (fun y1_24 h => ?_)
      refine lv_lstore_n (lv' := [(1, .long y1_24), (0, .ref (ad 0)), (3, .int x3)]) hx hb dX7_digest_24 rfl hl (by decide) rfl (fun ls hl => ?_)
      refine lv_iinc (v := (x3 + 1)) (lv' := [(3, .int (x3 + 1)), (1, .long y1_24), (0, .ref (ad 0))]) hx hb dX7_digest_25 hl (k := 2) rfl rfl (by decide) rfl (fun ls hl => ?_)
      refine lv_goto (tgt := 6) hx hb dX7_digest_28 (by decide) ?_
      exact ih y1_24 (x3 + 1) _ _ _ hP hS (lv_sub hl [2, 1, 0] rfl) h
def fX7_digest_E (w : Mm) : Option (Int64) := fX7_digest_6 w FU 17 0
set_option maxRecDepth 20000 in
theorem bX7_digest_E {p : Program} {l : Launch} {e : Env} {s : State} {m : MethodId} {args : Array Value} {below : List Frame} {meth : Method} {c : Code} {Q : State → Prop} {D : va_G} {c3 : C3} {ad : Nat → Nat} {A : Nat → Prop} {r : Int64} {w : Mm} (X : Cx p s m args c cX7_digest 5 RX7 wsX7_digest D c3 (encC c3 ad) gC A) (hret : Rl p l e (rmX7_digest) s m args below meth c Q cX7_digest D (encC c3 ad) A r w) : ∀ (H : Heap) (locs : List Loc) (ls : Array Slot), va_P D vwCl ((encC c3 ad) w) H → va_S A s.heap H locs → lv_has ls 5 [(0, .ref (ad 0))] → fX7_digest_E w = some r → W p l e (rmX7_digest) s m args below meth c H locs 0 0 Q (F0 m 0 ls []) := by
  have hx := X.1
  have hb := X.2.1
  have hml := X.2.2.1
  have hown := X.2.2.2.1
  have hts := X.2.2.2.2.1
  intro H locs ls hP hS hl h
  unfold fX7_digest_E at h
  refine lv_ldc2 (v := 17) hx hb hown (hts (.constantLong RX7 310 (17)) (by decide +kernel)) dX7_digest_0 ?_
  refine lv_lstore_n (lv' := [(1, .long 17), (0, .ref (ad 0))]) hx hb dX7_digest_3 rfl hl (by decide) rfl (fun ls hl => ?_)
  refine lv_iconst (v := 0) hx hb dX7_digest_4 (by decide) ?_
  refine lv_istore_n (lv' := [(3, .int 0), (1, .long 17), (0, .ref (ad 0))]) hx hb dX7_digest_5 rfl hl (by decide) rfl (fun ls hl => ?_)
  exact bX7_digest_6 X hret FU 17 0 _ _ _ hP hS (lv_sub hl [2, 1, 0] rfl) h
def fX7_digest (w : Mm) : Option (Int64) := fX7_digest_E w
theorem ctX7_digest (l : Launch) (D : va_G) (c3 : C3) (ad : Nat → Nat) (w : Mm) (sz : Nat) (r : Int64) (h : fX7_digest w = some r) : Cl l yX7_digest wsX7_digest rmX7_digest D c3 (encC c3 ad) gC [.ref (ad 0)] w sz r w := by
  refine Cl.of (cc := cX7_digest) (maxL := 5) (encC_ok c3 ad) (by decide) rfl (Nat.le_of_ble_eq_true rfl) ?_
  intro p e s m below meth c A Q ls X hret hP hS hl
  exact bX7_digest_E X hret _ _ ls hP hS hl h

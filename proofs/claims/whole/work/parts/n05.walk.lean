theorem iwX2_whoWouldBeOver_X2 : ∀ w ∈ wsX20, w ∈ wsX2_whoWouldBeOver := fun _ h => List.mem_cons_of_mem _ (List.mem_append_right _ h)
theorem lkX2_whoWouldBeOver_9 : Cond.fieldLink RX2 9 "StuckDoor$Family" "people" "I" ∈ wsX2_whoWouldBeOver := by decide +kernel
def rmX2_whoWouldBeOver_23 : Room := { frames := 4, cells := 0, slots := 0, locals := 87 }
def fX2_whoWouldBeOver_23_34 (k4 : Int32 → Int32 → Option (Int32)) (x1 : Int32) (x2 : Int32) (x3 : Int32) (w : Mm) : Option (Int32) := k4 x2 (x3 + 1)
set_option maxRecDepth 20000 in
theorem bX2_whoWouldBeOver_23_34 {p : Program} {l : Launch} {e : Env} {s : State} {m : MethodId} {args : Array Value} {below : List Frame} {meth : Method} {c : Code} {Q : State → Prop} {D : va_G} {c3 : C3} {ad : Nat → Nat} {A : Nat → Prop} {r : Int32} {w : Mm} (X : Cx p s m args c cX2_whoWouldBeOver 4 RX2 wsX2_whoWouldBeOver D c3 (encC c3 ad) gC A) (hret : Ri p l e (rmX2_whoWouldBeOver_23) s m args below meth c Q cX2_whoWouldBeOver D (encC c3 ad) A r w) {x1 : Int32} {k4 : Int32 → Int32 → Option (Int32)} (hk4 : ∀ (x2 : Int32) (x3 : Int32) (H : Heap) (locs : List Loc) (ls : Array Slot), va_P D vwCl ((encC c3 ad) w) H → va_S A s.heap H locs → lv_has ls 4 [(0, .ref (ad 23)), (1, .int x1), (2, .int x2), (3, .int x3)] → k4 x2 x3 = some r → W p l e (rmX2_whoWouldBeOver_23) s m args below meth c H locs 0 0 Q (F0 m 4 ls [])) : ∀ (x2 : Int32) (x3 : Int32) (H : Heap) (locs : List Loc) (ls : Array Slot), va_P D vwCl ((encC c3 ad) w) H → va_S A s.heap H locs → lv_has ls 4 [(0, .ref (ad 23)), (1, .int x1), (2, .int x2), (3, .int x3)] → fX2_whoWouldBeOver_23_34 k4 x1 x2 x3 w = some r → W p l e (rmX2_whoWouldBeOver_23) s m args below meth c H locs 0 0 Q (F0 m 34 ls []) := by
  have hx := X.1
  have hb := X.2.1
  have hml := X.2.2.1
  have hown := X.2.2.2.1
  have hts := X.2.2.2.2.1
  intro x2 x3 H locs ls hP hS hl h
  unfold fX2_whoWouldBeOver_23_34 at h
  refine lv_iinc (v := (x3 + 1)) (lv' := [(3, .int (x3 + 1)), (0, .ref (ad 23)), (1, .int x1), (2, .int x2)]) hx hb dX2_whoWouldBeOver_34 hl (k := 3) rfl rfl (by decide) rfl (fun ls hl => ?_)
  refine lv_goto (tgt := 4) hx hb dX2_whoWouldBeOver_37 (by decide) ?_
  exact hk4 x2 (x3 + 1) _ _ _ hP hS (lv_sub hl [1, 2, 3, 0] rfl) h
def fX2_whoWouldBeOver_23_4 (x1 : Int32) (w : Mm) : Nat → Int32 → Int32 → Option (Int32)
  | 0, _, _ => none
  | n + 1, x2, x3 => (if (w.1 23 0) ≤ x3 then some x2 else bo (fX2_isAnyOver_23 w) (fun r_3 => (if r_3 = 0 then bo (fX2_bearsSaying_23 x3 x1 w) (fun r_7 => (if r_7 = 0 then nm (x2 ||| (1 <<< (x3 &&& 31))) (fun x2_10 => fX2_whoWouldBeOver_23_34 (fX2_whoWouldBeOver_23_4 x1 w n) x1 x2_10 x3 w) else fX2_whoWouldBeOver_23_34 (fX2_whoWouldBeOver_23_4 x1 w n) x1 x2 x3 w)) else some x2)))
set_option maxRecDepth 20000 in
theorem bX2_whoWouldBeOver_23_4 {p : Program} {l : Launch} {e : Env} {s : State} {m : MethodId} {args : Array Value} {below : List Frame} {meth : Method} {c : Code} {Q : State → Prop} {D : va_G} {c3 : C3} {ad : Nat → Nat} {A : Nat → Prop} {r : Int32} {w : Mm} (X : Cx p s m args c cX2_whoWouldBeOver 4 RX2 wsX2_whoWouldBeOver D c3 (encC c3 ad) gC A) (hret : Ri p l e (rmX2_whoWouldBeOver_23) s m args below meth c Q cX2_whoWouldBeOver D (encC c3 ad) A r w) : ∀ (x1 : Int32) (n : Nat) (x2 : Int32) (x3 : Int32) (H : Heap) (locs : List Loc) (ls : Array Slot), va_P D vwCl ((encC c3 ad) w) H → va_S A s.heap H locs → lv_has ls 4 [(0, .ref (ad 23)), (1, .int x1), (2, .int x2), (3, .int x3)] → fX2_whoWouldBeOver_23_4 x1 w n x2 x3 = some r → W p l e (rmX2_whoWouldBeOver_23) s m args below meth c H locs 0 0 Q (F0 m 4 ls []) := by
  have hx := X.1
  have hb := X.2.1
  have hml := X.2.2.1
  have hown := X.2.2.2.1
  have hts := X.2.2.2.2.1
  intro x1 n
  induction n with
  | zero =>
    intro x2 x3 H locs ls hP hS hl h
    exact absurd h (by simp [fX2_whoWouldBeOver_23_4])
  | succ n ih =>
    intro x2 x3 H locs ls hP hS hl h
    rw [fX2_whoWouldBeOver_23_4] at h
    refine lv_iload_n hx hb dX2_whoWouldBeOver_4 rfl (lv_at hl 3 rfl) ?_
    refine lv_aload_n hx hb dX2_whoWouldBeOver_5 rfl (lv_at hl 0 rfl) ?_
    refine x_get (rest := [.int x3]) X hP (gC23 c3 ad w) rfl iwX2_whoWouldBeOver_X2 0 (by decide) lkX2_whoWouldBeOver_9 rfl dX2_whoWouldBeOver_6 ?_
    refine lv_icmp_ge (tgt := 40) hx hb dX2_whoWouldBeOver_9 (by decide) (fun c_1 => ?_) (fun c_1 => ?_)
    · replace h := it_p c_1 h
      refine lv_iload_n hx hb dX2_whoWouldBeOver_40 rfl (lv_at hl 2 rfl) ?_
      obtain rfl := Option.some.inj h
      exact hret _ _ _ _ hP hS dX2_whoWouldBeOver_41
    · replace h := it_n c_1 h
      refine lv_aload_n hx hb dX2_whoWouldBeOver_12 rfl (lv_at hl 0 rfl) ?_
      obtain ⟨r_3, e_2, h⟩ := bo_s h
      refine x_goi X hS (x_runV (As := []) (rest := []) X gC_ok hP hS (ctX2_isAnyOver_23 l D c3 ad w _ _ e_2) (cwV 0 hts gX2_whoWouldBeOver_X2_isAnyOver rfl rfl rfl (by decide +kernel) ⟨by decide, by decide⟩) (gC23 c3 ad w) rfl rfl rfl hl.1 rfl (Nat.le_of_ble_eq_true rfl) dX2_whoWouldBeOver_13) (fun H locs hP hS => ?_)
      refine lv_if_ne (tgt := 40) hx hb dX2_whoWouldBeOver_16 (by decide) (fun c_5 => ?_) (fun c_5 => ?_)
      · replace h := it_n c_5 h
        refine lv_iload_n hx hb dX2_whoWouldBeOver_40 rfl (lv_at hl 2 rfl) ?_
        obtain rfl := Option.some.inj h
        exact hret _ _ _ _ hP hS dX2_whoWouldBeOver_41
      · replace h := it_p c_5 h
        refine lv_aload_n hx hb dX2_whoWouldBeOver_19 rfl (lv_at hl 0 rfl) ?_
        refine lv_iload_n hx hb dX2_whoWouldBeOver_20 rfl (lv_at hl 3 rfl) ?_
        refine lv_iload_n hx hb dX2_whoWouldBeOver_21 rfl (lv_at hl 1 rfl) ?_
        obtain ⟨r_7, e_6, h⟩ := bo_s h
        refine x_goi X hS (x_runV (As := [.int x3, .int x1]) (rest := []) X gC_ok hP hS (ctX2_bearsSaying_23 l D c3 ad w _ x3 x1 _ e_6) (cwV 2 hts gX2_whoWouldBeOver_X2_bearsSaying rfl rfl rfl (by decide +kernel) ⟨by decide, by decide⟩) (gC23 c3 ad w) rfl rfl rfl hl.1 rfl (Nat.le_of_ble_eq_true rfl) dX2_whoWouldBeOver_22) (fun H locs hP hS => ?_)
        refine lv_if_ne (tgt := 34) hx hb dX2_whoWouldBeOver_25 (by decide) (fun c_9 => ?_) (fun c_9 => ?_)
        · replace h := it_n c_9 h
          exact bX2_whoWouldBeOver_23_34 (x1 := x1) (k4 := (fX2_whoWouldBeOver_23_4 x1 w n)) X hret ih x2 x3 _ _ _ hP hS (lv_sub hl [0, 1, 2, 3] rfl) h
        · replace h := it_p c_9 h
          refine lv_iload_n hx hb dX2_whoWouldBeOver_28 rfl (lv_at hl 2 rfl) ?_
          refine lv_iconst (v := 1) hx hb dX2_whoWouldBeOver_29 (by decide) ?_
          refine lv_iload_n hx hb dX2_whoWouldBeOver_30 rfl (lv_at hl 3 rfl) ?_
          refine lv_ishl hx hb dX2_whoWouldBeOver_31 ?_
          refine lv_ior hx hb dX2_whoWouldBeOver_32 ?_
          refine x_nmi h (fun x2_10 h => ?_)
          refine lv_istore_n (lv' := [(2, .int x2_10), (0, .ref (ad 23)), (1, .int x1), (3, .int x3)]) hx hb dX2_whoWouldBeOver_33 rfl hl (by decide) rfl (fun ls hl => ?_)
          exact bX2_whoWouldBeOver_23_34 (x1 := x1) (k4 := (fX2_whoWouldBeOver_23_4 x1 w n)) X hret ih x2_10 x3 _ _ _ hP hS (lv_sub hl [1, 2, 0, 3] rfl) h
def fX2_whoWouldBeOver_23_E (x1 : Int32) (w : Mm) : Option (Int32) := fX2_whoWouldBeOver_23_4 x1 w FU 0 0
set_option maxRecDepth 20000 in
theorem bX2_whoWouldBeOver_23_E {p : Program} {l : Launch} {e : Env} {s : State} {m : MethodId} {args : Array Value} {below : List Frame} {meth : Method} {c : Code} {Q : State → Prop} {D : va_G} {c3 : C3} {ad : Nat → Nat} {A : Nat → Prop} {r : Int32} {w : Mm} (X : Cx p s m args c cX2_whoWouldBeOver 4 RX2 wsX2_whoWouldBeOver D c3 (encC c3 ad) gC A) (hret : Ri p l e (rmX2_whoWouldBeOver_23) s m args below meth c Q cX2_whoWouldBeOver D (encC c3 ad) A r w) : ∀ (x1 : Int32) (H : Heap) (locs : List Loc) (ls : Array Slot), va_P D vwCl ((encC c3 ad) w) H → va_S A s.heap H locs → lv_has ls 4 [(0, .ref (ad 23)), (1, .int x1)] → fX2_whoWouldBeOver_23_E x1 w = some r → W p l e (rmX2_whoWouldBeOver_23) s m args below meth c H locs 0 0 Q (F0 m 0 ls []) := by
  have hx := X.1
  have hb := X.2.1
  have hml := X.2.2.1
  have hown := X.2.2.2.1
  have hts := X.2.2.2.2.1
  intro x1 H locs ls hP hS hl h
  unfold fX2_whoWouldBeOver_23_E at h
  refine lv_iconst (v := 0) hx hb dX2_whoWouldBeOver_0 (by decide) ?_
  refine lv_istore_n (lv' := [(2, .int 0), (0, .ref (ad 23)), (1, .int x1)]) hx hb dX2_whoWouldBeOver_1 rfl hl (by decide) rfl (fun ls hl => ?_)
  refine lv_iconst (v := 0) hx hb dX2_whoWouldBeOver_2 (by decide) ?_
  refine lv_istore_n (lv' := [(3, .int 0), (2, .int 0), (0, .ref (ad 23)), (1, .int x1)]) hx hb dX2_whoWouldBeOver_3 rfl hl (by decide) rfl (fun ls hl => ?_)
  exact bX2_whoWouldBeOver_23_4 X hret x1 FU 0 0 _ _ _ hP hS (lv_sub hl [2, 3, 1, 0] rfl) h
def fX2_whoWouldBeOver_23 (x1 : Int32) (w : Mm) : Option (Int32) := fX2_whoWouldBeOver_23_E x1 w
theorem ctX2_whoWouldBeOver_23 (l : Launch) (D : va_G) (c3 : C3) (ad : Nat → Nat) (w : Mm) (sz : Nat) (x1 : Int32) (r : Int32) (h : fX2_whoWouldBeOver_23 x1 w = some r) : Ci l yX2_whoWouldBeOver wsX2_whoWouldBeOver rmX2_whoWouldBeOver_23 D c3 (encC c3 ad) gC [.ref (ad 23), .int x1] w sz r w := by
  refine Ci.of (cc := cX2_whoWouldBeOver) (maxL := 4) (encC_ok c3 ad) (by decide) rfl (Nat.le_of_ble_eq_true rfl) ?_
  intro p e s m below meth c A Q ls X hret hP hS hl
  exact bX2_whoWouldBeOver_23_E X hret x1 _ _ ls hP hS hl h
theorem iwX7_mark_X2 : ∀ w ∈ wsX20, w ∈ wsX7_mark := fun _ h => List.mem_cons_of_mem _ (List.mem_append_right _ h)
theorem iwX7_mark_X7 : ∀ w ∈ wsX70, w ∈ wsX7_mark := fun _ h => List.mem_cons_of_mem _ (List.mem_append_left _ (List.mem_append_right _ h))
theorem lkX7_mark_27 : Cond.fieldLink RX7 27 "StuckDoor" "family" "LStuckDoor$Family;" ∈ wsX7_mark := by decide +kernel
theorem lkX7_mark_135 : Cond.fieldLink RX7 135 "StuckDoor$Family" "said" "[I" ∈ wsX7_mark := by decide +kernel
theorem lkX7_mark_138 : Cond.fieldLink RX7 138 "StuckDoor$Family" "told" "[I" ∈ wsX7_mark := by decide +kernel
def rmX7_mark : Room := { frames := 5, cells := 0, slots := 0, locals := 110 }
def fX7_mark_E (x1 : Int32) (x2 : Int32) (w : Mm) : Option (Int32 × Mm) := bo (fX2_hasSaying_23 x1 w) (fun r_2 => (if r_2 = 0 then some ((-1), w) else (if x2 < 1 then some ((-1), w) else (if x2 ≤ 5 then bo (fX2_isOfKind_23 x1 x2 w) (fun r_8 => (if r_8 = 0 then bd (fX7_refuse 3 w) (fun r_28 w_29 => some (r_28, w_29)) else (if x2 = 1 then gd (inb x1 6 = true) (some ((w.1 28 x1.toNatClampNeg), w)) else (if x2 = 2 then gd (inb x1 6 = true) (some (((w.1 26 x1.toNatClampNeg) - ((w.1 26 x1.toNatClampNeg) / 2)), w)) else (if x2 = 3 then gd (inb x1 6 = true) (some ((if 0 < ((3 - (w.1 26 x1.toNatClampNeg)) - (w.1 28 x1.toNatClampNeg)) then ((3 - (w.1 26 x1.toNatClampNeg)) - (w.1 28 x1.toNatClampNeg)) else 0), w)) else (if x2 = 4 then bo (fX2_openTopics_23 w) (fun r_19 => some (r_19, w)) else bo (fX2_whoWouldBeOver_23 x1 w) (fun r_22 => bo (fJ6_bitCount_0f7a4 r_22) (fun r_25 => some (r_25, w))))))))) else some ((-1), w)))))
set_option maxRecDepth 20000 in
theorem bX7_mark_E {p : Program} {l : Launch} {e : Env} {s : State} {m : MethodId} {args : Array Value} {below : List Frame} {meth : Method} {c : Code} {Q : State → Prop} {D : va_G} {c3 : C3} {ad : Nat → Nat} {A : Nat → Prop} {r : Int32} {w' : Mm} (X : Cx p s m args c cX7_mark 3 RX7 wsX7_mark D c3 (encC c3 ad) gC A) (hret : Ri p l e (rmX7_mark) s m args below meth c Q cX7_mark D (encC c3 ad) A r w') : ∀ (x1 : Int32) (x2 : Int32) (w : Mm) (H : Heap) (locs : List Loc) (ls : Array Slot), va_P D vwCl ((encC c3 ad) w) H → va_S A s.heap H locs → lv_has ls 3 [(0, .ref (ad 0)), (1, .int x1), (2, .int x2)] → fX7_mark_E x1 x2 w = some (r, w') → W p l e (rmX7_mark) s m args below meth c H locs 0 0 Q (F0 m 0 ls []) := by
  have hx := X.1
  have hb := X.2.1
  have hml := X.2.2.1
  have hown := X.2.2.2.1
  have hts := X.2.2.2.2.1
  intro x1 x2 w H locs ls hP hS hl h
  unfold fX7_mark_E at h
  refine lv_aload_n hx hb dX7_mark_0 rfl (lv_at hl 0 rfl) ?_
  refine x_get (rest := []) X hP (gC0 c3 ad w) rfl iwX7_mark_X7 3 (by decide) lkX7_mark_27 rfl dX7_mark_1 ?_
  refine lv_iload_n hx hb dX7_mark_4 rfl (lv_at hl 1 rfl) ?_
  obtain ⟨r_2, e_1, h⟩ := bo_s h
  refine x_goi X hS (x_runV (As := [.int x1]) (rest := []) X gC_ok hP hS (ctX2_hasSaying_23 l D c3 ad w _ x1 _ e_1) (cwV 1 hts gX7_mark_X2_hasSaying rfl rfl rfl (by decide +kernel) ⟨by decide, by decide⟩) (gC23 c3 ad w) rfl rfl rfl hl.1 rfl (Nat.le_of_ble_eq_true rfl) dX7_mark_5) (fun H locs hP hS => ?_)
  refine lv_if_eq (tgt := 21) hx hb dX7_mark_8 (by decide) (fun c_4 => ?_) (fun c_4 => ?_)
  · replace h := it_p c_4 h
    refine lv_iconst (v := (-1)) hx hb dX7_mark_21 (by decide) ?_
    obtain ⟨rfl, rfl⟩ := Prod.mk.inj (Option.some.inj h)
    exact hret _ _ _ _ hP hS dX7_mark_22
  · replace h := it_n c_4 h
    refine lv_iload_n hx hb dX7_mark_11 rfl (lv_at hl 2 rfl) ?_
    refine lv_iconst (v := 1) hx hb dX7_mark_12 (by decide) ?_
    refine lv_icmp_lt (tgt := 21) hx hb dX7_mark_13 (by decide) (fun c_5 => ?_) (fun c_5 => ?_)
    · replace h := it_p c_5 h
      refine lv_iconst (v := (-1)) hx hb dX7_mark_21 (by decide) ?_
      obtain ⟨rfl, rfl⟩ := Prod.mk.inj (Option.some.inj h)
      exact hret _ _ _ _ hP hS dX7_mark_22
    · replace h := it_n c_5 h
      refine lv_iload_n hx hb dX7_mark_16 rfl (lv_at hl 2 rfl) ?_
      refine lv_iconst (v := 5) hx hb dX7_mark_17 (by decide) ?_
      refine lv_icmp_le (tgt := 23) hx hb dX7_mark_18 (by decide) (fun c_6 => ?_) (fun c_6 => ?_)
      · replace h := it_p c_6 h
        refine lv_aload_n hx hb dX7_mark_23 rfl (lv_at hl 0 rfl) ?_
        refine x_get (rest := []) X hP (gC0 c3 ad w) rfl iwX7_mark_X7 3 (by decide) lkX7_mark_27 rfl dX7_mark_24 ?_
        refine lv_iload_n hx hb dX7_mark_27 rfl (lv_at hl 1 rfl) ?_
        refine lv_iload_n hx hb dX7_mark_28 rfl (lv_at hl 2 rfl) ?_
        obtain ⟨r_8, e_7, h⟩ := bo_s h
        refine x_goi X hS (x_runV (As := [.int x1, .int x2]) (rest := []) X gC_ok hP hS (ctX2_isOfKind_23 l D c3 ad w _ x1 x2 _ e_7) (cwV 2 hts gX7_mark_X2_isOfKind rfl rfl rfl (by decide +kernel) ⟨by decide, by decide⟩) (gC23 c3 ad w) rfl rfl rfl hl.1 rfl (Nat.le_of_ble_eq_true rfl) dX7_mark_29) (fun H locs hP hS => ?_)
        refine lv_if_ne (tgt := 41) hx hb dX7_mark_32 (by decide) (fun c_10 => ?_) (fun c_10 => ?_)
        · replace h := it_n c_10 h
          refine lv_iload_n hx hb dX7_mark_41 rfl (lv_at hl 2 rfl) ?_
          by_cases c_11 : x2 = 1
          · replace h := it_p c_11 h
            refine lv_tableIn (off := 30) (tgt := 72) hx hb dX7_mark_42 (by rw [c_11]; decide) (by rw [c_11]; decide) (by rw [c_11]; decide) (by decide) ?_
            refine lv_aload_n hx hb dX7_mark_72 rfl (lv_at hl 0 rfl) ?_
            refine x_get (rest := []) X hP (gC0 c3 ad w) rfl iwX7_mark_X7 3 (by decide) lkX7_mark_27 rfl dX7_mark_73 ?_
            refine x_get (rest := []) X hP (gC23 c3 ad w) rfl iwX7_mark_X2 10 (by decide) lkX7_mark_135 rfl dX7_mark_76 ?_
            refine lv_iload_n hx hb dX7_mark_79 rfl (lv_at hl 1 rfl) ?_
            obtain ⟨g_12, h⟩ := gd_s h
            refine x_iald X hP (gC28 c3 ad w) g_12 dX7_mark_80 ?_
            obtain ⟨rfl, rfl⟩ := Prod.mk.inj (Option.some.inj h)
            exact hret _ _ _ _ hP hS dX7_mark_81
          replace h := it_n c_11 h
          by_cases c_13 : x2 = 2
          · replace h := it_p c_13 h
            refine lv_tableIn (off := 40) (tgt := 82) hx hb dX7_mark_42 (by rw [c_13]; decide) (by rw [c_13]; decide) (by rw [c_13]; decide) (by decide) ?_
            refine lv_aload_n hx hb dX7_mark_82 rfl (lv_at hl 0 rfl) ?_
            refine x_get (rest := []) X hP (gC0 c3 ad w) rfl iwX7_mark_X7 3 (by decide) lkX7_mark_27 rfl dX7_mark_83 ?_
            refine x_get (rest := []) X hP (gC23 c3 ad w) rfl iwX7_mark_X2 4 (by decide) lkX7_mark_138 rfl dX7_mark_86 ?_
            refine lv_iload_n hx hb dX7_mark_89 rfl (lv_at hl 1 rfl) ?_
            obtain ⟨g_14, h⟩ := gd_s h
            refine x_iald X hP (gC26 c3 ad w) g_14 dX7_mark_90 ?_
            refine lv_aload_n hx hb dX7_mark_91 rfl (lv_at hl 0 rfl) ?_
            refine x_get (rest := [.int (w.1 26 x1.toNatClampNeg)]) X hP (gC0 c3 ad w) rfl iwX7_mark_X7 3 (by decide) lkX7_mark_27 rfl dX7_mark_92 ?_
            refine x_get (rest := [.int (w.1 26 x1.toNatClampNeg)]) X hP (gC23 c3 ad w) rfl iwX7_mark_X2 4 (by decide) lkX7_mark_138 rfl dX7_mark_95 ?_
            refine lv_iload_n hx hb dX7_mark_98 rfl (lv_at hl 1 rfl) ?_
            refine x_iald X hP (gC26 c3 ad w) g_14 dX7_mark_99 ?_
            refine lv_iconst (v := 2) hx hb dX7_mark_100 (by decide) ?_
            refine lv_idiv hx hb dX7_mark_101 (by decide) ?_
            refine lv_isub hx hb dX7_mark_102 ?_
            obtain ⟨rfl, rfl⟩ := Prod.mk.inj (Option.some.inj h)
            exact hret _ _ _ _ hP hS dX7_mark_103
          replace h := it_n c_13 h
          by_cases c_15 : x2 = 3
          · replace h := it_p c_15 h
            refine lv_tableIn (off := 62) (tgt := 104) hx hb dX7_mark_42 (by rw [c_15]; decide) (by rw [c_15]; decide) (by rw [c_15]; decide) (by decide) ?_
            refine lv_iconst (v := 0) hx hb dX7_mark_104 (by decide) ?_
            refine lv_iconst (v := 3) hx hb dX7_mark_105 (by decide) ?_
            refine lv_aload_n hx hb dX7_mark_106 rfl (lv_at hl 0 rfl) ?_
            refine x_get (rest := [.int 3, .int 0]) X hP (gC0 c3 ad w) rfl iwX7_mark_X7 3 (by decide) lkX7_mark_27 rfl dX7_mark_107 ?_
            refine x_get (rest := [.int 3, .int 0]) X hP (gC23 c3 ad w) rfl iwX7_mark_X2 4 (by decide) lkX7_mark_138 rfl dX7_mark_110 ?_
            refine lv_iload_n hx hb dX7_mark_113 rfl (lv_at hl 1 rfl) ?_
            obtain ⟨g_16, h⟩ := gd_s h
            refine x_iald X hP (gC26 c3 ad w) g_16 dX7_mark_114 ?_
            refine lv_isub hx hb dX7_mark_115 ?_
            refine lv_aload_n hx hb dX7_mark_116 rfl (lv_at hl 0 rfl) ?_
            refine x_get (rest := [.int (3 - (w.1 26 x1.toNatClampNeg)), .int 0]) X hP (gC0 c3 ad w) rfl iwX7_mark_X7 3 (by decide) lkX7_mark_27 rfl dX7_mark_117 ?_
            refine x_get (rest := [.int (3 - (w.1 26 x1.toNatClampNeg)), .int 0]) X hP (gC23 c3 ad w) rfl iwX7_mark_X2 10 (by decide) lkX7_mark_135 rfl dX7_mark_120 ?_
            refine lv_iload_n hx hb dX7_mark_123 rfl (lv_at hl 1 rfl) ?_
            refine x_iald X hP (gC28 c3 ad w) g_16 dX7_mark_124 ?_
            refine lv_isub hx hb dX7_mark_125 ?_
            refine va_mmax hx hb (by rw [hml]; exact hl.1.symm) hown (hts (.methodLink RX7 141 Lib.Math.max.name) (by decide +kernel)) (hts (.static Lib.Math.max.name) (by decide +kernel)) (hts (.initialized "java/lang/Math") (by decide +kernel)) (hts (.code Lib.Math.max.name Lib.Math.max.code 2 (some .int)) (by decide +kernel)) (Nat.le_of_ble_eq_true rfl) (Nat.le_of_ble_eq_true rfl) (Nat.zero_le _) (Nat.zero_le _) dX7_mark_126 ?_
            obtain ⟨rfl, rfl⟩ := Prod.mk.inj (Option.some.inj h)
            exact hret _ _ _ _ hP hS dX7_mark_129
          replace h := it_n c_15 h
          by_cases c_17 : x2 = 4
          · replace h := it_p c_17 h
            refine lv_tableIn (off := 88) (tgt := 130) hx hb dX7_mark_42 (by rw [c_17]; decide) (by rw [c_17]; decide) (by rw [c_17]; decide) (by decide) ?_
            refine lv_aload_n hx hb dX7_mark_130 rfl (lv_at hl 0 rfl) ?_
            refine x_get (rest := []) X hP (gC0 c3 ad w) rfl iwX7_mark_X7 3 (by decide) lkX7_mark_27 rfl dX7_mark_131 ?_
            obtain ⟨r_19, e_18, h⟩ := bo_s h
            refine x_goi X hS (x_runV (As := []) (rest := []) X gC_ok hP hS (ctX2_openTopics_23 l D c3 ad w _ _ e_18) (cwV 0 hts gX7_mark_X2_openTopics rfl rfl rfl (by decide +kernel) ⟨by decide, by decide⟩) (gC23 c3 ad w) rfl rfl rfl hl.1 rfl (Nat.le_of_ble_eq_true rfl) dX7_mark_134) (fun H locs hP hS => ?_)
            obtain ⟨rfl, rfl⟩ := Prod.mk.inj (Option.some.inj h)
            exact hret _ _ _ _ hP hS dX7_mark_137
          replace h := it_n c_17 h
          refine lv_tableOut (tgt := 138) hx hb dX7_mark_42 (by have := lv_neT c_11 (a := 1) rfl; have := lv_neT c_13 (a := 2) rfl; have := lv_neT c_15 (a := 3) rfl; have := lv_neT c_17 (a := 4) rfl; omega) (by decide) ?_
          refine lv_aload_n hx hb dX7_mark_138 rfl (lv_at hl 0 rfl) ?_
          refine x_get (rest := []) X hP (gC0 c3 ad w) rfl iwX7_mark_X7 3 (by decide) lkX7_mark_27 rfl dX7_mark_139 ?_
          refine lv_iload_n hx hb dX7_mark_142 rfl (lv_at hl 1 rfl) ?_
          obtain ⟨r_22, e_21, h⟩ := bo_s h
          refine x_goi X hS (x_runV (As := [.int x1]) (rest := []) X gC_ok hP hS (ctX2_whoWouldBeOver_23 l D c3 ad w _ x1 _ e_21) (cwV 1 hts gX7_mark_X2_whoWouldBeOver rfl rfl rfl (by decide +kernel) ⟨by decide, by decide⟩) (gC23 c3 ad w) rfl rfl rfl hl.1 rfl (Nat.le_of_ble_eq_true rfl) dX7_mark_143) (fun H locs hP hS => ?_)
          obtain ⟨r_25, e_24, h⟩ := bo_s h
          refine x_goi X hS (x_runS (As := [.int r_22]) (rest := []) X gC_ok hP hS (ctJ6_bitCount_0f7a4 l D c3 ad w _ r_22 _ e_24) (va_cwS 1 hts gX7_mark_J6_bitCount_0f7a4 rfl rfl rfl (by decide +kernel) ⟨by decide, by decide⟩) rfl hl.1 rfl (Nat.le_of_ble_eq_true rfl) dX7_mark_146) (fun H locs hP hS => ?_)
          obtain ⟨rfl, rfl⟩ := Prod.mk.inj (Option.some.inj h)
          exact hret _ _ _ _ hP hS dX7_mark_149
        · replace h := it_p c_10 h
          refine lv_aload_n hx hb dX7_mark_35 rfl (lv_at hl 0 rfl) ?_
          refine lv_iconst (v := 3) hx hb dX7_mark_36 (by decide) ?_
          obtain ⟨r_28, w_29, e_27, h⟩ := bd_s h
          refine x_goi X hS (x_runV (As := [.int 3]) (rest := []) X gC_ok hP hS (ctX7_refuse l D c3 ad w _ 3 _ _ e_27) (cwV 1 hts gX7_mark_X7_refuse rfl rfl rfl (by decide +kernel) ⟨by decide, by decide⟩) (gC0 c3 ad w) rfl rfl rfl hl.1 rfl (Nat.le_of_ble_eq_true rfl) dX7_mark_37) (fun H locs hP hS => ?_)
          obtain ⟨rfl, rfl⟩ := Prod.mk.inj (Option.some.inj h)
          exact hret _ _ _ _ hP hS dX7_mark_40
      · replace h := it_n c_6 h
        refine lv_iconst (v := (-1)) hx hb dX7_mark_21 (by decide) ?_
        obtain ⟨rfl, rfl⟩ := Prod.mk.inj (Option.some.inj h)
        exact hret _ _ _ _ hP hS dX7_mark_22
def fX7_mark (x1 : Int32) (x2 : Int32) (w : Mm) : Option (Int32 × Mm) := fX7_mark_E x1 x2 w
theorem ctX7_mark (l : Launch) (D : va_G) (c3 : C3) (ad : Nat → Nat) (w : Mm) (sz : Nat) (x1 : Int32) (x2 : Int32) (r : Int32) (w' : Mm) (h : fX7_mark x1 x2 w = some (r, w')) : Ci l yX7_mark wsX7_mark rmX7_mark D c3 (encC c3 ad) gC [.ref (ad 0), .int x1, .int x2] w sz r w' := by
  refine Ci.of (cc := cX7_mark) (maxL := 3) (encC_ok c3 ad) (by decide) rfl (Nat.le_of_ble_eq_true rfl) ?_
  intro p e s m below meth c A Q ls X hret hP hS hl
  exact bX7_mark_E X hret x1 x2 w _ _ ls hP hS hl h
theorem iwX7_bears_X2 : ∀ w ∈ wsX20, w ∈ wsX7_bears := fun _ h => List.mem_cons_of_mem _ (List.mem_append_right _ h)
theorem iwX7_bears_X7 : ∀ w ∈ wsX70, w ∈ wsX7_bears := fun _ h => List.mem_cons_of_mem _ (List.mem_append_left _ (List.mem_append_right _ h))
theorem lkX7_bears_27 : Cond.fieldLink RX7 27 "StuckDoor" "family" "LStuckDoor$Family;" ∈ wsX7_bears := by decide +kernel
theorem lkX7_bears_161 : Cond.fieldLink RX7 161 "StuckDoor$Family" "bearing" "[I" ∈ wsX7_bears := by decide +kernel
def rmX7_bears : Room := { frames := 1, cells := 0, slots := 0, locals := 21 }
def fX7_bears_E (x1 : Int32) (w : Mm) : Option (Int32) := bo (fX2_hasPerson_23 x1 w) (fun r_2 => (if r_2 = 0 then some (-1) else gd (inb x1 4 = true) (some (w.1 24 x1.toNatClampNeg))))
set_option maxRecDepth 20000 in
theorem bX7_bears_E {p : Program} {l : Launch} {e : Env} {s : State} {m : MethodId} {args : Array Value} {below : List Frame} {meth : Method} {c : Code} {Q : State → Prop} {D : va_G} {c3 : C3} {ad : Nat → Nat} {A : Nat → Prop} {r : Int32} {w : Mm} (X : Cx p s m args c cX7_bears 2 RX7 wsX7_bears D c3 (encC c3 ad) gC A) (hret : Ri p l e (rmX7_bears) s m args below meth c Q cX7_bears D (encC c3 ad) A r w) : ∀ (x1 : Int32) (H : Heap) (locs : List Loc) (ls : Array Slot), va_P D vwCl ((encC c3 ad) w) H → va_S A s.heap H locs → lv_has ls 2 [(0, .ref (ad 0)), (1, .int x1)] → fX7_bears_E x1 w = some r → W p l e (rmX7_bears) s m args below meth c H locs 0 0 Q (F0 m 0 ls []) := by
  have hx := X.1
  have hb := X.2.1
  have hml := X.2.2.1
  have hown := X.2.2.2.1
  have hts := X.2.2.2.2.1
  intro x1 H locs ls hP hS hl h
  unfold fX7_bears_E at h
  refine lv_aload_n hx hb dX7_bears_0 rfl (lv_at hl 0 rfl) ?_
  refine x_get (rest := []) X hP (gC0 c3 ad w) rfl iwX7_bears_X7 3 (by decide) lkX7_bears_27 rfl dX7_bears_1 ?_
  refine lv_iload_n hx hb dX7_bears_4 rfl (lv_at hl 1 rfl) ?_
  obtain ⟨r_2, e_1, h⟩ := bo_s h
  refine x_goi X hS (x_runV (As := [.int x1]) (rest := []) X gC_ok hP hS (ctX2_hasPerson_23 l D c3 ad w _ x1 _ e_1) (cwV 1 hts gX7_bears_X2_hasPerson rfl rfl rfl (by decide +kernel) ⟨by decide, by decide⟩) (gC23 c3 ad w) rfl rfl rfl hl.1 rfl (Nat.le_of_ble_eq_true rfl) dX7_bears_5) (fun H locs hP hS => ?_)
  refine lv_if_eq (tgt := 23) hx hb dX7_bears_8 (by decide) (fun c_4 => ?_) (fun c_4 => ?_)
  · replace h := it_p c_4 h
    refine lv_iconst (v := (-1)) hx hb dX7_bears_23 (by decide) ?_
    obtain rfl := Option.some.inj h
    exact hret _ _ _ _ hP hS dX7_bears_24
  · replace h := it_n c_4 h
    refine lv_aload_n hx hb dX7_bears_11 rfl (lv_at hl 0 rfl) ?_
    refine x_get (rest := []) X hP (gC0 c3 ad w) rfl iwX7_bears_X7 3 (by decide) lkX7_bears_27 rfl dX7_bears_12 ?_
    refine x_get (rest := []) X hP (gC23 c3 ad w) rfl iwX7_bears_X2 1 (by decide) lkX7_bears_161 rfl dX7_bears_15 ?_
    refine lv_iload_n hx hb dX7_bears_18 rfl (lv_at hl 1 rfl) ?_
    obtain ⟨g_5, h⟩ := gd_s h
    refine x_iald X hP (gC24 c3 ad w) g_5 dX7_bears_19 ?_
    refine lv_goto (tgt := 24) hx hb dX7_bears_20 (by decide) ?_
    obtain rfl := Option.some.inj h
    exact hret _ _ _ _ hP hS dX7_bears_24
def fX7_bears (x1 : Int32) (w : Mm) : Option (Int32) := fX7_bears_E x1 w
theorem ctX7_bears (l : Launch) (D : va_G) (c3 : C3) (ad : Nat → Nat) (w : Mm) (sz : Nat) (x1 : Int32) (r : Int32) (h : fX7_bears x1 w = some r) : Ci l yX7_bears wsX7_bears rmX7_bears D c3 (encC c3 ad) gC [.ref (ad 0), .int x1] w sz r w := by
  refine Ci.of (cc := cX7_bears) (maxL := 2) (encC_ok c3 ad) (by decide) rfl (Nat.le_of_ble_eq_true rfl) ?_
  intro p e s m below meth c A Q ls X hret hP hS hl
  exact bX7_bears_E X hret x1 _ _ ls hP hS hl h
def rmX2_deedOf : Room := { frames := 0, cells := 0, slots := 0, locals := 0 }
def fX2_deedOf_E (x0 : Int32) (x1 : Int32) : Option (Int32) := some ((x0 * 6) + x1)
set_option maxRecDepth 20000 in
theorem bX2_deedOf_E {p : Program} {l : Launch} {e : Env} {s : State} {m : MethodId} {args : Array Value} {below : List Frame} {meth : Method} {c : Code} {Q : State → Prop} {D : va_G} {c3 : C3} {ad : Nat → Nat} {A : Nat → Prop} {r : Int32} {w : Mm} (X : Cx p s m args c cX2_deedOf 2 RX2 wsX2_deedOf D c3 (encC c3 ad) gC A) (hret : Ri p l e (rmX2_deedOf) s m args below meth c Q cX2_deedOf D (encC c3 ad) A r w) : ∀ (x0 : Int32) (x1 : Int32) (H : Heap) (locs : List Loc) (ls : Array Slot), va_P D vwCl ((encC c3 ad) w) H → va_S A s.heap H locs → lv_has ls 2 [(0, .int x0), (1, .int x1)] → fX2_deedOf_E x0 x1 = some r → W p l e (rmX2_deedOf) s m args below meth c H locs 0 0 Q (F0 m 0 ls []) := by
  have hx := X.1
  have hb := X.2.1
  have hml := X.2.2.1
  have hown := X.2.2.2.1
  have hts := X.2.2.2.2.1
  intro x0 x1 H locs ls hP hS hl h
  unfold fX2_deedOf_E at h
  refine lv_iload_n hx hb dX2_deedOf_0 rfl (lv_at hl 0 rfl) ?_
  refine lv_bipush (v := 6) hx hb dX2_deedOf_1 (by decide) ?_
  refine lv_imul hx hb dX2_deedOf_3 ?_
  refine lv_iload_n hx hb dX2_deedOf_4 rfl (lv_at hl 1 rfl) ?_
  refine lv_iadd hx hb dX2_deedOf_5 ?_
  obtain rfl := Option.some.inj h
  exact hret _ _ _ _ hP hS dX2_deedOf_6
def fX2_deedOf (x0 : Int32) (x1 : Int32) : Option (Int32) := fX2_deedOf_E x0 x1
theorem ctX2_deedOf (l : Launch) (D : va_G) (c3 : C3) (ad : Nat → Nat) (w : Mm) (sz : Nat) (x0 : Int32) (x1 : Int32) (r : Int32) (h : fX2_deedOf x0 x1 = some r) : Ci l yX2_deedOf wsX2_deedOf rmX2_deedOf D c3 (encC c3 ad) gC [.int x0, .int x1] w sz r w := by
  refine Ci.of (cc := cX2_deedOf) (maxL := 2) (encC_ok c3 ad) (by decide) rfl (Nat.le_of_ble_eq_true rfl) ?_
  intro p e s m below meth c A Q ls X hret hP hS hl
  exact bX2_deedOf_E X hret x0 x1 _ _ ls hP hS hl h
theorem iwX2_record_X2 : ∀ w ∈ wsX20, w ∈ wsX2_record := fun _ h => List.mem_cons_of_mem _ (List.mem_append_right _ h)
theorem lkX2_record_46 : Cond.fieldLink RX2 46 "StuckDoor$Family" "deeds" "I" ∈ wsX2_record := by decide +kernel
theorem lkX2_record_49 : Cond.fieldLink RX2 49 "StuckDoor$Family" "deed" "[I" ∈ wsX2_record := by decide +kernel
def rmX2_record_23 : Room := { frames := 5, cells := 0, slots := 0, locals := 110 }
def fX2_record_23_E (x1 : Int32) (w : Mm) : Option (Mm) := (if 40 ≤ (w.1 23 11) then some w else gd (inb (w.1 23 11) 40 = true) (nm (sA w 29 (w.1 23 11).toNatClampNeg x1) (fun w_3 => nm (sA w_3 23 11 ((w_3.1 23 11) + 1)) (fun w_4 => bo (fX2_enact_23 x1 w_4) (fun w_7 => some w_7)))))
set_option maxRecDepth 20000 in
theorem bX2_record_23_E {p : Program} {l : Launch} {e : Env} {s : State} {m : MethodId} {args : Array Value} {below : List Frame} {meth : Method} {c : Code} {Q : State → Prop} {D : va_G} {c3 : C3} {ad : Nat → Nat} {A : Nat → Prop} {w' : Mm} (X : Cx p s m args c cX2_record 2 RX2 wsX2_record D c3 (encC c3 ad) gC A) (hret : Rv p l e (rmX2_record_23) s m args below meth c Q cX2_record D (encC c3 ad) A w') : ∀ (x1 : Int32) (w : Mm) (H : Heap) (locs : List Loc) (ls : Array Slot), va_P D vwCl ((encC c3 ad) w) H → va_S A s.heap H locs → lv_has ls 2 [(0, .ref (ad 23)), (1, .int x1)] → fX2_record_23_E x1 w = some w' → W p l e (rmX2_record_23) s m args below meth c H locs 0 0 Q (F0 m 0 ls []) := by
  have hx := X.1
  have hb := X.2.1
  have hml := X.2.2.1
  have hown := X.2.2.2.1
  have hts := X.2.2.2.2.1
  intro x1 w H locs ls hP hS hl h
  unfold fX2_record_23_E at h
  refine lv_aload_n hx hb dX2_record_0 rfl (lv_at hl 0 rfl) ?_
  refine x_get (rest := []) X hP (gC23 c3 ad w) rfl iwX2_record_X2 11 (by decide) lkX2_record_46 rfl dX2_record_1 ?_
  refine lv_bipush (v := 40) hx hb dX2_record_4 (by decide) ?_
  refine lv_icmp_ge (tgt := 34) hx hb dX2_record_6 (by decide) (fun c_1 => ?_) (fun c_1 => ?_)
  · replace h := it_p c_1 h
    obtain rfl := Option.some.inj h
    exact hret _ _ _ _ hP hS dX2_record_34
  · replace h := it_n c_1 h
    refine lv_aload_n hx hb dX2_record_9 rfl (lv_at hl 0 rfl) ?_
    refine x_get (rest := []) X hP (gC23 c3 ad w) rfl iwX2_record_X2 12 (by decide) lkX2_record_49 rfl dX2_record_10 ?_
    refine lv_aload_n hx hb dX2_record_13 rfl (lv_at hl 0 rfl) ?_
    refine x_get (rest := [.ref (ad 29)]) X hP (gC23 c3 ad w) rfl iwX2_record_X2 11 (by decide) lkX2_record_46 rfl dX2_record_14 ?_
    refine lv_iload_n hx hb dX2_record_17 rfl (lv_at hl 1 rfl) ?_
    obtain ⟨g_2, h⟩ := gd_s h
    refine x_iast X hP hS (gC29 c3 ad w) (sC29 c3 ad w _ _) g_2 dX2_record_18 (fun H locs hP hS => ?_)
    refine x_nmw h hP (fun w_3 h hP => ?_)
    refine lv_aload_n hx hb dX2_record_19 rfl (lv_at hl 0 rfl) ?_
    refine lv_dup hx hb dX2_record_20 rfl ?_
    refine x_get (rest := [.ref (ad 23)]) X hP (gC23 c3 ad w_3) rfl iwX2_record_X2 11 (by decide) lkX2_record_46 rfl dX2_record_21 ?_
    refine lv_iconst (v := 1) hx hb dX2_record_24 (by decide) ?_
    refine lv_iadd hx hb dX2_record_25 ?_
    refine x_put (v := .int ((w_3.1 23 11) + 1)) X hP hS (gC23 c3 ad w_3) rfl iwX2_record_X2 tyX2 tyX2_ok nmX2 11 (by decide) lkX2_record_46 rfl rfl rfl (Nat.le_of_ble_eq_true rfl) (pC23_11 c3 ad w_3 ((w_3.1 23 11) + 1)) dX2_record_26 (fun H locs hP hS => ?_)
    refine x_nmw h hP (fun w_4 h hP => ?_)
    refine lv_aload_n hx hb dX2_record_29 rfl (lv_at hl 0 rfl) ?_
    refine lv_iload_n hx hb dX2_record_30 rfl (lv_at hl 1 rfl) ?_
    obtain ⟨w_7, e_5, h⟩ := bo_s h
    refine x_gov X hS (x_runV (As := [.int x1]) (rest := []) X gC_ok hP hS (ctX2_enact_23 l D c3 ad w_4 _ x1 _ e_5) (cwV 1 hts gX2_record_X2_enact rfl rfl rfl (by decide +kernel) ⟨by decide, by decide⟩) (gC23 c3 ad w_4) rfl rfl rfl hl.1 rfl (Nat.le_of_ble_eq_true rfl) dX2_record_31) (fun H locs hP hS => ?_)
    obtain rfl := Option.some.inj h
    exact hret _ _ _ _ hP hS dX2_record_34
def fX2_record_23 (x1 : Int32) (w : Mm) : Option (Mm) := fX2_record_23_E x1 w
theorem ctX2_record_23 (l : Launch) (D : va_G) (c3 : C3) (ad : Nat → Nat) (w : Mm) (sz : Nat) (x1 : Int32) (w' : Mm) (h : fX2_record_23 x1 w = some w') : Cv l yX2_record wsX2_record rmX2_record_23 D c3 (encC c3 ad) gC [.ref (ad 23), .int x1] w sz w' := by
  refine Cv.of (cc := cX2_record) (maxL := 2) (encC_ok c3 ad) (by decide) rfl (Nat.le_of_ble_eq_true rfl) ?_
  intro p e s m below meth c A Q ls X hret hP hS hl
  exact bX2_record_23_E X hret x1 w _ _ ls hP hS hl h
theorem iwX7_say_X2 : ∀ w ∈ wsX20, w ∈ wsX7_say := fun _ h => List.mem_cons_of_mem _ (List.mem_append_right _ h)
theorem iwX7_say_X7 : ∀ w ∈ wsX70, w ∈ wsX7_say := fun _ h => List.mem_cons_of_mem _ (List.mem_append_left _ (List.mem_append_right _ h))
theorem lkX7_say_27 : Cond.fieldLink RX7 27 "StuckDoor" "family" "LStuckDoor$Family;" ∈ wsX7_say := by decide +kernel
theorem lkX7_say_168 : Cond.fieldLink RX7 168 "StuckDoor$Family" "deeds" "I" ∈ wsX7_say := by decide +kernel
theorem lkX7_say_178 : Cond.fieldLink RX7 178 "StuckDoor$Family" "strain" "I" ∈ wsX7_say := by decide +kernel
def rmX7_say : Room := { frames := 6, cells := 0, slots := 0, locals := 131 }
def fX7_say_E (x1 : Int32) (x2 : Int32) (w : Mm) : Option (Int32 × Mm) := bo (fX2_hasPerson_23 x1 w) (fun r_2 => (if r_2 = 0 then some ((-1), w) else bo (fX2_hasSaying_23 x2 w) (fun r_6 => (if r_6 = 0 then some ((-1), w) else bo (fX2_isAnyOver_23 w) (fun r_10 => (if r_10 = 0 then (if (w.1 23 11) < 40 then bo (fX2_deedOf x1 x2) (fun r_15 => bo (fX2_record_23 r_15 w) (fun w_19 => some ((w_19.1 23 7), w_19))) else some ((-2), w)) else some ((-4), w)))))))
set_option maxRecDepth 20000 in
theorem bX7_say_E {p : Program} {l : Launch} {e : Env} {s : State} {m : MethodId} {args : Array Value} {below : List Frame} {meth : Method} {c : Code} {Q : State → Prop} {D : va_G} {c3 : C3} {ad : Nat → Nat} {A : Nat → Prop} {r : Int32} {w' : Mm} (X : Cx p s m args c cX7_say 3 RX7 wsX7_say D c3 (encC c3 ad) gC A) (hret : Ri p l e (rmX7_say) s m args below meth c Q cX7_say D (encC c3 ad) A r w') : ∀ (x1 : Int32) (x2 : Int32) (w : Mm) (H : Heap) (locs : List Loc) (ls : Array Slot), va_P D vwCl ((encC c3 ad) w) H → va_S A s.heap H locs → lv_has ls 3 [(0, .ref (ad 0)), (1, .int x1), (2, .int x2)] → fX7_say_E x1 x2 w = some (r, w') → W p l e (rmX7_say) s m args below meth c H locs 0 0 Q (F0 m 0 ls []) := by
  have hx := X.1
  have hb := X.2.1
  have hml := X.2.2.1
  have hown := X.2.2.2.1
  have hts := X.2.2.2.2.1
  intro x1 x2 w H locs ls hP hS hl h
  unfold fX7_say_E at h
  refine lv_aload_n hx hb dX7_say_0 rfl (lv_at hl 0 rfl) ?_
  refine x_get (rest := []) X hP (gC0 c3 ad w) rfl iwX7_say_X7 3 (by decide) lkX7_say_27 rfl dX7_say_1 ?_
  refine lv_iload_n hx hb dX7_say_4 rfl (lv_at hl 1 rfl) ?_
  obtain ⟨r_2, e_1, h⟩ := bo_s h
  refine x_goi X hS (x_runV (As := [.int x1]) (rest := []) X gC_ok hP hS (ctX2_hasPerson_23 l D c3 ad w _ x1 _ e_1) (cwV 1 hts gX7_say_X2_hasPerson rfl rfl rfl (by decide +kernel) ⟨by decide, by decide⟩) (gC23 c3 ad w) rfl rfl rfl hl.1 rfl (Nat.le_of_ble_eq_true rfl) dX7_say_5) (fun H locs hP hS => ?_)
  refine lv_if_eq (tgt := 22) hx hb dX7_say_8 (by decide) (fun c_4 => ?_) (fun c_4 => ?_)
  · replace h := it_p c_4 h
    refine lv_iconst (v := (-1)) hx hb dX7_say_22 (by decide) ?_
    obtain ⟨rfl, rfl⟩ := Prod.mk.inj (Option.some.inj h)
    exact hret _ _ _ _ hP hS dX7_say_23
  · replace h := it_n c_4 h
    refine lv_aload_n hx hb dX7_say_11 rfl (lv_at hl 0 rfl) ?_
    refine x_get (rest := []) X hP (gC0 c3 ad w) rfl iwX7_say_X7 3 (by decide) lkX7_say_27 rfl dX7_say_12 ?_
    refine lv_iload_n hx hb dX7_say_15 rfl (lv_at hl 2 rfl) ?_
    obtain ⟨r_6, e_5, h⟩ := bo_s h
    refine x_goi X hS (x_runV (As := [.int x2]) (rest := []) X gC_ok hP hS (ctX2_hasSaying_23 l D c3 ad w _ x2 _ e_5) (cwV 1 hts gX7_say_X2_hasSaying rfl rfl rfl (by decide +kernel) ⟨by decide, by decide⟩) (gC23 c3 ad w) rfl rfl rfl hl.1 rfl (Nat.le_of_ble_eq_true rfl) dX7_say_16) (fun H locs hP hS => ?_)
    refine lv_if_ne (tgt := 24) hx hb dX7_say_19 (by decide) (fun c_8 => ?_) (fun c_8 => ?_)
    · replace h := it_n c_8 h
      refine lv_aload_n hx hb dX7_say_24 rfl (lv_at hl 0 rfl) ?_
      refine x_get (rest := []) X hP (gC0 c3 ad w) rfl iwX7_say_X7 3 (by decide) lkX7_say_27 rfl dX7_say_25 ?_
      obtain ⟨r_10, e_9, h⟩ := bo_s h
      refine x_goi X hS (x_runV (As := []) (rest := []) X gC_ok hP hS (ctX2_isAnyOver_23 l D c3 ad w _ _ e_9) (cwV 0 hts gX7_say_X2_isAnyOver rfl rfl rfl (by decide +kernel) ⟨by decide, by decide⟩) (gC23 c3 ad w) rfl rfl rfl hl.1 rfl (Nat.le_of_ble_eq_true rfl) dX7_say_28) (fun H locs hP hS => ?_)
      refine lv_if_eq (tgt := 37) hx hb dX7_say_31 (by decide) (fun c_12 => ?_) (fun c_12 => ?_)
      · replace h := it_p c_12 h
        refine lv_aload_n hx hb dX7_say_37 rfl (lv_at hl 0 rfl) ?_
        refine x_get (rest := []) X hP (gC0 c3 ad w) rfl iwX7_say_X7 3 (by decide) lkX7_say_27 rfl dX7_say_38 ?_
        refine x_get (rest := []) X hP (gC23 c3 ad w) rfl iwX7_say_X2 11 (by decide) lkX7_say_168 rfl dX7_say_41 ?_
        refine lv_bipush (v := 40) hx hb dX7_say_44 (by decide) ?_
        refine lv_icmp_lt (tgt := 52) hx hb dX7_say_46 (by decide) (fun c_13 => ?_) (fun c_13 => ?_)
        · replace h := it_p c_13 h
          refine lv_aload_n hx hb dX7_say_52 rfl (lv_at hl 0 rfl) ?_
          refine x_get (rest := []) X hP (gC0 c3 ad w) rfl iwX7_say_X7 3 (by decide) lkX7_say_27 rfl dX7_say_53 ?_
          refine lv_iload_n hx hb dX7_say_56 rfl (lv_at hl 1 rfl) ?_
          refine lv_iload_n hx hb dX7_say_57 rfl (lv_at hl 2 rfl) ?_
          obtain ⟨r_15, e_14, h⟩ := bo_s h
          refine x_goi X hS (x_runS (As := [.int x1, .int x2]) (rest := [.ref (ad 23)]) X gC_ok hP hS (ctX2_deedOf l D c3 ad w _ x1 x2 _ e_14) (va_cwS 2 hts gX7_say_X2_deedOf rfl rfl rfl (by decide +kernel) ⟨by decide, by decide⟩) rfl hl.1 rfl (Nat.le_of_ble_eq_true rfl) dX7_say_58) (fun H locs hP hS => ?_)
          obtain ⟨w_19, e_17, h⟩ := bo_s h
          refine x_gov X hS (x_runV (As := [.int r_15]) (rest := []) X gC_ok hP hS (ctX2_record_23 l D c3 ad w _ r_15 _ e_17) (cwV 1 hts gX7_say_X2_record rfl rfl rfl (by decide +kernel) ⟨by decide, by decide⟩) (gC23 c3 ad w) rfl rfl rfl hl.1 rfl (Nat.le_of_ble_eq_true rfl) dX7_say_61) (fun H locs hP hS => ?_)
          refine lv_aload_n hx hb dX7_say_64 rfl (lv_at hl 0 rfl) ?_
          refine x_get (rest := []) X hP (gC0 c3 ad w_19) rfl iwX7_say_X7 3 (by decide) lkX7_say_27 rfl dX7_say_65 ?_
          refine x_get (rest := []) X hP (gC23 c3 ad w_19) rfl iwX7_say_X2 7 (by decide) lkX7_say_178 rfl dX7_say_68 ?_
          obtain ⟨rfl, rfl⟩ := Prod.mk.inj (Option.some.inj h)
          exact hret _ _ _ _ hP hS dX7_say_71
        · replace h := it_n c_13 h
          refine lv_bipush (v := (-2)) hx hb dX7_say_49 (by decide) ?_
          obtain ⟨rfl, rfl⟩ := Prod.mk.inj (Option.some.inj h)
          exact hret _ _ _ _ hP hS dX7_say_51
      · replace h := it_n c_12 h
        refine lv_bipush (v := (-4)) hx hb dX7_say_34 (by decide) ?_
        obtain ⟨rfl, rfl⟩ := Prod.mk.inj (Option.some.inj h)
        exact hret _ _ _ _ hP hS dX7_say_36
    · replace h := it_p c_8 h
      refine lv_iconst (v := (-1)) hx hb dX7_say_22 (by decide) ?_
      obtain ⟨rfl, rfl⟩ := Prod.mk.inj (Option.some.inj h)
      exact hret _ _ _ _ hP hS dX7_say_23
def fX7_say (x1 : Int32) (x2 : Int32) (w : Mm) : Option (Int32 × Mm) := fX7_say_E x1 x2 w
theorem ctX7_say (l : Launch) (D : va_G) (c3 : C3) (ad : Nat → Nat) (w : Mm) (sz : Nat) (x1 : Int32) (x2 : Int32) (r : Int32) (w' : Mm) (h : fX7_say x1 x2 w = some (r, w')) : Ci l yX7_say wsX7_say rmX7_say D c3 (encC c3 ad) gC [.ref (ad 0), .int x1, .int x2] w sz r w' := by
  refine Ci.of (cc := cX7_say) (maxL := 3) (encC_ok c3 ad) (by decide) rfl (Nat.le_of_ble_eq_true rfl) ?_
  intro p e s m below meth c A Q ls X hret hP hS hl
  exact bX7_say_E X hret x1 x2 w _ _ ls hP hS hl h
theorem iwX2_isEmpty_X2 : ∀ w ∈ wsX20, w ∈ wsX2_isEmpty := fun _ h => List.mem_cons_of_mem _ (List.mem_append_right _ h)
theorem lkX2_isEmpty_9 : Cond.fieldLink RX2 9 "StuckDoor$Family" "people" "I" ∈ wsX2_isEmpty := by decide +kernel
theorem lkX2_isEmpty_19 : Cond.fieldLink RX2 19 "StuckDoor$Family" "sayings" "I" ∈ wsX2_isEmpty := by decide +kernel
def rmX2_isEmpty_23 : Room := { frames := 0, cells := 0, slots := 0, locals := 0 }
def fX2_isEmpty_23_14 (w : Mm) : Option (Int32) := some 1
set_option maxRecDepth 20000 in
theorem bX2_isEmpty_23_14 {p : Program} {l : Launch} {e : Env} {s : State} {m : MethodId} {args : Array Value} {below : List Frame} {meth : Method} {c : Code} {Q : State → Prop} {D : va_G} {c3 : C3} {ad : Nat → Nat} {A : Nat → Prop} {r : Int32} {w : Mm} (X : Cx p s m args c cX2_isEmpty 1 RX2 wsX2_isEmpty D c3 (encC c3 ad) gC A) (hret : Rz p l e (rmX2_isEmpty_23) s m args below meth c Q cX2_isEmpty D (encC c3 ad) A r w) : ∀ (H : Heap) (locs : List Loc) (ls : Array Slot), va_P D vwCl ((encC c3 ad) w) H → va_S A s.heap H locs → lv_has ls 1 [] → fX2_isEmpty_23_14 w = some r → W p l e (rmX2_isEmpty_23) s m args below meth c H locs 0 0 Q (F0 m 14 ls []) := by
  have hx := X.1
  have hb := X.2.1
  have hml := X.2.2.1
  have hown := X.2.2.2.1
  have hts := X.2.2.2.2.1
  intro H locs ls hP hS hl h
  unfold fX2_isEmpty_23_14 at h
  refine lv_iconst (v := 1) hx hb dX2_isEmpty_14 (by decide) ?_
  refine lv_goto (tgt := 19) hx hb dX2_isEmpty_15 (by decide) ?_
  obtain rfl := Option.some.inj h
  exact hret (Or.inr rfl) _ _ _ _ hP hS dX2_isEmpty_19
def fX2_isEmpty_23_E (w : Mm) : Option (Int32) := (if (w.1 23 2) = 0 then fX2_isEmpty_23_14 w else (if (w.1 23 0) = 0 then fX2_isEmpty_23_14 w else some 0))
set_option maxRecDepth 20000 in
theorem bX2_isEmpty_23_E {p : Program} {l : Launch} {e : Env} {s : State} {m : MethodId} {args : Array Value} {below : List Frame} {meth : Method} {c : Code} {Q : State → Prop} {D : va_G} {c3 : C3} {ad : Nat → Nat} {A : Nat → Prop} {r : Int32} {w : Mm} (X : Cx p s m args c cX2_isEmpty 1 RX2 wsX2_isEmpty D c3 (encC c3 ad) gC A) (hret : Rz p l e (rmX2_isEmpty_23) s m args below meth c Q cX2_isEmpty D (encC c3 ad) A r w) : ∀ (H : Heap) (locs : List Loc) (ls : Array Slot), va_P D vwCl ((encC c3 ad) w) H → va_S A s.heap H locs → lv_has ls 1 [(0, .ref (ad 23))] → fX2_isEmpty_23_E w = some r → W p l e (rmX2_isEmpty_23) s m args below meth c H locs 0 0 Q (F0 m 0 ls []) := by
  have hx := X.1
  have hb := X.2.1
  have hml := X.2.2.1
  have hown := X.2.2.2.1
  have hts := X.2.2.2.2.1
  intro H locs ls hP hS hl h
  unfold fX2_isEmpty_23_E at h
  refine lv_aload_n hx hb dX2_isEmpty_0 rfl (lv_at hl 0 rfl) ?_
  refine x_get (rest := []) X hP (gC23 c3 ad w) rfl iwX2_isEmpty_X2 2 (by decide) lkX2_isEmpty_19 rfl dX2_isEmpty_1 ?_
  refine lv_if_eq (tgt := 14) hx hb dX2_isEmpty_4 (by decide) (fun c_1 => ?_) (fun c_1 => ?_)
  · replace h := it_p c_1 h
    exact bX2_isEmpty_23_14 X hret _ _ _ hP hS (lv_sub hl [] rfl) h
  · replace h := it_n c_1 h
    refine lv_aload_n hx hb dX2_isEmpty_7 rfl (lv_at hl 0 rfl) ?_
    refine x_get (rest := []) X hP (gC23 c3 ad w) rfl iwX2_isEmpty_X2 0 (by decide) lkX2_isEmpty_9 rfl dX2_isEmpty_8 ?_
    refine lv_if_ne (tgt := 18) hx hb dX2_isEmpty_11 (by decide) (fun c_2 => ?_) (fun c_2 => ?_)
    · replace h := it_n c_2 h
      refine lv_iconst (v := 0) hx hb dX2_isEmpty_18 (by decide) ?_
      obtain rfl := Option.some.inj h
      exact hret (Or.inl rfl) _ _ _ _ hP hS dX2_isEmpty_19
    · replace h := it_p c_2 h
      exact bX2_isEmpty_23_14 X hret _ _ _ hP hS (lv_sub hl [] rfl) h
def fX2_isEmpty_23 (w : Mm) : Option (Int32) := fX2_isEmpty_23_E w
theorem ctX2_isEmpty_23 (l : Launch) (D : va_G) (c3 : C3) (ad : Nat → Nat) (w : Mm) (sz : Nat) (r : Int32) (h : fX2_isEmpty_23 w = some r) : Ci l yX2_isEmpty wsX2_isEmpty rmX2_isEmpty_23 D c3 (encC c3 ad) gC [.ref (ad 23)] w sz r w := by
  refine Ci.ofz (cc := cX2_isEmpty) (maxL := 1) (encC_ok c3 ad) (by decide) rfl (Nat.le_of_ble_eq_true rfl) ?_
  intro p e s m below meth c A Q ls X hret hP hS hl
  exact bX2_isEmpty_23_E X hret _ _ ls hP hS hl h
theorem iwX7_day_X2 : ∀ w ∈ wsX20, w ∈ wsX7_day := fun _ h => List.mem_cons_of_mem _ (List.mem_append_right _ h)
theorem iwX7_day_X7 : ∀ w ∈ wsX70, w ∈ wsX7_day := fun _ h => List.mem_cons_of_mem _ (List.mem_append_left _ (List.mem_append_right _ h))
theorem lkX7_day_27 : Cond.fieldLink RX7 27 "StuckDoor" "family" "LStuckDoor$Family;" ∈ wsX7_day := by decide +kernel
theorem lkX7_day_168 : Cond.fieldLink RX7 168 "StuckDoor$Family" "deeds" "I" ∈ wsX7_day := by decide +kernel
theorem lkX7_day_178 : Cond.fieldLink RX7 178 "StuckDoor$Family" "strain" "I" ∈ wsX7_day := by decide +kernel
def rmX7_day : Room := { frames := 6, cells := 0, slots := 0, locals := 131 }
def fX7_day_E (w : Mm) : Option (Int32 × Mm) := bo (fX2_isEmpty_23 w) (fun r_2 => (if r_2 = 0 then (if (w.1 23 11) < 40 then bo (fX2_record_23 (-1) w) (fun w_8 => some ((w_8.1 23 7), w_8)) else some ((-2), w)) else some ((-4), w)))
set_option maxRecDepth 20000 in
theorem bX7_day_E {p : Program} {l : Launch} {e : Env} {s : State} {m : MethodId} {args : Array Value} {below : List Frame} {meth : Method} {c : Code} {Q : State → Prop} {D : va_G} {c3 : C3} {ad : Nat → Nat} {A : Nat → Prop} {r : Int32} {w' : Mm} (X : Cx p s m args c cX7_day 1 RX7 wsX7_day D c3 (encC c3 ad) gC A) (hret : Ri p l e (rmX7_day) s m args below meth c Q cX7_day D (encC c3 ad) A r w') : ∀ (w : Mm) (H : Heap) (locs : List Loc) (ls : Array Slot), va_P D vwCl ((encC c3 ad) w) H → va_S A s.heap H locs → lv_has ls 1 [(0, .ref (ad 0))] → fX7_day_E w = some (r, w') → W p l e (rmX7_day) s m args below meth c H locs 0 0 Q (F0 m 0 ls []) := by
  have hx := X.1
  have hb := X.2.1
  have hml := X.2.2.1
  have hown := X.2.2.2.1
  have hts := X.2.2.2.2.1
  intro w H locs ls hP hS hl h
  unfold fX7_day_E at h
  refine lv_aload_n hx hb dX7_day_0 rfl (lv_at hl 0 rfl) ?_
  refine x_get (rest := []) X hP (gC0 c3 ad w) rfl iwX7_day_X7 3 (by decide) lkX7_day_27 rfl dX7_day_1 ?_
  obtain ⟨r_2, e_1, h⟩ := bo_s h
  refine x_goi X hS (x_runV (As := []) (rest := []) X gC_ok hP hS (ctX2_isEmpty_23 l D c3 ad w _ _ e_1) (cwV 0 hts gX7_day_X2_isEmpty rfl rfl rfl (by decide +kernel) ⟨by decide, by decide⟩) (gC23 c3 ad w) rfl rfl rfl hl.1 rfl (Nat.le_of_ble_eq_true rfl) dX7_day_4) (fun H locs hP hS => ?_)
  refine lv_if_eq (tgt := 13) hx hb dX7_day_7 (by decide) (fun c_4 => ?_) (fun c_4 => ?_)
  · replace h := it_p c_4 h
    refine lv_aload_n hx hb dX7_day_13 rfl (lv_at hl 0 rfl) ?_
    refine x_get (rest := []) X hP (gC0 c3 ad w) rfl iwX7_day_X7 3 (by decide) lkX7_day_27 rfl dX7_day_14 ?_
    refine x_get (rest := []) X hP (gC23 c3 ad w) rfl iwX7_day_X2 11 (by decide) lkX7_day_168 rfl dX7_day_17 ?_
    refine lv_bipush (v := 40) hx hb dX7_day_20 (by decide) ?_
    refine lv_icmp_lt (tgt := 28) hx hb dX7_day_22 (by decide) (fun c_5 => ?_) (fun c_5 => ?_)
    · replace h := it_p c_5 h
      refine lv_aload_n hx hb dX7_day_28 rfl (lv_at hl 0 rfl) ?_
      refine x_get (rest := []) X hP (gC0 c3 ad w) rfl iwX7_day_X7 3 (by decide) lkX7_day_27 rfl dX7_day_29 ?_
      refine lv_iconst (v := (-1)) hx hb dX7_day_32 (by decide) ?_
      obtain ⟨w_8, e_6, h⟩ := bo_s h
      refine x_gov X hS (x_runV (As := [.int (-1)]) (rest := []) X gC_ok hP hS (ctX2_record_23 l D c3 ad w _ (-1) _ e_6) (cwV 1 hts gX7_day_X2_record rfl rfl rfl (by decide +kernel) ⟨by decide, by decide⟩) (gC23 c3 ad w) rfl rfl rfl hl.1 rfl (Nat.le_of_ble_eq_true rfl) dX7_day_33) (fun H locs hP hS => ?_)
      refine lv_aload_n hx hb dX7_day_36 rfl (lv_at hl 0 rfl) ?_
      refine x_get (rest := []) X hP (gC0 c3 ad w_8) rfl iwX7_day_X7 3 (by decide) lkX7_day_27 rfl dX7_day_37 ?_
      refine x_get (rest := []) X hP (gC23 c3 ad w_8) rfl iwX7_day_X2 7 (by decide) lkX7_day_178 rfl dX7_day_40 ?_
      obtain ⟨rfl, rfl⟩ := Prod.mk.inj (Option.some.inj h)
      exact hret _ _ _ _ hP hS dX7_day_43
    · replace h := it_n c_5 h
      refine lv_bipush (v := (-2)) hx hb dX7_day_25 (by decide) ?_
      obtain ⟨rfl, rfl⟩ := Prod.mk.inj (Option.some.inj h)
      exact hret _ _ _ _ hP hS dX7_day_27
  · replace h := it_n c_4 h
    refine lv_bipush (v := (-4)) hx hb dX7_day_10 (by decide) ?_
    obtain ⟨rfl, rfl⟩ := Prod.mk.inj (Option.some.inj h)
    exact hret _ _ _ _ hP hS dX7_day_12
def fX7_day (w : Mm) : Option (Int32 × Mm) := fX7_day_E w
theorem ctX7_day (l : Launch) (D : va_G) (c3 : C3) (ad : Nat → Nat) (w : Mm) (sz : Nat) (r : Int32) (w' : Mm) (h : fX7_day w = some (r, w')) : Ci l yX7_day wsX7_day rmX7_day D c3 (encC c3 ad) gC [.ref (ad 0)] w sz r w' := by
  refine Ci.of (cc := cX7_day) (maxL := 1) (encC_ok c3 ad) (by decide) rfl (Nat.le_of_ble_eq_true rfl) ?_
  intro p e s m below meth c A Q ls X hret hP hS hl
  exact bX7_day_E X hret w _ _ ls hP hS hl h
theorem iwX7_undo_X2 : ∀ w ∈ wsX20, w ∈ wsX7_undo := fun _ h => List.mem_cons_of_mem _ (List.mem_append_right _ h)
theorem iwX7_undo_X7 : ∀ w ∈ wsX70, w ∈ wsX7_undo := fun _ h => List.mem_cons_of_mem _ (List.mem_append_left _ (List.mem_append_right _ h))
theorem lkX7_undo_27 : Cond.fieldLink RX7 27 "StuckDoor" "family" "LStuckDoor$Family;" ∈ wsX7_undo := by decide +kernel
theorem lkX7_undo_168 : Cond.fieldLink RX7 168 "StuckDoor$Family" "deeds" "I" ∈ wsX7_undo := by decide +kernel
def rmX7_undo : Room := { frames := 6, cells := 0, slots := 0, locals := 132 }
def fX7_undo_E (x1 : Int32) (w : Mm) : Option (Int32 × Mm) := (if x1 < 0 then some ((-1), w) else (if x1 ≤ (w.1 23 11) then nm ((w.1 23 11) - x1) (fun x2_3 => bo (fX2_goBackTo_23 x1 w) (fun w_6 => some (x2_3, w_6))) else some ((-1), w)))
set_option maxRecDepth 20000 in
theorem bX7_undo_E {p : Program} {l : Launch} {e : Env} {s : State} {m : MethodId} {args : Array Value} {below : List Frame} {meth : Method} {c : Code} {Q : State → Prop} {D : va_G} {c3 : C3} {ad : Nat → Nat} {A : Nat → Prop} {r : Int32} {w' : Mm} (X : Cx p s m args c cX7_undo 3 RX7 wsX7_undo D c3 (encC c3 ad) gC A) (hret : Ri p l e (rmX7_undo) s m args below meth c Q cX7_undo D (encC c3 ad) A r w') : ∀ (x1 : Int32) (w : Mm) (H : Heap) (locs : List Loc) (ls : Array Slot), va_P D vwCl ((encC c3 ad) w) H → va_S A s.heap H locs → lv_has ls 3 [(0, .ref (ad 0)), (1, .int x1)] → fX7_undo_E x1 w = some (r, w') → W p l e (rmX7_undo) s m args below meth c H locs 0 0 Q (F0 m 0 ls []) := by
  have hx := X.1
  have hb := X.2.1
  have hml := X.2.2.1
  have hown := X.2.2.2.1
  have hts := X.2.2.2.2.1
  intro x1 w H locs ls hP hS hl h
  unfold fX7_undo_E at h
  refine lv_iload_n hx hb dX7_undo_0 rfl (lv_at hl 1 rfl) ?_
  refine lv_if_lt (tgt := 15) hx hb dX7_undo_1 (by decide) (fun c_1 => ?_) (fun c_1 => ?_)
  · replace h := it_p c_1 h
    refine lv_iconst (v := (-1)) hx hb dX7_undo_15 (by decide) ?_
    obtain ⟨rfl, rfl⟩ := Prod.mk.inj (Option.some.inj h)
    exact hret _ _ _ _ hP hS dX7_undo_16
  · replace h := it_n c_1 h
    refine lv_iload_n hx hb dX7_undo_4 rfl (lv_at hl 1 rfl) ?_
    refine lv_aload_n hx hb dX7_undo_5 rfl (lv_at hl 0 rfl) ?_
    refine x_get (rest := [.int x1]) X hP (gC0 c3 ad w) rfl iwX7_undo_X7 3 (by decide) lkX7_undo_27 rfl dX7_undo_6 ?_
    refine x_get (rest := [.int x1]) X hP (gC23 c3 ad w) rfl iwX7_undo_X2 11 (by decide) lkX7_undo_168 rfl dX7_undo_9 ?_
    refine lv_icmp_le (tgt := 17) hx hb dX7_undo_12 (by decide) (fun c_2 => ?_) (fun c_2 => ?_)
    · replace h := it_p c_2 h
      refine lv_aload_n hx hb dX7_undo_17 rfl (lv_at hl 0 rfl) ?_
      refine x_get (rest := []) X hP (gC0 c3 ad w) rfl iwX7_undo_X7 3 (by decide) lkX7_undo_27 rfl dX7_undo_18 ?_
      refine x_get (rest := []) X hP (gC23 c3 ad w) rfl iwX7_undo_X2 11 (by decide) lkX7_undo_168 rfl dX7_undo_21 ?_
      refine lv_iload_n hx hb dX7_undo_24 rfl (lv_at hl 1 rfl) ?_
      refine lv_isub hx hb dX7_undo_25 ?_
      refine x_nmi h (fun x2_3 h => ?_)
      refine lv_istore_n (lv' := [(2, .int x2_3), (0, .ref (ad 0)), (1, .int x1)]) hx hb dX7_undo_26 rfl hl (by decide) rfl (fun ls hl => ?_)
      refine lv_aload_n hx hb dX7_undo_27 rfl (lv_at hl 1 rfl) ?_
      refine x_get (rest := []) X hP (gC0 c3 ad w) rfl iwX7_undo_X7 3 (by decide) lkX7_undo_27 rfl dX7_undo_28 ?_
      refine lv_iload_n hx hb dX7_undo_31 rfl (lv_at hl 2 rfl) ?_
      obtain ⟨w_6, e_4, h⟩ := bo_s h
      refine x_gov X hS (x_runV (As := [.int x1]) (rest := []) X gC_ok hP hS (ctX2_goBackTo_23 l D c3 ad w _ x1 _ e_4) (cwV 1 hts gX7_undo_X2_goBackTo rfl rfl rfl (by decide +kernel) ⟨by decide, by decide⟩) (gC23 c3 ad w) rfl rfl rfl hl.1 rfl (Nat.le_of_ble_eq_true rfl) dX7_undo_32) (fun H locs hP hS => ?_)
      refine lv_iload_n hx hb dX7_undo_35 rfl (lv_at hl 0 rfl) ?_
      obtain ⟨rfl, rfl⟩ := Prod.mk.inj (Option.some.inj h)
      exact hret _ _ _ _ hP hS dX7_undo_36
    · replace h := it_n c_2 h
      refine lv_iconst (v := (-1)) hx hb dX7_undo_15 (by decide) ?_
      obtain ⟨rfl, rfl⟩ := Prod.mk.inj (Option.some.inj h)
      exact hret _ _ _ _ hP hS dX7_undo_16
def fX7_undo (x1 : Int32) (w : Mm) : Option (Int32 × Mm) := fX7_undo_E x1 w
theorem ctX7_undo (l : Launch) (D : va_G) (c3 : C3) (ad : Nat → Nat) (w : Mm) (sz : Nat) (x1 : Int32) (r : Int32) (w' : Mm) (h : fX7_undo x1 w = some (r, w')) : Ci l yX7_undo wsX7_undo rmX7_undo D c3 (encC c3 ad) gC [.ref (ad 0), .int x1] w sz r w' := by
  refine Ci.of (cc := cX7_undo) (maxL := 3) (encC_ok c3 ad) (by decide) rfl (Nat.le_of_ble_eq_true rfl) ?_
  intro p e s m below meth c A Q ls X hret hP hS hl
  exact bX7_undo_E X hret x1 w _ _ ls hP hS hl h
def rmX5_isNumber_17 : Room := { frames := 0, cells := 0, slots := 0, locals := 0 }
def fX5_isNumber_17_E (x1 : Int32) (w : Mm) : Option (Int32) := (if x1 < 0 then some 0 else (if 3 ≤ x1 then some 0 else some 1))
set_option maxRecDepth 20000 in
theorem bX5_isNumber_17_E {p : Program} {l : Launch} {e : Env} {s : State} {m : MethodId} {args : Array Value} {below : List Frame} {meth : Method} {c : Code} {Q : State → Prop} {D : va_G} {c3 : C3} {ad : Nat → Nat} {A : Nat → Prop} {r : Int32} {w : Mm} (X : Cx p s m args c cX5_isNumber 2 RX5 wsX5_isNumber D c3 (encC c3 ad) gC A) (hret : Rz p l e (rmX5_isNumber_17) s m args below meth c Q cX5_isNumber D (encC c3 ad) A r w) : ∀ (x1 : Int32) (H : Heap) (locs : List Loc) (ls : Array Slot), va_P D vwCl ((encC c3 ad) w) H → va_S A s.heap H locs → lv_has ls 2 [(0, .ref (ad 17)), (1, .int x1)] → fX5_isNumber_17_E x1 w = some r → W p l e (rmX5_isNumber_17) s m args below meth c H locs 0 0 Q (F0 m 0 ls []) := by
  have hx := X.1
  have hb := X.2.1
  have hml := X.2.2.1
  have hown := X.2.2.2.1
  have hts := X.2.2.2.2.1
  intro x1 H locs ls hP hS hl h
  unfold fX5_isNumber_17_E at h
  refine lv_iload_n hx hb dX5_isNumber_0 rfl (lv_at hl 1 rfl) ?_
  refine lv_if_lt (tgt := 17) hx hb dX5_isNumber_1 (by decide) (fun c_1 => ?_) (fun c_1 => ?_)
  · replace h := it_p c_1 h
    refine lv_iconst (v := 0) hx hb dX5_isNumber_17 (by decide) ?_
    obtain rfl := Option.some.inj h
    exact hret (Or.inl rfl) _ _ _ _ hP hS dX5_isNumber_18
  · replace h := it_n c_1 h
    refine lv_iload_n hx hb dX5_isNumber_4 rfl (lv_at hl 1 rfl) ?_
    refine lv_aload_n hx hb dX5_isNumber_5 rfl (lv_at hl 0 rfl) ?_
    refine x_get (rest := [.int x1]) X hP (gC17 c3 ad w) rfl iwX5_isNumber_X5 1 (by decide) lkX5_isNumber_16 rfl dX5_isNumber_6 ?_
    refine x_alen (v := 3) X hP (gC19 c3 ad w) rfl dX5_isNumber_9 ?_
    refine lv_icmp_ge (tgt := 17) hx hb dX5_isNumber_10 (by decide) (fun c_2 => ?_) (fun c_2 => ?_)
    · replace h := it_p c_2 h
      refine lv_iconst (v := 0) hx hb dX5_isNumber_17 (by decide) ?_
      obtain rfl := Option.some.inj h
      exact hret (Or.inl rfl) _ _ _ _ hP hS dX5_isNumber_18
    · replace h := it_n c_2 h
      refine lv_iconst (v := 1) hx hb dX5_isNumber_13 (by decide) ?_
      refine lv_goto (tgt := 18) hx hb dX5_isNumber_14 (by decide) ?_
      obtain rfl := Option.some.inj h
      exact hret (Or.inr rfl) _ _ _ _ hP hS dX5_isNumber_18
def fX5_isNumber_17 (x1 : Int32) (w : Mm) : Option (Int32) := fX5_isNumber_17_E x1 w
theorem ctX5_isNumber_17 (l : Launch) (D : va_G) (c3 : C3) (ad : Nat → Nat) (w : Mm) (sz : Nat) (x1 : Int32) (r : Int32) (h : fX5_isNumber_17 x1 w = some r) : Ci l yX5_isNumber wsX5_isNumber rmX5_isNumber_17 D c3 (encC c3 ad) gC [.ref (ad 17), .int x1] w sz r w := by
  refine Ci.ofz (cc := cX5_isNumber) (maxL := 2) (encC_ok c3 ad) (by decide) rfl (Nat.le_of_ble_eq_true rfl) ?_
  intro p e s m below meth c A Q ls X hret hP hS hl
  exact bX5_isNumber_17_E X hret x1 _ _ ls hP hS hl h
theorem iwX7_keep_X2 : ∀ w ∈ wsX20, w ∈ wsX7_keep := fun _ h => List.mem_cons_of_mem _ (List.mem_append_left _ (List.mem_append_right _ h))
theorem iwX7_keep_X5 : ∀ w ∈ wsX50, w ∈ wsX7_keep := fun _ h => List.mem_cons_of_mem _ (List.mem_append_right _ h)
theorem iwX7_keep_X7 : ∀ w ∈ wsX70, w ∈ wsX7_keep := fun _ h => List.mem_cons_of_mem _ (List.mem_append_left _ (List.mem_append_left _ (List.mem_append_right _ h)))
theorem lkX7_keep_21 : Cond.fieldLink RX7 21 "StuckDoor" "kept" "LStuckDoor$Rows;" ∈ wsX7_keep := by decide +kernel
theorem lkX7_keep_27 : Cond.fieldLink RX7 27 "StuckDoor" "family" "LStuckDoor$Family;" ∈ wsX7_keep := by decide +kernel
theorem lkX7_keep_86 : Cond.fieldLink RX7 86 "StuckDoor$Rows" "places" "[[I" ∈ wsX7_keep := by decide +kernel
theorem lkX7_keep_94 : Cond.fieldLink RX7 94 "StuckDoor$Rows" "sizes" "[I" ∈ wsX7_keep := by decide +kernel
theorem lkX7_keep_168 : Cond.fieldLink RX7 168 "StuckDoor$Family" "deeds" "I" ∈ wsX7_keep := by decide +kernel
theorem lkX7_keep_187 : Cond.fieldLink RX7 187 "StuckDoor$Family" "deed" "[I" ∈ wsX7_keep := by decide +kernel
def rmX7_keep : Room := { frames := 1, cells := 0, slots := 0, locals := 26 }
def fX7_keep_E (x1 : Int32) (w : Mm) : Option (Int32 × Mm) := bo (fX5_isNumber_17 x1 w) (fun r_2 => (if r_2 = 0 then some ((-1), w) else bo (fX2_isEmpty_23 w) (fun r_6 => (if r_6 = 0 then gd (inb x1 3 = true) (gd (¬ (0 : Int32) < 0 ∧ ¬ (0 : Int32) < 0 ∧ ¬ (w.1 23 11) < 0 ∧ (0 : Int32).toNatClampNeg + (w.1 23 11).toNatClampNeg ≤ 40 ∧ (0 : Int32).toNatClampNeg + (w.1 23 11).toNatClampNeg ≤ 40) (nm (sF w (20 + x1.toNatClampNeg) (va_cpy (w.1 29) (w.1 (20 + x1.toNatClampNeg)) (0 : Int32).toNatClampNeg (0 : Int32).toNatClampNeg (w.1 23 11).toNatClampNeg)) (fun w_12 => nm (sA w_12 19 x1.toNatClampNeg (w_12.1 23 11)) (fun w_13 => some ((w_13.1 23 11), w_13))))) else some ((-4), w)))))
set_option maxRecDepth 20000 in
theorem bX7_keep_E {p : Program} {l : Launch} {e : Env} {s : State} {m : MethodId} {args : Array Value} {below : List Frame} {meth : Method} {c : Code} {Q : State → Prop} {D : va_G} {c3 : C3} {ad : Nat → Nat} {A : Nat → Prop} {r : Int32} {w' : Mm} (X : Cx p s m args c cX7_keep 2 RX7 wsX7_keep D c3 (encC c3 ad) gC A) (hret : Ri p l e (rmX7_keep) s m args below meth c Q cX7_keep D (encC c3 ad) A r w') : ∀ (x1 : Int32) (w : Mm) (H : Heap) (locs : List Loc) (ls : Array Slot), va_P D vwCl ((encC c3 ad) w) H → va_S A s.heap H locs → lv_has ls 2 [(0, .ref (ad 0)), (1, .int x1)] → fX7_keep_E x1 w = some (r, w') → W p l e (rmX7_keep) s m args below meth c H locs 0 0 Q (F0 m 0 ls []) := by
  have hx := X.1
  have hb := X.2.1
  have hml := X.2.2.1
  have hown := X.2.2.2.1
  have hts := X.2.2.2.2.1
  intro x1 w H locs ls hP hS hl h
  unfold fX7_keep_E at h
  refine lv_aload_n hx hb dX7_keep_0 rfl (lv_at hl 0 rfl) ?_
  refine x_get (rest := []) X hP (gC0 c3 ad w) rfl iwX7_keep_X7 2 (by decide) lkX7_keep_21 rfl dX7_keep_1 ?_
  refine lv_iload_n hx hb dX7_keep_4 rfl (lv_at hl 1 rfl) ?_
  obtain ⟨r_2, e_1, h⟩ := bo_s h
  refine x_goi X hS (x_runV (As := [.int x1]) (rest := []) X gC_ok hP hS (ctX5_isNumber_17 l D c3 ad w _ x1 _ e_1) (cwV 1 hts gX7_keep_X5_isNumber rfl rfl rfl (by decide +kernel) ⟨by decide, by decide⟩) (gC17 c3 ad w) rfl rfl rfl hl.1 rfl (Nat.le_of_ble_eq_true rfl) dX7_keep_5) (fun H locs hP hS => ?_)
  refine lv_if_ne (tgt := 13) hx hb dX7_keep_8 (by decide) (fun c_4 => ?_) (fun c_4 => ?_)
  · replace h := it_n c_4 h
    refine lv_aload_n hx hb dX7_keep_13 rfl (lv_at hl 0 rfl) ?_
    refine x_get (rest := []) X hP (gC0 c3 ad w) rfl iwX7_keep_X7 3 (by decide) lkX7_keep_27 rfl dX7_keep_14 ?_
    obtain ⟨r_6, e_5, h⟩ := bo_s h
    refine x_goi X hS (x_runV (As := []) (rest := []) X gC_ok hP hS (ctX2_isEmpty_23 l D c3 ad w _ _ e_5) (cwV 0 hts gX7_keep_X2_isEmpty rfl rfl rfl (by decide +kernel) ⟨by decide, by decide⟩) (gC23 c3 ad w) rfl rfl rfl hl.1 rfl (Nat.le_of_ble_eq_true rfl) dX7_keep_17) (fun H locs hP hS => ?_)
    refine lv_if_eq (tgt := 26) hx hb dX7_keep_20 (by decide) (fun c_8 => ?_) (fun c_8 => ?_)
    · replace h := it_p c_8 h
      refine lv_aload_n hx hb dX7_keep_26 rfl (lv_at hl 0 rfl) ?_
      refine x_get (rest := []) X hP (gC0 c3 ad w) rfl iwX7_keep_X7 3 (by decide) lkX7_keep_27 rfl dX7_keep_27 ?_
      refine x_get (rest := []) X hP (gC23 c3 ad w) rfl iwX7_keep_X2 12 (by decide) lkX7_keep_187 rfl dX7_keep_30 ?_
      refine lv_iconst (v := 0) hx hb dX7_keep_33 (by decide) ?_
      refine lv_aload_n hx hb dX7_keep_34 rfl (lv_at hl 0 rfl) ?_
      refine x_get (rest := [.int 0, .ref (ad 29)]) X hP (gC0 c3 ad w) rfl iwX7_keep_X7 2 (by decide) lkX7_keep_21 rfl dX7_keep_35 ?_
      refine x_get (rest := [.int 0, .ref (ad 29)]) X hP (gC17 c3 ad w) rfl iwX7_keep_X5 0 (by decide) lkX7_keep_86 rfl dX7_keep_38 ?_
      refine lv_iload_n hx hb dX7_keep_41 rfl (lv_at hl 1 rfl) ?_
      obtain ⟨g_9, h⟩ := gd_s h
      have q_10 := rgn 20 g_9
      refine x_aald (z := ad (20 + x1.toNatClampNeg)) X hP (gC18 c3 ad w) g_9 rfl dX7_keep_42 ?_
      refine lv_iconst (v := 0) hx hb dX7_keep_43 (by decide) ?_
      refine lv_aload_n hx hb dX7_keep_44 rfl (lv_at hl 0 rfl) ?_
      refine x_get (rest := [.int 0, .ref (ad (20 + x1.toNatClampNeg)), .int 0, .ref (ad 29)]) X hP (gC0 c3 ad w) rfl iwX7_keep_X7 3 (by decide) lkX7_keep_27 rfl dX7_keep_45 ?_
      refine x_get (rest := [.int 0, .ref (ad (20 + x1.toNatClampNeg)), .int 0, .ref (ad 29)]) X hP (gC23 c3 ad w) rfl iwX7_keep_X2 11 (by decide) lkX7_keep_168 rfl dX7_keep_48 ?_
      obtain ⟨g_11, h⟩ := gd_s h
      refine x_copy X hP hS (gC29 c3 ad w) (gCrK c3 ad w q_10) (tCrK c3 ad w q_10 _) g_11 (by rw [hml]; exact hl.1.symm) (hts (.methodLink RX7 104 arraycopyName) (by decide +kernel)) (hts (.native arraycopyName) (by decide +kernel)) (hts (.static arraycopyName) (by decide +kernel)) (hts (.initialized "java/lang/System") (by decide +kernel)) (Nat.le_of_ble_eq_true rfl) (Nat.le_of_ble_eq_true rfl) dX7_keep_51 (fun H locs hP hS => ?_)
      refine x_nmw h hP (fun w_12 h hP => ?_)
      refine lv_aload_n hx hb dX7_keep_54 rfl (lv_at hl 0 rfl) ?_
      refine x_get (rest := []) X hP (gC0 c3 ad w_12) rfl iwX7_keep_X7 2 (by decide) lkX7_keep_21 rfl dX7_keep_55 ?_
      refine x_get (rest := []) X hP (gC17 c3 ad w_12) rfl iwX7_keep_X5 1 (by decide) lkX7_keep_94 rfl dX7_keep_58 ?_
      refine lv_iload_n hx hb dX7_keep_61 rfl (lv_at hl 1 rfl) ?_
      refine lv_aload_n hx hb dX7_keep_62 rfl (lv_at hl 0 rfl) ?_
      refine x_get (rest := [.int x1, .ref (ad 19)]) X hP (gC0 c3 ad w_12) rfl iwX7_keep_X7 3 (by decide) lkX7_keep_27 rfl dX7_keep_63 ?_
      refine x_get (rest := [.int x1, .ref (ad 19)]) X hP (gC23 c3 ad w_12) rfl iwX7_keep_X2 11 (by decide) lkX7_keep_168 rfl dX7_keep_66 ?_
      refine x_iast X hP hS (gC19 c3 ad w_12) (sC19 c3 ad w_12 _ _) g_9 dX7_keep_69 (fun H locs hP hS => ?_)
      refine x_nmw h hP (fun w_13 h hP => ?_)
      refine lv_aload_n hx hb dX7_keep_70 rfl (lv_at hl 0 rfl) ?_
      refine x_get (rest := []) X hP (gC0 c3 ad w_13) rfl iwX7_keep_X7 3 (by decide) lkX7_keep_27 rfl dX7_keep_71 ?_
      refine x_get (rest := []) X hP (gC23 c3 ad w_13) rfl iwX7_keep_X2 11 (by decide) lkX7_keep_168 rfl dX7_keep_74 ?_
      obtain ⟨rfl, rfl⟩ := Prod.mk.inj (Option.some.inj h)
      exact hret _ _ _ _ hP hS dX7_keep_77
    · replace h := it_n c_8 h
      refine lv_bipush (v := (-4)) hx hb dX7_keep_23 (by decide) ?_
      obtain ⟨rfl, rfl⟩ := Prod.mk.inj (Option.some.inj h)
      exact hret _ _ _ _ hP hS dX7_keep_25
  · replace h := it_p c_4 h
    refine lv_iconst (v := (-1)) hx hb dX7_keep_11 (by decide) ?_
    obtain ⟨rfl, rfl⟩ := Prod.mk.inj (Option.some.inj h)
    exact hret _ _ _ _ hP hS dX7_keep_12
def fX7_keep (x1 : Int32) (w : Mm) : Option (Int32 × Mm) := fX7_keep_E x1 w
theorem ctX7_keep (l : Launch) (D : va_G) (c3 : C3) (ad : Nat → Nat) (w : Mm) (sz : Nat) (x1 : Int32) (r : Int32) (w' : Mm) (h : fX7_keep x1 w = some (r, w')) : Ci l yX7_keep wsX7_keep rmX7_keep D c3 (encC c3 ad) gC [.ref (ad 0), .int x1] w sz r w' := by
  refine Ci.of (cc := cX7_keep) (maxL := 2) (encC_ok c3 ad) (by decide) rfl (Nat.le_of_ble_eq_true rfl) ?_
  intro p e s m below meth c A Q ls X hret hP hS hl
  exact bX7_keep_E X hret x1 w _ _ ls hP hS hl h
def rmX5_isThere_17 : Room := { frames := 1, cells := 0, slots := 0, locals := 21 }
def fX5_isThere_17_E (x1 : Int32) (w : Mm) : Option (Int32) := bo (fX5_isNumber_17 x1 w) (fun r_2 => (if r_2 = 0 then some 0 else gd (inb x1 3 = true) ((if (w.1 19 x1.toNatClampNeg) = (-1) then some 0 else some 1))))
set_option maxRecDepth 20000 in
theorem bX5_isThere_17_E {p : Program} {l : Launch} {e : Env} {s : State} {m : MethodId} {args : Array Value} {below : List Frame} {meth : Method} {c : Code} {Q : State → Prop} {D : va_G} {c3 : C3} {ad : Nat → Nat} {A : Nat → Prop} {r : Int32} {w : Mm} (X : Cx p s m args c cX5_isThere 2 RX5 wsX5_isThere D c3 (encC c3 ad) gC A) (hret : Rz p l e (rmX5_isThere_17) s m args below meth c Q cX5_isThere D (encC c3 ad) A r w) : ∀ (x1 : Int32) (H : Heap) (locs : List Loc) (ls : Array Slot), va_P D vwCl ((encC c3 ad) w) H → va_S A s.heap H locs → lv_has ls 2 [(0, .ref (ad 17)), (1, .int x1)] → fX5_isThere_17_E x1 w = some r → W p l e (rmX5_isThere_17) s m args below meth c H locs 0 0 Q (F0 m 0 ls []) := by
  have hx := X.1
  have hb := X.2.1
  have hml := X.2.2.1
  have hown := X.2.2.2.1
  have hts := X.2.2.2.2.1
  intro x1 H locs ls hP hS hl h
  unfold fX5_isThere_17_E at h
  refine lv_aload_n hx hb dX5_isThere_0 rfl (lv_at hl 0 rfl) ?_
  refine lv_iload_n hx hb dX5_isThere_1 rfl (lv_at hl 1 rfl) ?_
  obtain ⟨r_2, e_1, h⟩ := bo_s h
  refine x_goi X hS (x_runV (As := [.int x1]) (rest := []) X gC_ok hP hS (ctX5_isNumber_17 l D c3 ad w _ x1 _ e_1) (cwV 1 hts gX5_isThere_X5_isNumber rfl rfl rfl (by decide +kernel) ⟨by decide, by decide⟩) (gC17 c3 ad w) rfl rfl rfl hl.1 rfl (Nat.le_of_ble_eq_true rfl) dX5_isThere_2) (fun H locs hP hS => ?_)
  refine lv_if_eq (tgt := 22) hx hb dX5_isThere_5 (by decide) (fun c_4 => ?_) (fun c_4 => ?_)
  · replace h := it_p c_4 h
    refine lv_iconst (v := 0) hx hb dX5_isThere_22 (by decide) ?_
    obtain rfl := Option.some.inj h
    exact hret (Or.inl rfl) _ _ _ _ hP hS dX5_isThere_23
  · replace h := it_n c_4 h
    refine lv_aload_n hx hb dX5_isThere_8 rfl (lv_at hl 0 rfl) ?_
    refine x_get (rest := []) X hP (gC17 c3 ad w) rfl iwX5_isThere_X5 1 (by decide) lkX5_isThere_16 rfl dX5_isThere_9 ?_
    refine lv_iload_n hx hb dX5_isThere_12 rfl (lv_at hl 1 rfl) ?_
    obtain ⟨g_5, h⟩ := gd_s h
    refine x_iald X hP (gC19 c3 ad w) g_5 dX5_isThere_13 ?_
    refine lv_iconst (v := (-1)) hx hb dX5_isThere_14 (by decide) ?_
    refine lv_icmp_eq (tgt := 22) hx hb dX5_isThere_15 (by decide) (fun c_6 => ?_) (fun c_6 => ?_)
    · replace h := it_p c_6 h
      refine lv_iconst (v := 0) hx hb dX5_isThere_22 (by decide) ?_
      obtain rfl := Option.some.inj h
      exact hret (Or.inl rfl) _ _ _ _ hP hS dX5_isThere_23
    · replace h := it_n c_6 h
      refine lv_iconst (v := 1) hx hb dX5_isThere_18 (by decide) ?_
      refine lv_goto (tgt := 23) hx hb dX5_isThere_19 (by decide) ?_
      obtain rfl := Option.some.inj h
      exact hret (Or.inr rfl) _ _ _ _ hP hS dX5_isThere_23
def fX5_isThere_17 (x1 : Int32) (w : Mm) : Option (Int32) := fX5_isThere_17_E x1 w
theorem ctX5_isThere_17 (l : Launch) (D : va_G) (c3 : C3) (ad : Nat → Nat) (w : Mm) (sz : Nat) (x1 : Int32) (r : Int32) (h : fX5_isThere_17 x1 w = some r) : Ci l yX5_isThere wsX5_isThere rmX5_isThere_17 D c3 (encC c3 ad) gC [.ref (ad 17), .int x1] w sz r w := by
  refine Ci.ofz (cc := cX5_isThere) (maxL := 2) (encC_ok c3 ad) (by decide) rfl (Nat.le_of_ble_eq_true rfl) ?_
  intro p e s m below meth c A Q ls X hret hP hS hl
  exact bX5_isThere_17_E X hret x1 _ _ ls hP hS hl h
def rmX7_refusalOfRow_0_17 : Room := { frames := 2, cells := 0, slots := 0, locals := 42 }
def fX7_refusalOfRow_0_17_E (x2 : Int32) (w : Mm) : Option (Int32 × Mm) := bo (fX5_isNumber_17 x2 w) (fun r_2 => (if r_2 = 0 then some ((-1), w) else bo (fX5_isThere_17 x2 w) (fun r_6 => (if r_6 = 0 then bd (fX7_refuse 1 w) (fun r_10 w_11 => some (r_10, w_11)) else some (0, w)))))
set_option maxRecDepth 20000 in
theorem bX7_refusalOfRow_0_17_E {p : Program} {l : Launch} {e : Env} {s : State} {m : MethodId} {args : Array Value} {below : List Frame} {meth : Method} {c : Code} {Q : State → Prop} {D : va_G} {c3 : C3} {ad : Nat → Nat} {A : Nat → Prop} {r : Int32} {w' : Mm} (X : Cx p s m args c cX7_refusalOfRow 3 RX7 wsX7_refusalOfRow D c3 (encC c3 ad) gC A) (hret : Ri p l e (rmX7_refusalOfRow_0_17) s m args below meth c Q cX7_refusalOfRow D (encC c3 ad) A r w') : ∀ (x2 : Int32) (w : Mm) (H : Heap) (locs : List Loc) (ls : Array Slot), va_P D vwCl ((encC c3 ad) w) H → va_S A s.heap H locs → lv_has ls 3 [(0, .ref (ad 0)), (1, .ref (ad 17)), (2, .int x2)] → fX7_refusalOfRow_0_17_E x2 w = some (r, w') → W p l e (rmX7_refusalOfRow_0_17) s m args below meth c H locs 0 0 Q (F0 m 0 ls []) := by
  have hx := X.1
  have hb := X.2.1
  have hml := X.2.2.1
  have hown := X.2.2.2.1
  have hts := X.2.2.2.2.1
  intro x2 w H locs ls hP hS hl h
  unfold fX7_refusalOfRow_0_17_E at h
  refine lv_aload_n hx hb dX7_refusalOfRow_0 rfl (lv_at hl 1 rfl) ?_
  refine lv_iload_n hx hb dX7_refusalOfRow_1 rfl (lv_at hl 2 rfl) ?_
  obtain ⟨r_2, e_1, h⟩ := bo_s h
  refine x_goi X hS (x_runV (As := [.int x2]) (rest := []) X gC_ok hP hS (ctX5_isNumber_17 l D c3 ad w _ x2 _ e_1) (cwV 1 hts gX7_refusalOfRow_X5_isNumber rfl rfl rfl (by decide +kernel) ⟨by decide, by decide⟩) (gC17 c3 ad w) rfl rfl rfl hl.1 rfl (Nat.le_of_ble_eq_true rfl) dX7_refusalOfRow_2) (fun H locs hP hS => ?_)
  refine lv_if_ne (tgt := 10) hx hb dX7_refusalOfRow_5 (by decide) (fun c_4 => ?_) (fun c_4 => ?_)
  · replace h := it_n c_4 h
    refine lv_aload_n hx hb dX7_refusalOfRow_10 rfl (lv_at hl 1 rfl) ?_
    refine lv_iload_n hx hb dX7_refusalOfRow_11 rfl (lv_at hl 2 rfl) ?_
    obtain ⟨r_6, e_5, h⟩ := bo_s h
    refine x_goi X hS (x_runV (As := [.int x2]) (rest := []) X gC_ok hP hS (ctX5_isThere_17 l D c3 ad w _ x2 _ e_5) (cwV 1 hts gX7_refusalOfRow_X5_isThere rfl rfl rfl (by decide +kernel) ⟨by decide, by decide⟩) (gC17 c3 ad w) rfl rfl rfl hl.1 rfl (Nat.le_of_ble_eq_true rfl) dX7_refusalOfRow_12) (fun H locs hP hS => ?_)
    refine lv_if_eq (tgt := 22) hx hb dX7_refusalOfRow_15 (by decide) (fun c_8 => ?_) (fun c_8 => ?_)
    · replace h := it_p c_8 h
      refine lv_aload_n hx hb dX7_refusalOfRow_22 rfl (lv_at hl 0 rfl) ?_
      refine lv_iconst (v := 1) hx hb dX7_refusalOfRow_23 (by decide) ?_
      obtain ⟨r_10, w_11, e_9, h⟩ := bd_s h
      refine x_goi X hS (x_runV (As := [.int 1]) (rest := []) X gC_ok hP hS (ctX7_refuse l D c3 ad w _ 1 _ _ e_9) (cwV 1 hts gX7_refusalOfRow_X7_refuse rfl rfl rfl (by decide +kernel) ⟨by decide, by decide⟩) (gC0 c3 ad w) rfl rfl rfl hl.1 rfl (Nat.le_of_ble_eq_true rfl) dX7_refusalOfRow_24) (fun H locs hP hS => ?_)
      obtain ⟨rfl, rfl⟩ := Prod.mk.inj (Option.some.inj h)
      exact hret _ _ _ _ hP hS dX7_refusalOfRow_27
    · replace h := it_n c_8 h
      refine lv_iconst (v := 0) hx hb dX7_refusalOfRow_18 (by decide) ?_
      refine lv_goto (tgt := 27) hx hb dX7_refusalOfRow_19 (by decide) ?_
      obtain ⟨rfl, rfl⟩ := Prod.mk.inj (Option.some.inj h)
      exact hret _ _ _ _ hP hS dX7_refusalOfRow_27
  · replace h := it_p c_4 h
    refine lv_iconst (v := (-1)) hx hb dX7_refusalOfRow_8 (by decide) ?_
    obtain ⟨rfl, rfl⟩ := Prod.mk.inj (Option.some.inj h)
    exact hret _ _ _ _ hP hS dX7_refusalOfRow_9
def fX7_refusalOfRow_0_17 (x2 : Int32) (w : Mm) : Option (Int32 × Mm) := fX7_refusalOfRow_0_17_E x2 w
theorem ctX7_refusalOfRow_0_17 (l : Launch) (D : va_G) (c3 : C3) (ad : Nat → Nat) (w : Mm) (sz : Nat) (x2 : Int32) (r : Int32) (w' : Mm) (h : fX7_refusalOfRow_0_17 x2 w = some (r, w')) : Ci l yX7_refusalOfRow wsX7_refusalOfRow rmX7_refusalOfRow_0_17 D c3 (encC c3 ad) gC [.ref (ad 0), .ref (ad 17), .int x2] w sz r w' := by
  refine Ci.of (cc := cX7_refusalOfRow) (maxL := 3) (encC_ok c3 ad) (by decide) rfl (Nat.le_of_ble_eq_true rfl) ?_
  intro p e s m below meth c A Q ls X hret hP hS hl
  exact bX7_refusalOfRow_0_17_E X hret x2 w _ _ ls hP hS hl h
theorem iwX7_on_X2 : ∀ w ∈ wsX20, w ∈ wsX7_on := fun _ h => List.mem_cons_of_mem _ (List.mem_append_right _ h)
theorem iwX7_on_X5 : ∀ w ∈ wsX50, w ∈ wsX7_on := fun _ h => List.mem_cons_of_mem _ (List.mem_append_left _ (List.mem_append_right _ h))
theorem iwX7_on_X7 : ∀ w ∈ wsX70, w ∈ wsX7_on := fun _ h => List.mem_cons_of_mem _ (List.mem_append_left _ (List.mem_append_left _ (List.mem_append_right _ h)))
theorem lkX7_on_21 : Cond.fieldLink RX7 21 "StuckDoor" "kept" "LStuckDoor$Rows;" ∈ wsX7_on := by decide +kernel
theorem lkX7_on_27 : Cond.fieldLink RX7 27 "StuckDoor" "family" "LStuckDoor$Family;" ∈ wsX7_on := by decide +kernel
theorem lkX7_on_86 : Cond.fieldLink RX7 86 "StuckDoor$Rows" "places" "[[I" ∈ wsX7_on := by decide +kernel
theorem lkX7_on_94 : Cond.fieldLink RX7 94 "StuckDoor$Rows" "sizes" "[I" ∈ wsX7_on := by decide +kernel
theorem lkX7_on_168 : Cond.fieldLink RX7 168 "StuckDoor$Family" "deeds" "I" ∈ wsX7_on := by decide +kernel
theorem lkX7_on_187 : Cond.fieldLink RX7 187 "StuckDoor$Family" "deed" "[I" ∈ wsX7_on := by decide +kernel
def rmX7_on : Room := { frames := 6, cells := 0, slots := 0, locals := 132 }
def fX7_on_E (x1 : Int32) (w : Mm) : Option (Int32 × Mm) := bd (fX7_refusalOfRow_0_17 x1 w) (fun r_2 w_3 => (if r_2 = 0 then gd (inb x1 3 = true) (gd (¬ (0 : Int32) < 0 ∧ ¬ (0 : Int32) < 0 ∧ ¬ (w_3.1 19 x1.toNatClampNeg) < 0 ∧ (0 : Int32).toNatClampNeg + (w_3.1 19 x1.toNatClampNeg).toNatClampNeg ≤ 40 ∧ (0 : Int32).toNatClampNeg + (w_3.1 19 x1.toNatClampNeg).toNatClampNeg ≤ 40) (nm (sF w_3 29 (va_cpy (w_3.1 (20 + x1.toNatClampNeg)) (w_3.1 29) (0 : Int32).toNatClampNeg (0 : Int32).toNatClampNeg (w_3.1 19 x1.toNatClampNeg).toNatClampNeg)) (fun w_8 => bo (fX2_goBackTo_23 (w_8.1 19 x1.toNatClampNeg) w_8) (fun w_11 => some ((w_11.1 23 11), w_11))))) else some (r_2, w_3)))
set_option maxRecDepth 20000 in
theorem bX7_on_E {p : Program} {l : Launch} {e : Env} {s : State} {m : MethodId} {args : Array Value} {below : List Frame} {meth : Method} {c : Code} {Q : State → Prop} {D : va_G} {c3 : C3} {ad : Nat → Nat} {A : Nat → Prop} {r : Int32} {w' : Mm} (X : Cx p s m args c cX7_on 3 RX7 wsX7_on D c3 (encC c3 ad) gC A) (hret : Ri p l e (rmX7_on) s m args below meth c Q cX7_on D (encC c3 ad) A r w') : ∀ (x1 : Int32) (w : Mm) (H : Heap) (locs : List Loc) (ls : Array Slot), va_P D vwCl ((encC c3 ad) w) H → va_S A s.heap H locs → lv_has ls 3 [(0, .ref (ad 0)), (1, .int x1)] → fX7_on_E x1 w = some (r, w') → W p l e (rmX7_on) s m args below meth c H locs 0 0 Q (F0 m 0 ls []) := by
  have hx := X.1
  have hb := X.2.1
  have hml := X.2.2.1
  have hown := X.2.2.2.1
  have hts := X.2.2.2.2.1
  intro x1 w H locs ls hP hS hl h
  unfold fX7_on_E at h
  refine lv_aload_n hx hb dX7_on_0 rfl (lv_at hl 0 rfl) ?_
  refine lv_aload_n hx hb dX7_on_1 rfl (lv_at hl 0 rfl) ?_
  refine x_get (rest := [.ref (ad 0)]) X hP (gC0 c3 ad w) rfl iwX7_on_X7 2 (by decide) lkX7_on_21 rfl dX7_on_2 ?_
  refine lv_iload_n hx hb dX7_on_5 rfl (lv_at hl 1 rfl) ?_
  obtain ⟨r_2, w_3, e_1, h⟩ := bd_s h
  refine x_goi X hS (x_runV (As := [.ref (ad 17), .int x1]) (rest := []) X gC_ok hP hS (ctX7_refusalOfRow_0_17 l D c3 ad w _ x1 _ _ e_1) (cwV 2 hts gX7_on_X7_refusalOfRow rfl rfl rfl (by decide +kernel) ⟨by decide, by decide⟩) (gC0 c3 ad w) rfl rfl rfl hl.1 rfl (Nat.le_of_ble_eq_true rfl) dX7_on_6) (fun H locs hP hS => ?_)
  refine lv_istore_n (lv' := [(2, .int r_2), (0, .ref (ad 0)), (1, .int x1)]) hx hb dX7_on_9 rfl hl (by decide) rfl (fun ls hl => ?_)
  refine lv_iload_n hx hb dX7_on_10 rfl (lv_at hl 0 rfl) ?_
  refine lv_if_eq (tgt := 16) hx hb dX7_on_11 (by decide) (fun c_4 => ?_) (fun c_4 => ?_)
  · replace h := it_p c_4 h
    refine lv_aload_n hx hb dX7_on_16 rfl (lv_at hl 1 rfl) ?_
    refine x_get (rest := []) X hP (gC0 c3 ad w_3) rfl iwX7_on_X7 2 (by decide) lkX7_on_21 rfl dX7_on_17 ?_
    refine x_get (rest := []) X hP (gC17 c3 ad w_3) rfl iwX7_on_X5 0 (by decide) lkX7_on_86 rfl dX7_on_20 ?_
    refine lv_iload_n hx hb dX7_on_23 rfl (lv_at hl 2 rfl) ?_
    obtain ⟨g_5, h⟩ := gd_s h
    have q_6 := rgn 20 g_5
    refine x_aald (z := ad (20 + x1.toNatClampNeg)) X hP (gC18 c3 ad w_3) g_5 rfl dX7_on_24 ?_
    refine lv_iconst (v := 0) hx hb dX7_on_25 (by decide) ?_
    refine lv_aload_n hx hb dX7_on_26 rfl (lv_at hl 1 rfl) ?_
    refine x_get (rest := [.int 0, .ref (ad (20 + x1.toNatClampNeg))]) X hP (gC0 c3 ad w_3) rfl iwX7_on_X7 3 (by decide) lkX7_on_27 rfl dX7_on_27 ?_
    refine x_get (rest := [.int 0, .ref (ad (20 + x1.toNatClampNeg))]) X hP (gC23 c3 ad w_3) rfl iwX7_on_X2 12 (by decide) lkX7_on_187 rfl dX7_on_30 ?_
    refine lv_iconst (v := 0) hx hb dX7_on_33 (by decide) ?_
    refine lv_aload_n hx hb dX7_on_34 rfl (lv_at hl 1 rfl) ?_
    refine x_get (rest := [.int 0, .ref (ad 29), .int 0, .ref (ad (20 + x1.toNatClampNeg))]) X hP (gC0 c3 ad w_3) rfl iwX7_on_X7 2 (by decide) lkX7_on_21 rfl dX7_on_35 ?_
    refine x_get (rest := [.int 0, .ref (ad 29), .int 0, .ref (ad (20 + x1.toNatClampNeg))]) X hP (gC17 c3 ad w_3) rfl iwX7_on_X5 1 (by decide) lkX7_on_94 rfl dX7_on_38 ?_
    refine lv_iload_n hx hb dX7_on_41 rfl (lv_at hl 2 rfl) ?_
    refine x_iald X hP (gC19 c3 ad w_3) g_5 dX7_on_42 ?_
    obtain ⟨g_7, h⟩ := gd_s h
    refine x_copy X hP hS (gCrK c3 ad w_3 q_6) (gC29 c3 ad w_3) (tC29 c3 ad w_3 _) g_7 (by rw [hml]; exact hl.1.symm) (hts (.methodLink RX7 104 arraycopyName) (by decide +kernel)) (hts (.native arraycopyName) (by decide +kernel)) (hts (.static arraycopyName) (by decide +kernel)) (hts (.initialized "java/lang/System") (by decide +kernel)) (Nat.le_of_ble_eq_true rfl) (Nat.le_of_ble_eq_true rfl) dX7_on_43 (fun H locs hP hS => ?_)
    refine x_nmw h hP (fun w_8 h hP => ?_)
    refine lv_aload_n hx hb dX7_on_46 rfl (lv_at hl 1 rfl) ?_
    refine x_get (rest := []) X hP (gC0 c3 ad w_8) rfl iwX7_on_X7 3 (by decide) lkX7_on_27 rfl dX7_on_47 ?_
    refine lv_aload_n hx hb dX7_on_50 rfl (lv_at hl 1 rfl) ?_
    refine x_get (rest := [.ref (ad 23)]) X hP (gC0 c3 ad w_8) rfl iwX7_on_X7 2 (by decide) lkX7_on_21 rfl dX7_on_51 ?_
    refine x_get (rest := [.ref (ad 23)]) X hP (gC17 c3 ad w_8) rfl iwX7_on_X5 1 (by decide) lkX7_on_94 rfl dX7_on_54 ?_
    refine lv_iload_n hx hb dX7_on_57 rfl (lv_at hl 2 rfl) ?_
    refine x_iald X hP (gC19 c3 ad w_8) g_5 dX7_on_58 ?_
    obtain ⟨w_11, e_9, h⟩ := bo_s h
    refine x_gov X hS (x_runV (As := [.int (w_8.1 19 x1.toNatClampNeg)]) (rest := []) X gC_ok hP hS (ctX2_goBackTo_23 l D c3 ad w_8 _ (w_8.1 19 x1.toNatClampNeg) _ e_9) (cwV 1 hts gX7_on_X2_goBackTo rfl rfl rfl (by decide +kernel) ⟨by decide, by decide⟩) (gC23 c3 ad w_8) rfl rfl rfl hl.1 rfl (Nat.le_of_ble_eq_true rfl) dX7_on_59) (fun H locs hP hS => ?_)
    refine lv_aload_n hx hb dX7_on_62 rfl (lv_at hl 1 rfl) ?_
    refine x_get (rest := []) X hP (gC0 c3 ad w_11) rfl iwX7_on_X7 3 (by decide) lkX7_on_27 rfl dX7_on_63 ?_
    refine x_get (rest := []) X hP (gC23 c3 ad w_11) rfl iwX7_on_X2 11 (by decide) lkX7_on_168 rfl dX7_on_66 ?_
    obtain ⟨rfl, rfl⟩ := Prod.mk.inj (Option.some.inj h)
    exact hret _ _ _ _ hP hS dX7_on_69
  · replace h := it_n c_4 h
    refine lv_iload_n hx hb dX7_on_14 rfl (lv_at hl 0 rfl) ?_
    obtain ⟨rfl, rfl⟩ := Prod.mk.inj (Option.some.inj h)
    exact hret _ _ _ _ hP hS dX7_on_15
def fX7_on (x1 : Int32) (w : Mm) : Option (Int32 × Mm) := fX7_on_E x1 w
theorem ctX7_on (l : Launch) (D : va_G) (c3 : C3) (ad : Nat → Nat) (w : Mm) (sz : Nat) (x1 : Int32) (r : Int32) (w' : Mm) (h : fX7_on x1 w = some (r, w')) : Ci l yX7_on wsX7_on rmX7_on D c3 (encC c3 ad) gC [.ref (ad 0), .int x1] w sz r w' := by
  refine Ci.of (cc := cX7_on) (maxL := 3) (encC_ok c3 ad) (by decide) rfl (Nat.le_of_ble_eq_true rfl) ?_
  intro p e s m below meth c A Q ls X hret hP hS hl
  exact bX7_on_E X hret x1 w _ _ ls hP hS hl h
theorem iwX2_whatCanBeSaid_X2 : ∀ w ∈ wsX20, w ∈ wsX2_whatCanBeSaid := fun _ h => List.mem_cons_of_mem _ (List.mem_append_right _ h)
theorem lkX2_whatCanBeSaid_19 : Cond.fieldLink RX2 19 "StuckDoor$Family" "sayings" "I" ∈ wsX2_whatCanBeSaid := by decide +kernel
def rmX2_whatCanBeSaid_23 : Room := { frames := 4, cells := 0, slots := 0, locals := 87 }
def fX2_whatCanBeSaid_23_34 (k4 : Int32 → Int32 → Option (Int32)) (x1 : Int32) (x2 : Int32) (x3 : Int32) (w : Mm) : Option (Int32) := k4 x2 (x3 + 1)
set_option maxRecDepth 20000 in
theorem bX2_whatCanBeSaid_23_34 {p : Program} {l : Launch} {e : Env} {s : State} {m : MethodId} {args : Array Value} {below : List Frame} {meth : Method} {c : Code} {Q : State → Prop} {D : va_G} {c3 : C3} {ad : Nat → Nat} {A : Nat → Prop} {r : Int32} {w : Mm} (X : Cx p s m args c cX2_whatCanBeSaid 4 RX2 wsX2_whatCanBeSaid D c3 (encC c3 ad) gC A) (hret : Ri p l e (rmX2_whatCanBeSaid_23) s m args below meth c Q cX2_whatCanBeSaid D (encC c3 ad) A r w) {x1 : Int32} {k4 : Int32 → Int32 → Option (Int32)} (hk4 : ∀ (x2 : Int32) (x3 : Int32) (H : Heap) (locs : List Loc) (ls : Array Slot), va_P D vwCl ((encC c3 ad) w) H → va_S A s.heap H locs → lv_has ls 4 [(0, .ref (ad 23)), (1, .int x1), (2, .int x2), (3, .int x3)] → k4 x2 x3 = some r → W p l e (rmX2_whatCanBeSaid_23) s m args below meth c H locs 0 0 Q (F0 m 4 ls [])) : ∀ (x2 : Int32) (x3 : Int32) (H : Heap) (locs : List Loc) (ls : Array Slot), va_P D vwCl ((encC c3 ad) w) H → va_S A s.heap H locs → lv_has ls 4 [(0, .ref (ad 23)), (1, .int x1), (2, .int x2), (3, .int x3)] → fX2_whatCanBeSaid_23_34 k4 x1 x2 x3 w = some r → W p l e (rmX2_whatCanBeSaid_23) s m args below meth c H locs 0 0 Q (F0 m 34 ls []) := by
  have hx := X.1
  have hb := X.2.1
  have hml := X.2.2.1
  have hown := X.2.2.2.1
  have hts := X.2.2.2.2.1
  intro x2 x3 H locs ls hP hS hl h
  unfold fX2_whatCanBeSaid_23_34 at h
  refine lv_iinc (v := (x3 + 1)) (lv' := [(3, .int (x3 + 1)), (0, .ref (ad 23)), (1, .int x1), (2, .int x2)]) hx hb dX2_whatCanBeSaid_34 hl (k := 3) rfl rfl (by decide) rfl (fun ls hl => ?_)
  refine lv_goto (tgt := 4) hx hb dX2_whatCanBeSaid_37 (by decide) ?_
  exact hk4 x2 (x3 + 1) _ _ _ hP hS (lv_sub hl [1, 2, 3, 0] rfl) h
def fX2_whatCanBeSaid_23_4 (x1 : Int32) (w : Mm) : Nat → Int32 → Int32 → Option (Int32)
  | 0, _, _ => none
  | n + 1, x2, x3 => (if (w.1 23 2) ≤ x3 then some x2 else bo (fX2_isAnyOver_23 w) (fun r_3 => (if r_3 = 0 then bo (fX2_bearsSaying_23 x1 x3 w) (fun r_7 => (if r_7 = 0 then fX2_whatCanBeSaid_23_34 (fX2_whatCanBeSaid_23_4 x1 w n) x1 x2 x3 w else nm (x2 ||| (1 <<< (x3 &&& 31))) (fun x2_10 => fX2_whatCanBeSaid_23_34 (fX2_whatCanBeSaid_23_4 x1 w n) x1 x2_10 x3 w))) else some x2)))
set_option maxRecDepth 20000 in
theorem bX2_whatCanBeSaid_23_4 {p : Program} {l : Launch} {e : Env} {s : State} {m : MethodId} {args : Array Value} {below : List Frame} {meth : Method} {c : Code} {Q : State → Prop} {D : va_G} {c3 : C3} {ad : Nat → Nat} {A : Nat → Prop} {r : Int32} {w : Mm} (X : Cx p s m args c cX2_whatCanBeSaid 4 RX2 wsX2_whatCanBeSaid D c3 (encC c3 ad) gC A) (hret : Ri p l e (rmX2_whatCanBeSaid_23) s m args below meth c Q cX2_whatCanBeSaid D (encC c3 ad) A r w) : ∀ (x1 : Int32) (n : Nat) (x2 : Int32) (x3 : Int32) (H : Heap) (locs : List Loc) (ls : Array Slot), va_P D vwCl ((encC c3 ad) w) H → va_S A s.heap H locs → lv_has ls 4 [(0, .ref (ad 23)), (1, .int x1), (2, .int x2), (3, .int x3)] → fX2_whatCanBeSaid_23_4 x1 w n x2 x3 = some r → W p l e (rmX2_whatCanBeSaid_23) s m args below meth c H locs 0 0 Q (F0 m 4 ls []) := by
  have hx := X.1
  have hb := X.2.1
  have hml := X.2.2.1
  have hown := X.2.2.2.1
  have hts := X.2.2.2.2.1
  intro x1 n
  induction n with
  | zero =>
    intro x2 x3 H locs ls hP hS hl h
    exact absurd h (by simp [fX2_whatCanBeSaid_23_4])
  | succ n ih =>
    intro x2 x3 H locs ls hP hS hl h
    rw [fX2_whatCanBeSaid_23_4] at h
    refine lv_iload_n hx hb dX2_whatCanBeSaid_4 rfl (lv_at hl 3 rfl) ?_
    refine lv_aload_n hx hb dX2_whatCanBeSaid_5 rfl (lv_at hl 0 rfl) ?_
    refine x_get (rest := [.int x3]) X hP (gC23 c3 ad w) rfl iwX2_whatCanBeSaid_X2 2 (by decide) lkX2_whatCanBeSaid_19 rfl dX2_whatCanBeSaid_6 ?_
    refine lv_icmp_ge (tgt := 40) hx hb dX2_whatCanBeSaid_9 (by decide) (fun c_1 => ?_) (fun c_1 => ?_)
    · replace h := it_p c_1 h
      refine lv_iload_n hx hb dX2_whatCanBeSaid_40 rfl (lv_at hl 2 rfl) ?_
      obtain rfl := Option.some.inj h
      exact hret _ _ _ _ hP hS dX2_whatCanBeSaid_41
    · replace h := it_n c_1 h
      refine lv_aload_n hx hb dX2_whatCanBeSaid_12 rfl (lv_at hl 0 rfl) ?_
      obtain ⟨r_3, e_2, h⟩ := bo_s h
      refine x_goi X hS (x_runV (As := []) (rest := []) X gC_ok hP hS (ctX2_isAnyOver_23 l D c3 ad w _ _ e_2) (cwV 0 hts gX2_whatCanBeSaid_X2_isAnyOver rfl rfl rfl (by decide +kernel) ⟨by decide, by decide⟩) (gC23 c3 ad w) rfl rfl rfl hl.1 rfl (Nat.le_of_ble_eq_true rfl) dX2_whatCanBeSaid_13) (fun H locs hP hS => ?_)
      refine lv_if_ne (tgt := 40) hx hb dX2_whatCanBeSaid_16 (by decide) (fun c_5 => ?_) (fun c_5 => ?_)
      · replace h := it_n c_5 h
        refine lv_iload_n hx hb dX2_whatCanBeSaid_40 rfl (lv_at hl 2 rfl) ?_
        obtain rfl := Option.some.inj h
        exact hret _ _ _ _ hP hS dX2_whatCanBeSaid_41
      · replace h := it_p c_5 h
        refine lv_aload_n hx hb dX2_whatCanBeSaid_19 rfl (lv_at hl 0 rfl) ?_
        refine lv_iload_n hx hb dX2_whatCanBeSaid_20 rfl (lv_at hl 1 rfl) ?_
        refine lv_iload_n hx hb dX2_whatCanBeSaid_21 rfl (lv_at hl 3 rfl) ?_
        obtain ⟨r_7, e_6, h⟩ := bo_s h
        refine x_goi X hS (x_runV (As := [.int x1, .int x3]) (rest := []) X gC_ok hP hS (ctX2_bearsSaying_23 l D c3 ad w _ x1 x3 _ e_6) (cwV 2 hts gX2_whatCanBeSaid_X2_bearsSaying rfl rfl rfl (by decide +kernel) ⟨by decide, by decide⟩) (gC23 c3 ad w) rfl rfl rfl hl.1 rfl (Nat.le_of_ble_eq_true rfl) dX2_whatCanBeSaid_22) (fun H locs hP hS => ?_)
        refine lv_if_eq (tgt := 34) hx hb dX2_whatCanBeSaid_25 (by decide) (fun c_9 => ?_) (fun c_9 => ?_)
        · replace h := it_p c_9 h
          exact bX2_whatCanBeSaid_23_34 (x1 := x1) (k4 := (fX2_whatCanBeSaid_23_4 x1 w n)) X hret ih x2 x3 _ _ _ hP hS (lv_sub hl [0, 1, 2, 3] rfl) h
        · replace h := it_n c_9 h
          refine lv_iload_n hx hb dX2_whatCanBeSaid_28 rfl (lv_at hl 2 rfl) ?_
          refine lv_iconst (v := 1) hx hb dX2_whatCanBeSaid_29 (by decide) ?_
          refine lv_iload_n hx hb dX2_whatCanBeSaid_30 rfl (lv_at hl 3 rfl) ?_
          refine lv_ishl hx hb dX2_whatCanBeSaid_31 ?_
          refine lv_ior hx hb dX2_whatCanBeSaid_32 ?_
          refine x_nmi h (fun x2_10 h => ?_)
          refine lv_istore_n (lv' := [(2, .int x2_10), (0, .ref (ad 23)), (1, .int x1), (3, .int x3)]) hx hb dX2_whatCanBeSaid_33 rfl hl (by decide) rfl (fun ls hl => ?_)
          exact bX2_whatCanBeSaid_23_34 (x1 := x1) (k4 := (fX2_whatCanBeSaid_23_4 x1 w n)) X hret ih x2_10 x3 _ _ _ hP hS (lv_sub hl [1, 2, 0, 3] rfl) h
def fX2_whatCanBeSaid_23_E (x1 : Int32) (w : Mm) : Option (Int32) := fX2_whatCanBeSaid_23_4 x1 w FU 0 0
set_option maxRecDepth 20000 in
theorem bX2_whatCanBeSaid_23_E {p : Program} {l : Launch} {e : Env} {s : State} {m : MethodId} {args : Array Value} {below : List Frame} {meth : Method} {c : Code} {Q : State → Prop} {D : va_G} {c3 : C3} {ad : Nat → Nat} {A : Nat → Prop} {r : Int32} {w : Mm} (X : Cx p s m args c cX2_whatCanBeSaid 4 RX2 wsX2_whatCanBeSaid D c3 (encC c3 ad) gC A) (hret : Ri p l e (rmX2_whatCanBeSaid_23) s m args below meth c Q cX2_whatCanBeSaid D (encC c3 ad) A r w) : ∀ (x1 : Int32) (H : Heap) (locs : List Loc) (ls : Array Slot), va_P D vwCl ((encC c3 ad) w) H → va_S A s.heap H locs → lv_has ls 4 [(0, .ref (ad 23)), (1, .int x1)] → fX2_whatCanBeSaid_23_E x1 w = some r → W p l e (rmX2_whatCanBeSaid_23) s m args below meth c H locs 0 0 Q (F0 m 0 ls []) := by
  have hx := X.1
  have hb := X.2.1
  have hml := X.2.2.1
  have hown := X.2.2.2.1
  have hts := X.2.2.2.2.1
  intro x1 H locs ls hP hS hl h
  unfold fX2_whatCanBeSaid_23_E at h
  refine lv_iconst (v := 0) hx hb dX2_whatCanBeSaid_0 (by decide) ?_
  refine lv_istore_n (lv' := [(2, .int 0), (0, .ref (ad 23)), (1, .int x1)]) hx hb dX2_whatCanBeSaid_1 rfl hl (by decide) rfl (fun ls hl => ?_)
  refine lv_iconst (v := 0) hx hb dX2_whatCanBeSaid_2 (by decide) ?_
  refine lv_istore_n (lv' := [(3, .int 0), (2, .int 0), (0, .ref (ad 23)), (1, .int x1)]) hx hb dX2_whatCanBeSaid_3 rfl hl (by decide) rfl (fun ls hl => ?_)
  exact bX2_whatCanBeSaid_23_4 X hret x1 FU 0 0 _ _ _ hP hS (lv_sub hl [2, 3, 1, 0] rfl) h
def fX2_whatCanBeSaid_23 (x1 : Int32) (w : Mm) : Option (Int32) := fX2_whatCanBeSaid_23_E x1 w
theorem ctX2_whatCanBeSaid_23 (l : Launch) (D : va_G) (c3 : C3) (ad : Nat → Nat) (w : Mm) (sz : Nat) (x1 : Int32) (r : Int32) (h : fX2_whatCanBeSaid_23 x1 w = some r) : Ci l yX2_whatCanBeSaid wsX2_whatCanBeSaid rmX2_whatCanBeSaid_23 D c3 (encC c3 ad) gC [.ref (ad 23), .int x1] w sz r w := by
  refine Ci.of (cc := cX2_whatCanBeSaid) (maxL := 4) (encC_ok c3 ad) (by decide) rfl (Nat.le_of_ble_eq_true rfl) ?_
  intro p e s m below meth c A Q ls X hret hP hS hl
  exact bX2_whatCanBeSaid_23_E X hret x1 _ _ ls hP hS hl h

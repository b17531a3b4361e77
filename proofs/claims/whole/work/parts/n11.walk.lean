def rmX5_mixInto_10 : Room := { frames := 0, cells := 0, slots := 0, locals := 0 }
def fX5_mixInto_10_33 (k5 : Int64 → Int32 → Option (Int64)) (x5 : Int32) (w : Mm) : Nat → Int64 → Int32 → Option (Int64)
  | 0, _, _ => none
  | n + 1, y3, x6 => gd (inb x5 4 = true) ((if (w.1 12 x5.toNatClampNeg) ≤ x6 then k5 y3 (x5 + 1) else gd (inb x6 60 = true) (nm ((31 * y3) + ((w.1 (13 + x5.toNatClampNeg) x6.toNatClampNeg).toInt64)) (fun y3_5 => fX5_mixInto_10_33 k5 x5 w n y3_5 (x6 + 1)))))
set_option maxRecDepth 20000 in
theorem bX5_mixInto_10_33 {p : Program} {l : Launch} {e : Env} {s : State} {m : MethodId} {args : Array Value} {below : List Frame} {meth : Method} {c : Code} {Q : State → Prop} {D : va_G} {c3 : C3} {ad : Nat → Nat} {A : Nat → Prop} {r : Int64} {w : Mm} (X : Cx p s m args c cX5_mixInto 7 RX5 wsX5_mixInto D c3 (encC c3 ad) gC A) (hret : Rl p l e (rmX5_mixInto_10) s m args below meth c Q cX5_mixInto D (encC c3 ad) A r w) {k5 : Int64 → Int32 → Option (Int64)} (hk5 : ∀ (y3 : Int64) (x5 : Int32) (H : Heap) (locs : List Loc) (ls : Array Slot), va_P D vwCl ((encC c3 ad) w) H → va_S A s.heap H locs → lv_has ls 7 [(0, .ref (ad 10)), (3, .long y3), (5, .int x5)] → k5 y3 x5 = some r → W p l e (rmX5_mixInto_10) s m args below meth c H locs 0 0 Q (F0 m 5 ls [])) : ∀ (x5 : Int32) (n : Nat) (y3 : Int64) (x6 : Int32) (H : Heap) (locs : List Loc) (ls : Array Slot), va_P D vwCl ((encC c3 ad) w) H → va_S A s.heap H locs → lv_has ls 7 [(0, .ref (ad 10)), (3, .long y3), (5, .int x5), (6, .int x6)] → fX5_mixInto_10_33 k5 x5 w n y3 x6 = some r → W p l e (rmX5_mixInto_10) s m args below meth c H locs 0 0 Q (F0 m 33 ls []) := by
  have hx := X.1
  have hb := X.2.1
  have hml := X.2.2.1
  have hown := X.2.2.2.1
  have hts := X.2.2.2.2.1
  intro x5 n
  induction n with
  | zero =>
    intro y3 x6 H locs ls hP hS hl h
    exact absurd h (by simp [fX5_mixInto_10_33])
  | succ n ih =>
    intro y3 x6 H locs ls hP hS hl h
    rw [fX5_mixInto_10_33] at h
    refine lv_iload hx hb dX5_mixInto_33 (lv_at hl 3 rfl) ?_
    refine lv_aload_n hx hb dX5_mixInto_35 rfl (lv_at hl 0 rfl) ?_
    refine x_get (rest := [.int x6]) X hP (gC10 c3 ad w) rfl iwX5_mixInto_X5 1 (by decide) lkX5_mixInto_16 rfl dX5_mixInto_36 ?_
    refine lv_iload hx hb dX5_mixInto_39 (lv_at hl 2 rfl) ?_
    obtain ⟨g_1, h⟩ := gd_s h
    refine x_iald X hP (gC12 c3 ad w) g_1 dX5_mixInto_41 ?_
    refine lv_icmp_ge (tgt := 69) hx hb dX5_mixInto_42 (by decide) (fun c_2 => ?_) (fun c_2 => ?_)
    · replace h := it_p c_2 h
      refine lv_iinc (v := (x5 + 1)) (lv' := [(5, .int (x5 + 1)), (0, .ref (ad 10)), (3, .long y3), (6, .int x6)]) hx hb dX5_mixInto_69 hl (k := 2) rfl rfl (by decide) rfl (fun ls hl => ?_)
      refine lv_goto (tgt := 5) hx hb dX5_mixInto_72 (by decide) ?_
      exact hk5 y3 (x5 + 1) _ _ _ hP hS (lv_sub hl [1, 2, 0] rfl) h
    · replace h := it_n c_2 h
      refine lv_ldc2 (v := 31) hx hb hown (hts (.constantLong RX5 33 (31)) (by decide +kernel)) dX5_mixInto_45 ?_
      refine lv_lload_n hx hb dX5_mixInto_48 rfl (lv_at hl 1 rfl) ?_
      refine lv_lmul hx hb dX5_mixInto_49 ?_
      refine lv_aload_n hx hb dX5_mixInto_50 rfl (lv_at hl 0 rfl) ?_
      refine x_get (rest := [.long (31 * y3)]) X hP (gC10 c3 ad w) rfl iwX5_mixInto_X5 0 (by decide) lkX5_mixInto_11 rfl dX5_mixInto_51 ?_
      refine lv_iload hx hb dX5_mixInto_54 (lv_at hl 2 rfl) ?_
      have q_3 := rgn 13 g_1
      refine x_aald (z := ad (13 + x5.toNatClampNeg)) X hP (gC11 c3 ad w) g_1 rfl dX5_mixInto_56 ?_
      refine lv_iload hx hb dX5_mixInto_57 (lv_at hl 3 rfl) ?_
      obtain ⟨g_4, h⟩ := gd_s h
      refine x_iald X hP (gCrT c3 ad w q_3) g_4 dX5_mixInto_59 ?_
      refine lv_i2l (v := (w.1 (13 + x5.toNatClampNeg) x6.toNatClampNeg).toInt64) hx hb dX5_mixInto_60 rfl ?_
      refine lv_ladd hx hb dX5_mixInto_61 ?_
      refine x_nml h (fun y3_5 h => ?_)
      refine lv_lstore_n (lv' := [(3, .long y3_5), (0, .ref (ad 10)), (5, .int x5), (6, .int x6)]) hx hb dX5_mixInto_62 rfl hl (by decide) rfl (fun ls hl => ?_)
      refine lv_iinc (v := (x6 + 1)) (lv' := [(6, .int (x6 + 1)), (3, .long y3_5), (0, .ref (ad 10)), (5, .int x5)]) hx hb dX5_mixInto_63 hl (k := 3) rfl rfl (by decide) rfl (fun ls hl => ?_)
      refine lv_goto (tgt := 33) hx hb dX5_mixInto_66 (by decide) ?_
      exact ih y3_5 (x6 + 1) _ _ _ hP hS (lv_sub hl [2, 1, 3, 0] rfl) h
def fX5_mixInto_10_5 (w : Mm) : Nat → Int64 → Int32 → Option (Int64)
  | 0, _, _ => none
  | n + 1, y3, x5 => (if 4 ≤ x5 then some y3 else gd (inb x5 4 = true) (nm ((31 * y3) + ((w.1 12 x5.toNatClampNeg).toInt64)) (fun y3_8 => fX5_mixInto_10_33 (fX5_mixInto_10_5 w n) x5 w FU y3_8 0)))
set_option maxRecDepth 20000 in
theorem bX5_mixInto_10_5 {p : Program} {l : Launch} {e : Env} {s : State} {m : MethodId} {args : Array Value} {below : List Frame} {meth : Method} {c : Code} {Q : State → Prop} {D : va_G} {c3 : C3} {ad : Nat → Nat} {A : Nat → Prop} {r : Int64} {w : Mm} (X : Cx p s m args c cX5_mixInto 7 RX5 wsX5_mixInto D c3 (encC c3 ad) gC A) (hret : Rl p l e (rmX5_mixInto_10) s m args below meth c Q cX5_mixInto D (encC c3 ad) A r w) : ∀ (n : Nat) (y3 : Int64) (x5 : Int32) (H : Heap) (locs : List Loc) (ls : Array Slot), va_P D vwCl ((encC c3 ad) w) H → va_S A s.heap H locs → lv_has ls 7 [(0, .ref (ad 10)), (3, .long y3), (5, .int x5)] → fX5_mixInto_10_5 w n y3 x5 = some r → W p l e (rmX5_mixInto_10) s m args below meth c H locs 0 0 Q (F0 m 5 ls []) := by
  have hx := X.1
  have hb := X.2.1
  have hml := X.2.2.1
  have hown := X.2.2.2.1
  have hts := X.2.2.2.2.1
  intro n
  induction n with
  | zero =>
    intro y3 x5 H locs ls hP hS hl h
    exact absurd h (by simp [fX5_mixInto_10_5])
  | succ n ih =>
    intro y3 x5 H locs ls hP hS hl h
    rw [fX5_mixInto_10_5] at h
    refine lv_iload hx hb dX5_mixInto_5 (lv_at hl 2 rfl) ?_
    refine lv_aload_n hx hb dX5_mixInto_7 rfl (lv_at hl 0 rfl) ?_
    refine x_get (rest := [.int x5]) X hP (gC10 c3 ad w) rfl iwX5_mixInto_X5 1 (by decide) lkX5_mixInto_16 rfl dX5_mixInto_8 ?_
    refine x_alen (v := 4) X hP (gC12 c3 ad w) rfl dX5_mixInto_11 ?_
    refine lv_icmp_ge (tgt := 75) hx hb dX5_mixInto_12 (by decide) (fun c_6 => ?_) (fun c_6 => ?_)
    · replace h := it_p c_6 h
      refine lv_lload_n hx hb dX5_mixInto_75 rfl (lv_at hl 1 rfl) ?_
      obtain rfl := Option.some.inj h
      exact hret _ _ _ _ hP hS dX5_mixInto_76
    · replace h := it_n c_6 h
      refine lv_ldc2 (v := 31) hx hb hown (hts (.constantLong RX5 33 (31)) (by decide +kernel)) dX5_mixInto_15 ?_
      refine lv_lload_n hx hb dX5_mixInto_18 rfl (lv_at hl 1 rfl) ?_
      refine lv_lmul hx hb dX5_mixInto_19 ?_
      refine lv_aload_n hx hb dX5_mixInto_20 rfl (lv_at hl 0 rfl) ?_
      refine x_get (rest := [.long (31 * y3)]) X hP (gC10 c3 ad w) rfl iwX5_mixInto_X5 1 (by decide) lkX5_mixInto_16 rfl dX5_mixInto_21 ?_
      refine lv_iload hx hb dX5_mixInto_24 (lv_at hl 2 rfl) ?_
      obtain ⟨g_7, h⟩ := gd_s h
      refine x_iald X hP (gC12 c3 ad w) g_7 dX5_mixInto_26 ?_
      refine lv_i2l (v := (w.1 12 x5.toNatClampNeg).toInt64) hx hb dX5_mixInto_27 rfl ?_
      refine lv_ladd hx hb dX5_mixInto_28 ?_
      refine x_nml h (fun y3_8 h => ?_)
      refine lv_lstore_n (lv' := [(3, .long y3_8), (0, .ref (ad 10)), (5, .int x5)]) hx hb dX5_mixInto_29 rfl hl (by decide) rfl (fun ls hl => ?_)
      refine lv_iconst (v := 0) hx hb dX5_mixInto_30 (by decide) ?_
      refine lv_istore (lv' := [(6, .int 0), (3, .long y3_8), (0, .ref (ad 10)), (5, .int x5)]) hx hb dX5_mixInto_31 hl (by decide) rfl (fun ls hl => ?_)
      exact bX5_mixInto_10_33 (k5 := (fX5_mixInto_10_5 w n)) X hret ih x5 FU y3_8 0 _ _ _ hP hS (lv_sub hl [2, 1, 3, 0] rfl) h
def fX5_mixInto_10_E (y1 : Int64) (w : Mm) : Option (Int64) := fX5_mixInto_10_5 w FU y1 0
set_option maxRecDepth 20000 in
theorem bX5_mixInto_10_E {p : Program} {l : Launch} {e : Env} {s : State} {m : MethodId} {args : Array Value} {below : List Frame} {meth : Method} {c : Code} {Q : State → Prop} {D : va_G} {c3 : C3} {ad : Nat → Nat} {A : Nat → Prop} {r : Int64} {w : Mm} (X : Cx p s m args c cX5_mixInto 7 RX5 wsX5_mixInto D c3 (encC c3 ad) gC A) (hret : Rl p l e (rmX5_mixInto_10) s m args below meth c Q cX5_mixInto D (encC c3 ad) A r w) : ∀ (y1 : Int64) (H : Heap) (locs : List Loc) (ls : Array Slot), va_P D vwCl ((encC c3 ad) w) H → va_S A s.heap H locs → lv_has ls 7 [(0, .ref (ad 10)), (1, .long y1)] → fX5_mixInto_10_E y1 w = some r → W p l e (rmX5_mixInto_10) s m args below meth c H locs 0 0 Q (F0 m 0 ls []) := by
  have hx := X.1
  have hb := X.2.1
  have hml := X.2.2.1
  have hown := X.2.2.2.1
  have hts := X.2.2.2.2.1
  intro y1 H locs ls hP hS hl h
  unfold fX5_mixInto_10_E at h
  refine lv_lload_n hx hb dX5_mixInto_0 rfl (lv_at hl 1 rfl) ?_
  refine lv_lstore_n (lv' := [(3, .long y1), (0, .ref (ad 10)), (1, .long y1)]) hx hb dX5_mixInto_1 rfl hl (by decide) rfl (fun ls hl => ?_)
  refine lv_iconst (v := 0) hx hb dX5_mixInto_2 (by decide) ?_
  refine lv_istore (lv' := [(5, .int 0), (3, .long y1), (0, .ref (ad 10)), (1, .long y1)]) hx hb dX5_mixInto_3 hl (by decide) rfl (fun ls hl => ?_)
  exact bX5_mixInto_10_5 X hret FU y1 0 _ _ _ hP hS (lv_sub hl [2, 1, 0] rfl) h
def fX5_mixInto_10 (y1 : Int64) (w : Mm) : Option (Int64) := fX5_mixInto_10_E y1 w
theorem ctX5_mixInto_10 (l : Launch) (D : va_G) (c3 : C3) (ad : Nat → Nat) (w : Mm) (sz : Nat) (y1 : Int64) (r : Int64) (h : fX5_mixInto_10 y1 w = some r) : Cl l yX5_mixInto wsX5_mixInto rmX5_mixInto_10 D c3 (encC c3 ad) gC [.ref (ad 10), .long y1] w sz r w := by
  refine Cl.of (cc := cX5_mixInto) (maxL := 7) (encC_ok c3 ad) (by decide) rfl (Nat.le_of_ble_eq_true rfl) ?_
  intro p e s m below meth c A Q ls X hret hP hS hl
  exact bX5_mixInto_10_E X hret y1 _ _ ls hP hS hl h
theorem iwX7_digest_X2 : ∀ w ∈ wsX20, w ∈ wsX7_digest := fun _ h => List.mem_cons_of_mem _ (List.mem_append_left _ (List.mem_append_right _ h))
theorem iwX7_digest_X5 : ∀ w ∈ wsX50, w ∈ wsX7_digest := fun _ h => List.mem_cons_of_mem _ (List.mem_append_right _ h)
theorem iwX7_digest_X7 : ∀ w ∈ wsX70, w ∈ wsX7_digest := fun _ h => List.mem_cons_of_mem _ (List.mem_append_left _ (List.mem_append_left _ (List.mem_append_right _ h)))
theorem lkX7_digest_14 : Cond.fieldLink RX7 14 "StuckDoor" "ints" "LStuckDoor$Rows;" ∈ wsX7_digest := by decide +kernel
theorem lkX7_digest_18 : Cond.fieldLink RX7 18 "StuckDoor" "texts" "LStuckDoor$Rows;" ∈ wsX7_digest := by decide +kernel
theorem lkX7_digest_21 : Cond.fieldLink RX7 21 "StuckDoor" "kept" "LStuckDoor$Rows;" ∈ wsX7_digest := by decide +kernel
theorem lkX7_digest_27 : Cond.fieldLink RX7 27 "StuckDoor" "family" "LStuckDoor$Family;" ∈ wsX7_digest := by decide +kernel
theorem lkX7_digest_94 : Cond.fieldLink RX7 94 "StuckDoor$Rows" "sizes" "[I" ∈ wsX7_digest := by decide +kernel
theorem lkX7_digest_121 : Cond.fieldLink RX7 121 "StuckDoor$Family" "sayings" "I" ∈ wsX7_digest := by decide +kernel
theorem lkX7_digest_161 : Cond.fieldLink RX7 161 "StuckDoor$Family" "bearing" "[I" ∈ wsX7_digest := by decide +kernel
theorem lkX7_digest_226 : Cond.fieldLink RX7 226 "StuckDoor$Family" "stuckRooms" "I" ∈ wsX7_digest := by decide +kernel
theorem lkX7_digest_292 : Cond.fieldLink RX7 292 "StuckDoor$Family" "people" "I" ∈ wsX7_digest := by decide +kernel
def rmX7_digest : Room := { frames := 4, cells := 0, slots := 0, locals := 87 }
def fX7_digest_136 (w : Mm) : Nat → Int64 → Int32 → Option (Int64)
  | 0, _, _ => none
  | n + 1, y1, x3 => (if 3 ≤ x3 then bo (fX5_mixInto_1 y1 w) (fun r_3 => bo (fX5_mixInto_10 r_3 w) (fun r_6 => some r_6)) else gd (inb x3 3 = true) (nm ((31 * y1) + ((w.1 19 x3.toNatClampNeg).toInt64)) (fun y1_9 => fX7_digest_136 w n y1_9 (x3 + 1))))
set_option maxRecDepth 20000 in
theorem bX7_digest_136 {p : Program} {l : Launch} {e : Env} {s : State} {m : MethodId} {args : Array Value} {below : List Frame} {meth : Method} {c : Code} {Q : State → Prop} {D : va_G} {c3 : C3} {ad : Nat → Nat} {A : Nat → Prop} {r : Int64} {w : Mm} (X : Cx p s m args c cX7_digest 5 RX7 wsX7_digest D c3 (encC c3 ad) gC A) (hret : Rl p l e (rmX7_digest) s m args below meth c Q cX7_digest D (encC c3 ad) A r w) : ∀ (n : Nat) (y1 : Int64) (x3 : Int32) (H : Heap) (locs : List Loc) (ls : Array Slot), va_P D vwCl ((encC c3 ad) w) H → va_S A s.heap H locs → lv_has ls 5 [(0, .ref (ad 0)), (1, .long y1), (3, .int x3)] → fX7_digest_136 w n y1 x3 = some r → W p l e (rmX7_digest) s m args below meth c H locs 0 0 Q (F0 m 136 ls []) := by
  have hx := X.1
  have hb := X.2.1
  have hml := X.2.2.1
  have hown := X.2.2.2.1
  have hts := X.2.2.2.2.1
  intro n
  induction n with
  | zero =>
    intro y1 x3 H locs ls hP hS hl h
    exact absurd h (by simp [fX7_digest_136])
  | succ n ih =>
    intro y1 x3 H locs ls hP hS hl h
    rw [fX7_digest_136] at h
    refine lv_iload_n hx hb dX7_digest_136 rfl (lv_at hl 2 rfl) ?_
    refine lv_iconst (v := 3) hx hb dX7_digest_137 (by decide) ?_
    refine lv_icmp_ge (tgt := 164) hx hb dX7_digest_138 (by decide) (fun c_1 => ?_) (fun c_1 => ?_)
    · replace h := it_p c_1 h
      refine lv_aload_n hx hb dX7_digest_164 rfl (lv_at hl 0 rfl) ?_
      refine x_get (rest := []) X hP (gC0 c3 ad w) rfl iwX7_digest_X7 1 (by decide) lkX7_digest_18 rfl dX7_digest_165 ?_
      refine lv_aload_n hx hb dX7_digest_168 rfl (lv_at hl 0 rfl) ?_
      refine x_get (rest := [.ref (ad 10)]) X hP (gC0 c3 ad w) rfl iwX7_digest_X7 0 (by decide) lkX7_digest_14 rfl dX7_digest_169 ?_
      refine lv_lload_n hx hb dX7_digest_172 rfl (lv_at hl 1 rfl) ?_
      obtain ⟨r_3, e_2, h⟩ := bo_s h
      refine x_gol X hS (x_runV (As := [.long y1]) (rest := [.ref (ad 10)]) X gC_ok hP hS (ctX5_mixInto_1 l D c3 ad w _ y1 _ e_2) (cwV 1 hts gX7_digest_X5_mixInto rfl rfl rfl (by decide +kernel) ⟨by decide, by decide⟩) (gC1 c3 ad w) rfl rfl rfl hl.1 rfl (Nat.le_of_ble_eq_true rfl) dX7_digest_173) (fun H locs hP hS => ?_)
      obtain ⟨r_6, e_5, h⟩ := bo_s h
      refine x_gol X hS (x_runV (As := [.long r_3]) (rest := []) X gC_ok hP hS (ctX5_mixInto_10 l D c3 ad w _ r_3 _ e_5) (cwV 1 hts gX7_digest_X5_mixInto rfl rfl rfl (by decide +kernel) ⟨by decide, by decide⟩) (gC10 c3 ad w) rfl rfl rfl hl.1 rfl (Nat.le_of_ble_eq_true rfl) dX7_digest_176) (fun H locs hP hS => ?_)
      obtain rfl := Option.some.inj h
      exact hret _ _ _ _ hP hS dX7_digest_179
    · replace h := it_n c_1 h
      refine lv_ldc2 (v := 31) hx hb hown (hts (.constantLong RX7 312 (31)) (by decide +kernel)) dX7_digest_141 ?_
      refine lv_lload_n hx hb dX7_digest_144 rfl (lv_at hl 1 rfl) ?_
      refine lv_lmul hx hb dX7_digest_145 ?_
      refine lv_aload_n hx hb dX7_digest_146 rfl (lv_at hl 0 rfl) ?_
      refine x_get (rest := [.long (31 * y1)]) X hP (gC0 c3 ad w) rfl iwX7_digest_X7 2 (by decide) lkX7_digest_21 rfl dX7_digest_147 ?_
      refine x_get (rest := [.long (31 * y1)]) X hP (gC17 c3 ad w) rfl iwX7_digest_X5 1 (by decide) lkX7_digest_94 rfl dX7_digest_150 ?_
      refine lv_iload_n hx hb dX7_digest_153 rfl (lv_at hl 2 rfl) ?_
      obtain ⟨g_8, h⟩ := gd_s h
      refine x_iald X hP (gC19 c3 ad w) g_8 dX7_digest_154 ?_
      refine lv_i2l (v := (w.1 19 x3.toNatClampNeg).toInt64) hx hb dX7_digest_155 rfl ?_
      refine lv_ladd hx hb dX7_digest_156 ?_
      refine x_nml h (fun y1_9 h => ?_)
      refine lv_lstore_n (lv' := [(1, .long y1_9), (0, .ref (ad 0)), (3, .int x3)]) hx hb dX7_digest_157 rfl hl (by decide) rfl (fun ls hl => ?_)
      refine lv_iinc (v := (x3 + 1)) (lv' := [(3, .int (x3 + 1)), (1, .long y1_9), (0, .ref (ad 0))]) hx hb dX7_digest_158 hl (k := 2) rfl rfl (by decide) rfl (fun ls hl => ?_)
      refine lv_goto (tgt := 136) hx hb dX7_digest_161 (by decide) ?_
      exact ih y1_9 (x3 + 1) _ _ _ hP hS (lv_sub hl [2, 1, 0] rfl) h
def fX7_digest_83 (k69 : Int64 → Int32 → Option (Int64)) (x3 : Int32) (w : Mm) : Nat → Int64 → Int32 → Option (Int64)
  | 0, _, _ => none
  | n + 1, y1, x4 => (if 4 < x4 then k69 y1 (x3 + 1) else bo (fX2_aspect_23 x3 x4 w) (fun r_12 => nm ((31 * y1) + r_12.toInt64) (fun y1_14 => fX7_digest_83 k69 x3 w n y1_14 (x4 + 1))))
set_option maxRecDepth 20000 in
theorem bX7_digest_83 {p : Program} {l : Launch} {e : Env} {s : State} {m : MethodId} {args : Array Value} {below : List Frame} {meth : Method} {c : Code} {Q : State → Prop} {D : va_G} {c3 : C3} {ad : Nat → Nat} {A : Nat → Prop} {r : Int64} {w : Mm} (X : Cx p s m args c cX7_digest 5 RX7 wsX7_digest D c3 (encC c3 ad) gC A) (hret : Rl p l e (rmX7_digest) s m args below meth c Q cX7_digest D (encC c3 ad) A r w) {k69 : Int64 → Int32 → Option (Int64)} (hk69 : ∀ (y1 : Int64) (x3 : Int32) (H : Heap) (locs : List Loc) (ls : Array Slot), va_P D vwCl ((encC c3 ad) w) H → va_S A s.heap H locs → lv_has ls 5 [(0, .ref (ad 0)), (1, .long y1), (3, .int x3)] → k69 y1 x3 = some r → W p l e (rmX7_digest) s m args below meth c H locs 0 0 Q (F0 m 69 ls [])) : ∀ (x3 : Int32) (n : Nat) (y1 : Int64) (x4 : Int32) (H : Heap) (locs : List Loc) (ls : Array Slot), va_P D vwCl ((encC c3 ad) w) H → va_S A s.heap H locs → lv_has ls 5 [(0, .ref (ad 0)), (1, .long y1), (3, .int x3), (4, .int x4)] → fX7_digest_83 k69 x3 w n y1 x4 = some r → W p l e (rmX7_digest) s m args below meth c H locs 0 0 Q (F0 m 83 ls []) := by
  have hx := X.1
  have hb := X.2.1
  have hml := X.2.2.1
  have hown := X.2.2.2.1
  have hts := X.2.2.2.2.1
  intro x3 n
  induction n with
  | zero =>
    intro y1 x4 H locs ls hP hS hl h
    exact absurd h (by simp [fX7_digest_83])
  | succ n ih =>
    intro y1 x4 H locs ls hP hS hl h
    rw [fX7_digest_83] at h
    refine lv_iload hx hb dX7_digest_83 (lv_at hl 3 rfl) ?_
    refine lv_iconst (v := 4) hx hb dX7_digest_85 (by decide) ?_
    refine lv_icmp_gt (tgt := 113) hx hb dX7_digest_86 (by decide) (fun c_10 => ?_) (fun c_10 => ?_)
    · replace h := it_p c_10 h
      refine lv_iinc (v := (x3 + 1)) (lv' := [(3, .int (x3 + 1)), (0, .ref (ad 0)), (1, .long y1), (4, .int x4)]) hx hb dX7_digest_113 hl (k := 2) rfl rfl (by decide) rfl (fun ls hl => ?_)
      refine lv_goto (tgt := 69) hx hb dX7_digest_116 (by decide) ?_
      exact hk69 y1 (x3 + 1) _ _ _ hP hS (lv_sub hl [1, 2, 0] rfl) h
    · replace h := it_n c_10 h
      refine lv_ldc2 (v := 31) hx hb hown (hts (.constantLong RX7 312 (31)) (by decide +kernel)) dX7_digest_89 ?_
      refine lv_lload_n hx hb dX7_digest_92 rfl (lv_at hl 1 rfl) ?_
      refine lv_lmul hx hb dX7_digest_93 ?_
      refine lv_aload_n hx hb dX7_digest_94 rfl (lv_at hl 0 rfl) ?_
      refine x_get (rest := [.long (31 * y1)]) X hP (gC0 c3 ad w) rfl iwX7_digest_X7 3 (by decide) lkX7_digest_27 rfl dX7_digest_95 ?_
      refine lv_iload_n hx hb dX7_digest_98 rfl (lv_at hl 2 rfl) ?_
      refine lv_iload hx hb dX7_digest_99 (lv_at hl 3 rfl) ?_
      obtain ⟨r_12, e_11, h⟩ := bo_s h
      refine x_goi X hS (x_runV (As := [.int x3, .int x4]) (rest := [.long (31 * y1)]) X gC_ok hP hS (ctX2_aspect_23 l D c3 ad w _ x3 x4 _ e_11) (cwV 2 hts gX7_digest_X2_aspect rfl rfl rfl (by decide +kernel) ⟨by decide, by decide⟩) (gC23 c3 ad w) rfl rfl rfl hl.1 rfl (Nat.le_of_ble_eq_true rfl) dX7_digest_101) (fun H locs hP hS => ?_)
      refine lv_i2l (v := r_12.toInt64) hx hb dX7_digest_104 rfl ?_
      refine lv_ladd hx hb dX7_digest_105 ?_
      refine x_nml h (fun y1_14 h => ?_)
      refine lv_lstore_n (lv' := [(1, .long y1_14), (0, .ref (ad 0)), (3, .int x3), (4, .int x4)]) hx hb dX7_digest_106 rfl hl (by decide) rfl (fun ls hl => ?_)
      refine lv_iinc (v := (x4 + 1)) (lv' := [(4, .int (x4 + 1)), (1, .long y1_14), (0, .ref (ad 0)), (3, .int x3)]) hx hb dX7_digest_107 hl (k := 3) rfl rfl (by decide) rfl (fun ls hl => ?_)
      refine lv_goto (tgt := 83) hx hb dX7_digest_110 (by decide) ?_
      exact ih y1_14 (x4 + 1) _ _ _ hP hS (lv_sub hl [2, 1, 3, 0] rfl) h
def fX7_digest_69 (w : Mm) : Nat → Int64 → Int32 → Option (Int64)
  | 0, _, _ => none
  | n + 1, y1, x3 => (if (w.1 23 2) ≤ x3 then nm ((31 * y1) + ((w.1 23 6).toInt64)) (fun y1_16 => fX7_digest_136 w FU y1_16 0) else fX7_digest_83 (fX7_digest_69 w n) x3 w FU y1 0)
set_option maxRecDepth 20000 in
theorem bX7_digest_69 {p : Program} {l : Launch} {e : Env} {s : State} {m : MethodId} {args : Array Value} {below : List Frame} {meth : Method} {c : Code} {Q : State → Prop} {D : va_G} {c3 : C3} {ad : Nat → Nat} {A : Nat → Prop} {r : Int64} {w : Mm} (X : Cx p s m args c cX7_digest 5 RX7 wsX7_digest D c3 (encC c3 ad) gC A) (hret : Rl p l e (rmX7_digest) s m args below meth c Q cX7_digest D (encC c3 ad) A r w) : ∀ (n : Nat) (y1 : Int64) (x3 : Int32) (H : Heap) (locs : List Loc) (ls : Array Slot), va_P D vwCl ((encC c3 ad) w) H → va_S A s.heap H locs → lv_has ls 5 [(0, .ref (ad 0)), (1, .long y1), (3, .int x3)] → fX7_digest_69 w n y1 x3 = some r → W p l e (rmX7_digest) s m args below meth c H locs 0 0 Q (F0 m 69 ls []) := by
  have hx := X.1
  have hb := X.2.1
  have hml := X.2.2.1
  have hown := X.2.2.2.1
  have hts := X.2.2.2.2.1
  intro n
  induction n with
  | zero =>
    intro y1 x3 H locs ls hP hS hl h
    exact absurd h (by simp [fX7_digest_69])
  | succ n ih =>
    intro y1 x3 H locs ls hP hS hl h
    rw [fX7_digest_69] at h
    refine lv_iload_n hx hb dX7_digest_69 rfl (lv_at hl 2 rfl) ?_
    refine lv_aload_n hx hb dX7_digest_70 rfl (lv_at hl 0 rfl) ?_
    refine x_get (rest := [.int x3]) X hP (gC0 c3 ad w) rfl iwX7_digest_X7 3 (by decide) lkX7_digest_27 rfl dX7_digest_71 ?_
    refine x_get (rest := [.int x3]) X hP (gC23 c3 ad w) rfl iwX7_digest_X2 2 (by decide) lkX7_digest_121 rfl dX7_digest_74 ?_
    refine lv_icmp_ge (tgt := 119) hx hb dX7_digest_77 (by decide) (fun c_15 => ?_) (fun c_15 => ?_)
    · replace h := it_p c_15 h
      refine lv_ldc2 (v := 31) hx hb hown (hts (.constantLong RX7 312 (31)) (by decide +kernel)) dX7_digest_119 ?_
      refine lv_lload_n hx hb dX7_digest_122 rfl (lv_at hl 1 rfl) ?_
      refine lv_lmul hx hb dX7_digest_123 ?_
      refine lv_aload_n hx hb dX7_digest_124 rfl (lv_at hl 0 rfl) ?_
      refine x_get (rest := [.long (31 * y1)]) X hP (gC0 c3 ad w) rfl iwX7_digest_X7 3 (by decide) lkX7_digest_27 rfl dX7_digest_125 ?_
      refine x_get (rest := [.long (31 * y1)]) X hP (gC23 c3 ad w) rfl iwX7_digest_X2 6 (by decide) lkX7_digest_226 rfl dX7_digest_128 ?_
      refine lv_i2l (v := (w.1 23 6).toInt64) hx hb dX7_digest_131 rfl ?_
      refine lv_ladd hx hb dX7_digest_132 ?_
      refine x_nml h (fun y1_16 h => ?_)
      refine lv_lstore_n (lv' := [(1, .long y1_16), (0, .ref (ad 0)), (3, .int x3)]) hx hb dX7_digest_133 rfl hl (by decide) rfl (fun ls hl => ?_)
      refine lv_iconst (v := 0) hx hb dX7_digest_134 (by decide) ?_
      refine lv_istore_n (lv' := [(3, .int 0), (1, .long y1_16), (0, .ref (ad 0))]) hx hb dX7_digest_135 rfl hl (by decide) rfl (fun ls hl => ?_)
      exact bX7_digest_136 X hret FU y1_16 0 _ _ _ hP hS (lv_sub hl [2, 1, 0] rfl) h
    · replace h := it_n c_15 h
      refine lv_iconst (v := 0) hx hb dX7_digest_80 (by decide) ?_
      refine lv_istore (lv' := [(4, .int 0), (0, .ref (ad 0)), (1, .long y1), (3, .int x3)]) hx hb dX7_digest_81 hl (by decide) rfl (fun ls hl => ?_)
      exact bX7_digest_83 (k69 := (fX7_digest_69 w n)) X hret ih x3 FU y1 0 _ _ _ hP hS (lv_sub hl [1, 2, 3, 0] rfl) h
def fX7_digest_33 (w : Mm) : Nat → Int64 → Int32 → Option (Int64)
  | 0, _, _ => none
  | n + 1, y1, x3 => (if (w.1 23 0) ≤ x3 then fX7_digest_69 w FU y1 0 else gd (inb x3 4 = true) (nm ((31 * y1) + ((w.1 24 x3.toNatClampNeg).toInt64)) (fun y1_19 => fX7_digest_33 w n y1_19 (x3 + 1))))
set_option maxRecDepth 20000 in
theorem bX7_digest_33 {p : Program} {l : Launch} {e : Env} {s : State} {m : MethodId} {args : Array Value} {below : List Frame} {meth : Method} {c : Code} {Q : State → Prop} {D : va_G} {c3 : C3} {ad : Nat → Nat} {A : Nat → Prop} {r : Int64} {w : Mm} (X : Cx p s m args c cX7_digest 5 RX7 wsX7_digest D c3 (encC c3 ad) gC A) (hret : Rl p l e (rmX7_digest) s m args below meth c Q cX7_digest D (encC c3 ad) A r w) : ∀ (n : Nat) (y1 : Int64) (x3 : Int32) (H : Heap) (locs : List Loc) (ls : Array Slot), va_P D vwCl ((encC c3 ad) w) H → va_S A s.heap H locs → lv_has ls 5 [(0, .ref (ad 0)), (1, .long y1), (3, .int x3)] → fX7_digest_33 w n y1 x3 = some r → W p l e (rmX7_digest) s m args below meth c H locs 0 0 Q (F0 m 33 ls []) := by
  have hx := X.1
  have hb := X.2.1
  have hml := X.2.2.1
  have hown := X.2.2.2.1
  have hts := X.2.2.2.2.1
  intro n
  induction n with
  | zero =>
    intro y1 x3 H locs ls hP hS hl h
    exact absurd h (by simp [fX7_digest_33])
  | succ n ih =>
    intro y1 x3 H locs ls hP hS hl h
    rw [fX7_digest_33] at h
    refine lv_iload_n hx hb dX7_digest_33 rfl (lv_at hl 2 rfl) ?_
    refine lv_aload_n hx hb dX7_digest_34 rfl (lv_at hl 0 rfl) ?_
    refine x_get (rest := [.int x3]) X hP (gC0 c3 ad w) rfl iwX7_digest_X7 3 (by decide) lkX7_digest_27 rfl dX7_digest_35 ?_
    refine x_get (rest := [.int x3]) X hP (gC23 c3 ad w) rfl iwX7_digest_X2 0 (by decide) lkX7_digest_292 rfl dX7_digest_38 ?_
    refine lv_icmp_ge (tgt := 67) hx hb dX7_digest_41 (by decide) (fun c_17 => ?_) (fun c_17 => ?_)
    · replace h := it_p c_17 h
      refine lv_iconst (v := 0) hx hb dX7_digest_67 (by decide) ?_
      refine lv_istore_n (lv' := [(3, .int 0), (0, .ref (ad 0)), (1, .long y1)]) hx hb dX7_digest_68 rfl hl (by decide) rfl (fun ls hl => ?_)
      exact bX7_digest_69 X hret FU y1 0 _ _ _ hP hS (lv_sub hl [1, 2, 0] rfl) h
    · replace h := it_n c_17 h
      refine lv_ldc2 (v := 31) hx hb hown (hts (.constantLong RX7 312 (31)) (by decide +kernel)) dX7_digest_44 ?_
      refine lv_lload_n hx hb dX7_digest_47 rfl (lv_at hl 1 rfl) ?_
      refine lv_lmul hx hb dX7_digest_48 ?_
      refine lv_aload_n hx hb dX7_digest_49 rfl (lv_at hl 0 rfl) ?_
      refine x_get (rest := [.long (31 * y1)]) X hP (gC0 c3 ad w) rfl iwX7_digest_X7 3 (by decide) lkX7_digest_27 rfl dX7_digest_50 ?_
      refine x_get (rest := [.long (31 * y1)]) X hP (gC23 c3 ad w) rfl iwX7_digest_X2 1 (by decide) lkX7_digest_161 rfl dX7_digest_53 ?_
      refine lv_iload_n hx hb dX7_digest_56 rfl (lv_at hl 2 rfl) ?_
      obtain ⟨g_18, h⟩ := gd_s h
      refine x_iald X hP (gC24 c3 ad w) g_18 dX7_digest_57 ?_
      refine lv_i2l (v := (w.1 24 x3.toNatClampNeg).toInt64) hx hb dX7_digest_58 rfl ?_
      refine lv_ladd hx hb dX7_digest_59 ?_
      refine x_nml h (fun y1_19 h => ?_)
      refine lv_lstore_n (lv' := [(1, .long y1_19), (0, .ref (ad 0)), (3, .int x3)]) hx hb dX7_digest_60 rfl hl (by decide) rfl (fun ls hl => ?_)
      refine lv_iinc (v := (x3 + 1)) (lv' := [(3, .int (x3 + 1)), (1, .long y1_19), (0, .ref (ad 0))]) hx hb dX7_digest_61 hl (k := 2) rfl rfl (by decide) rfl (fun ls hl => ?_)
      refine lv_goto (tgt := 33) hx hb dX7_digest_64 (by decide) ?_
      exact ih y1_19 (x3 + 1) _ _ _ hP hS (lv_sub hl [2, 1, 0] rfl) h
def fX7_digest_6 (w : Mm) : Nat → Int64 → Int32 → Option (Int64)
  | 0, _, _ => none
  | n + 1, y1, x3 => (if 10 < x3 then fX7_digest_33 w FU y1 0 else bo (fX7_count x3 w) (fun r_22 => nm ((31 * y1) + r_22.toInt64) (fun y1_24 => fX7_digest_6 w n y1_24 (x3 + 1))))
set_option maxRecDepth 20000 in
theorem bX7_digest_6 {p : Program} {l : Launch} {e : Env} {s : State} {m : MethodId} {args : Array Value} {below : List Frame} {meth : Method} {c : Code} {Q : State → Prop} {D : va_G} {c3 : C3} {ad : Nat → Nat} {A : Nat → Prop} {r : Int64} {w : Mm} (X : Cx p s m args c cX7_digest 5 RX7 wsX7_digest D c3 (encC c3 ad) gC A) (hret : Rl p l e (rmX7_digest) s m args below meth c Q cX7_digest D (encC c3 ad) A r w) : ∀ (n : Nat) (y1 : Int64) (x3 : Int32) (H : Heap) (locs : List Loc) (ls : Array Slot), va_P D vwCl ((encC c3 ad) w) H → va_S A s.heap H locs → lv_has ls 5 [(0, .ref (ad 0)), (1, .long y1), (3, .int x3)] → fX7_digest_6 w n y1 x3 = some r → W p l e (rmX7_digest) s m args below meth c H locs 0 0 Q (F0 m 6 ls []) := by
  have hx := X.1
  have hb := X.2.1
  have hml := X.2.2.1
  have hown := X.2.2.2.1
  have hts := X.2.2.2.2.1
  intro n
  induction n with
  | zero =>
    intro y1 x3 H locs ls hP hS hl h
    exact absurd h (by simp [fX7_digest_6])
  | succ n ih =>
    intro y1 x3 H locs ls hP hS hl h
    rw [fX7_digest_6] at h
    refine lv_iload_n hx hb dX7_digest_6 rfl (lv_at hl 2 rfl) ?_
    refine lv_bipush (v := 10) hx hb dX7_digest_7 (by decide) ?_
    refine lv_icmp_gt (tgt := 31) hx hb dX7_digest_9 (by decide) (fun c_20 => ?_) (fun c_20 => ?_)
    · replace h := it_p c_20 h
      refine lv_iconst (v := 0) hx hb dX7_digest_31 (by decide) ?_
      refine lv_istore_n (lv' := [(3, .int 0), (0, .ref (ad 0)), (1, .long y1)]) hx hb dX7_digest_32 rfl hl (by decide) rfl (fun ls hl => ?_)
      exact bX7_digest_33 X hret FU y1 0 _ _ _ hP hS (lv_sub hl [1, 2, 0] rfl) h
    · replace h := it_n c_20 h
      refine lv_ldc2 (v := 31) hx hb hown (hts (.constantLong RX7 312 (31)) (by decide +kernel)) dX7_digest_12 ?_
      refine lv_lload_n hx hb dX7_digest_15 rfl (lv_at hl 1 rfl) ?_
      refine lv_lmul hx hb dX7_digest_16 ?_
      refine lv_aload_n hx hb dX7_digest_17 rfl (lv_at hl 0 rfl) ?_
      refine lv_iload_n hx hb dX7_digest_18 rfl (lv_at hl 2 rfl) ?_
      obtain ⟨r_22, e_21, h⟩ := bo_s h
      refine x_goi X hS (x_runV (As := [.int x3]) (rest := [.long (31 * y1)]) X gC_ok hP hS (ctX7_count l D c3 ad w _ x3 _ e_21) (cwV 1 hts gX7_digest_X7_count rfl rfl rfl (by decide +kernel) ⟨by decide, by decide⟩) (gC0 c3 ad w) rfl rfl rfl hl.1 rfl (Nat.le_of_ble_eq_true rfl) dX7_digest_19) (fun H locs hP hS => ?_)
      refine lv_i2l (v := r_22.toInt64) hx hb dX7_digest_22 rfl ?_
      refine lv_ladd hx hb dX7_digest_23 ?_
      refine x_nml h (fun y1_24 h => ?_)
      refine lv_lstore_n (lv' := [(1, .long y1_24), (0, .ref (ad 0)), (3, .int x3)]) hx hb dX7_digest_24 rfl hl (by decide) rfl (fun ls hl => ?_)
      refine lv_iinc (v := (x3 + 1)) (lv' := [(3, .int (x3 + 1)), (1, .long y1_24), (0, .ref (ad 0))]) hx hb dX7_digest_25 hl (k := 2) rfl rfl (by decide) rfl (fun ls hl => ?_)
      refine lv_goto (tgt := 6) hx hb dX7_digest_28 (by decide) ?_
      exact ih y1_24 (x3 + 1) _ _ _ hP hS (lv_sub hl [2, 1, 0] rfl) h
def fX7_digest_E (w : Mm) : Option (Int64) := fX7_digest_6 w FU 17 0
set_option maxRecDepth 20000 in
theorem bX7_digest_E {p : Program} {l : Launch} {e : Env} {s : State} {m : MethodId} {args : Array Value} {below : List Frame} {meth : Method} {c : Code} {Q : State → Prop} {D : va_G} {c3 : C3} {ad : Nat → Nat} {A : Nat → Prop} {r : Int64} {w : Mm} (X : Cx p s m args c cX7_digest 5 RX7 wsX7_digest D c3 (encC c3 ad) gC A) (hret : Rl p l e (rmX7_digest) s m args below meth c Q cX7_digest D (encC c3 ad) A r w) : ∀ (H : Heap) (locs : List Loc) (ls : Array Slot), va_P D vwCl ((encC c3 ad) w) H → va_S A s.heap H locs → lv_has ls 5 [(0, .ref (ad 0))] → fX7_digest_E w = some r → W p l e (rmX7_digest) s m args below meth c H locs 0 0 Q (F0 m 0 ls []) := by
  have hx := X.1
  have hb := X.2.1
  have hml := X.2.2.1
  have hown := X.2.2.2.1
  have hts := X.2.2.2.2.1
  intro H locs ls hP hS hl h
  unfold fX7_digest_E at h
  refine lv_ldc2 (v := 17) hx hb hown (hts (.constantLong RX7 310 (17)) (by decide +kernel)) dX7_digest_0 ?_
  refine lv_lstore_n (lv' := [(1, .long 17), (0, .ref (ad 0))]) hx hb dX7_digest_3 rfl hl (by decide) rfl (fun ls hl => ?_)
  refine lv_iconst (v := 0) hx hb dX7_digest_4 (by decide) ?_
  refine lv_istore_n (lv' := [(3, .int 0), (1, .long 17), (0, .ref (ad 0))]) hx hb dX7_digest_5 rfl hl (by decide) rfl (fun ls hl => ?_)
  exact bX7_digest_6 X hret FU 17 0 _ _ _ hP hS (lv_sub hl [2, 1, 0] rfl) h
def fX7_digest (w : Mm) : Option (Int64) := fX7_digest_E w
theorem ctX7_digest (l : Launch) (D : va_G) (c3 : C3) (ad : Nat → Nat) (w : Mm) (sz : Nat) (r : Int64) (h : fX7_digest w = some r) : Cl l yX7_digest wsX7_digest rmX7_digest D c3 (encC c3 ad) gC [.ref (ad 0)] w sz r w := by
  refine Cl.of (cc := cX7_digest) (maxL := 5) (encC_ok c3 ad) (by decide) rfl (Nat.le_of_ble_eq_true rfl) ?_
  intro p e s m below meth c A Q ls X hret hP hS hl
  exact bX7_digest_E X hret _ _ ls hP hS hl h

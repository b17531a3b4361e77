theorem iwX8_cuts_X8 : ∀ w ∈ wsX80, w ∈ wsX8_cuts := fun _ h => List.mem_cons_of_mem _ (List.mem_append_right _ h)
theorem lkX8_cuts_170 : Cond.fieldLink RX8 170 "StuckDoorModel" "stuck" "I" ∈ wsX8_cuts := by decide +kernel
def rmX8_cuts : Room := { frames := 2, cells := 0, slots := 0, locals := 50 }
def fX8_cuts_74 (k38 : Int32 → Int32 → Mm → Option (Int32 × Mm)) (x1 : Int32) (x2 : Int32) (x4 : Int32) (z0 : Int32) (z1 : Int32) (w : Mm) : Option (Int32 × Mm) := nm (z1 ||| z0) (fun x3_1 => k38 x3_1 (x4 + 1) w)
set_option maxRecDepth 20000 in
theorem bX8_cuts_74 {p : Program} {l : Launch} {e : Env} {s : State} {m : MethodId} {args : Array Value} {below : List Frame} {meth : Method} {c : Code} {Q : State → Prop} {D : va_G} {c3 : C3} {ad : Nat → Nat} {A : Nat → Prop} {r : Int32} {w' : Mm} (X : Cx p s m args c cX8_cuts 5 RX8 wsX8_cuts D c3 (encM c3 ad) gM A) (hret : Ri p l e (rmX8_cuts) s m args below meth c Q cX8_cuts D (encM c3 ad) A r w') {x1 : Int32} {x2 : Int32} {k38 : Int32 → Int32 → Mm → Option (Int32 × Mm)} (hk38 : ∀ (x3 : Int32) (x4 : Int32) (w : Mm) (H : Heap) (locs : List Loc) (ls : Array Slot), va_P D vwCl ((encM c3 ad) w) H → va_S A s.heap H locs → lv_has ls 5 [(0, .ref (ad 0)), (1, .int x1), (2, .int x2), (3, .int x3), (4, .int x4)] → k38 x3 x4 w = some (r, w') → W p l e (rmX8_cuts) s m args below meth c H locs 0 0 Q (F0 m 38 ls [])) : ∀ (x4 : Int32) (z0 : Int32) (z1 : Int32) (w : Mm) (H : Heap) (locs : List Loc) (ls : Array Slot), va_P D vwCl ((encM c3 ad) w) H → va_S A s.heap H locs → lv_has ls 5 [(0, .ref (ad 0)), (1, .int x1), (2, .int x2), (4, .int x4)] → fX8_cuts_74 k38 x1 x2 x4 z0 z1 w = some (r, w') → W p l e (rmX8_cuts) s m args below meth c H locs 0 0 Q (F0 m 74 ls [.int z0, .int z1]) := by
  have hx := X.1
  have hb := X.2.1
  have hml := X.2.2.1
  have hown := X.2.2.2.1
  have hts := X.2.2.2.2.1
  intro x4 z0 z1 w H locs ls hP hS hl h
  unfold fX8_cuts_74 at h
  refine lv_ior hx hb dX8_cuts_74 ?_
  refine x_nmi h (fun x3_1 h => ?_)
  refine lv_istore_n (lv' := [(3, .int x3_1), (0, .ref (ad 0)), (1, .int x1), (2, .int x2), (4, .int x4)]) hx hb dX8_cuts_75 rfl hl (by decide) rfl (fun ls hl => ?_)
  refine lv_iinc (v := (x4 + 1)) (lv' := [(4, .int (x4 + 1)), (3, .int x3_1), (0, .ref (ad 0)), (1, .int x1), (2, .int x2)]) hx hb dX8_cuts_76 hl (k := 4) rfl rfl (by decide) rfl (fun ls hl => ?_)
  refine lv_goto (tgt := 38) hx hb dX8_cuts_79 (by decide) ?_
  exact hk38 x3_1 (x4 + 1) w _ _ _ hP hS (lv_sub hl [2, 3, 4, 1, 0] rfl) h
def fX8_cuts_38 (x1 : Int32) (x2 : Int32) : Nat → Int32 → Int32 → Mm → Option (Int32 × Mm)
  | 0, _, _, _ => none
  | n + 1, x3, x4, w => (if 12 ≤ x4 then some ((x3 &&& ((w.1 0 7) ^^^ (-1))), w) else bd (fX8_wayBut x1 x2 ((w.1 0 7) ||| (1 <<< (x4 &&& 31))) w) (fun r_4 w_5 => (if r_4 = (-9) then fX8_cuts_74 (fX8_cuts_38 x1 x2 n) x1 x2 x4 (1 <<< (x4 &&& 31)) x3 w_5 else fX8_cuts_74 (fX8_cuts_38 x1 x2 n) x1 x2 x4 0 x3 w_5)))
set_option maxRecDepth 20000 in
theorem bX8_cuts_38 {p : Program} {l : Launch} {e : Env} {s : State} {m : MethodId} {args : Array Value} {below : List Frame} {meth : Method} {c : Code} {Q : State → Prop} {D : va_G} {c3 : C3} {ad : Nat → Nat} {A : Nat → Prop} {r : Int32} {w' : Mm} (X : Cx p s m args c cX8_cuts 5 RX8 wsX8_cuts D c3 (encM c3 ad) gM A) (hret : Ri p l e (rmX8_cuts) s m args below meth c Q cX8_cuts D (encM c3 ad) A r w') : ∀ (x1 : Int32) (x2 : Int32) (n : Nat) (x3 : Int32) (x4 : Int32) (w : Mm) (H : Heap) (locs : List Loc) (ls : Array Slot), va_P D vwCl ((encM c3 ad) w) H → va_S A s.heap H locs → lv_has ls 5 [(0, .ref (ad 0)), (1, .int x1), (2, .int x2), (3, .int x3), (4, .int x4)] → fX8_cuts_38 x1 x2 n x3 x4 w = some (r, w') → W p l e (rmX8_cuts) s m args below meth c H locs 0 0 Q (F0 m 38 ls []) := by
  have hx := X.1
  have hb := X.2.1
  have hml := X.2.2.1
  have hown := X.2.2.2.1
  have hts := X.2.2.2.2.1
  intro x1 x2 n
  induction n with
  | zero =>
    intro x3 x4 w H locs ls hP hS hl h
    exact absurd h (by simp [fX8_cuts_38])
  | succ n ih =>
    intro x3 x4 w H locs ls hP hS hl h
    rw [fX8_cuts_38] at h
    refine lv_iload hx hb dX8_cuts_38 (lv_at hl 4 rfl) ?_
    refine lv_bipush (v := 12) hx hb dX8_cuts_40 (by decide) ?_
    refine lv_icmp_ge (tgt := 82) hx hb dX8_cuts_42 (by decide) (fun c_2 => ?_) (fun c_2 => ?_)
    · replace h := it_p c_2 h
      refine lv_iload_n hx hb dX8_cuts_82 rfl (lv_at hl 3 rfl) ?_
      refine lv_aload_n hx hb dX8_cuts_83 rfl (lv_at hl 0 rfl) ?_
      refine x_get (rest := [.int x3]) X hP (gM0 c3 ad w) rfl iwX8_cuts_X8 7 (by decide) lkX8_cuts_170 rfl dX8_cuts_84 ?_
      refine lv_iconst (v := (-1)) hx hb dX8_cuts_87 (by decide) ?_
      refine lv_ixor hx hb dX8_cuts_88 ?_
      refine lv_iand hx hb dX8_cuts_89 ?_
      obtain ⟨rfl, rfl⟩ := Prod.mk.inj (Option.some.inj h)
      exact hret _ _ _ _ hP hS dX8_cuts_90
    · replace h := it_n c_2 h
      refine lv_iload_n hx hb dX8_cuts_45 rfl (lv_at hl 3 rfl) ?_
      refine lv_aload_n hx hb dX8_cuts_46 rfl (lv_at hl 0 rfl) ?_
      refine lv_iload_n hx hb dX8_cuts_47 rfl (lv_at hl 1 rfl) ?_
      refine lv_iload_n hx hb dX8_cuts_48 rfl (lv_at hl 2 rfl) ?_
      refine lv_aload_n hx hb dX8_cuts_49 rfl (lv_at hl 0 rfl) ?_
      refine x_get (rest := [.int x2, .int x1, .ref (ad 0), .int x3]) X hP (gM0 c3 ad w) rfl iwX8_cuts_X8 7 (by decide) lkX8_cuts_170 rfl dX8_cuts_50 ?_
      refine lv_iconst (v := 1) hx hb dX8_cuts_53 (by decide) ?_
      refine lv_iload hx hb dX8_cuts_54 (lv_at hl 4 rfl) ?_
      refine lv_ishl hx hb dX8_cuts_56 ?_
      refine lv_ior hx hb dX8_cuts_57 ?_
      obtain ⟨r_4, w_5, e_3, h⟩ := bd_s h
      refine x_goi X hS (x_runV (As := [.int x1, .int x2, .int ((w.1 0 7) ||| (1 <<< (x4 &&& 31)))]) (rest := [.int x3]) X gM_ok hP hS (ctX8_wayBut l D c3 ad w _ x1 x2 ((w.1 0 7) ||| (1 <<< (x4 &&& 31))) _ _ e_3) (cwV 3 hts gX8_cuts_X8_wayBut rfl rfl rfl (by decide +kernel) ⟨by decide, by decide⟩) (gM0 c3 ad w) rfl rfl rfl hl.1 rfl (Nat.le_of_ble_eq_true rfl) dX8_cuts_58) (fun H locs hP hS => ?_)
      refine lv_bipush (v := (-9)) hx hb dX8_cuts_61 (by decide) ?_
      refine lv_icmp_ne (tgt := 73) hx hb dX8_cuts_63 (by decide) (fun c_6 => ?_) (fun c_6 => ?_)
      · replace h := it_n c_6 h
        refine lv_iconst (v := 0) hx hb dX8_cuts_73 (by decide) ?_
        exact bX8_cuts_74 (x1 := x1) (x2 := x2) (k38 := (fX8_cuts_38 x1 x2 n)) X hret ih x4 0 x3 w_5 _ _ _ hP hS (lv_sub hl [0, 1, 2, 4] rfl) h
      · replace h := it_p c_6 h
        refine lv_iconst (v := 1) hx hb dX8_cuts_66 (by decide) ?_
        refine lv_iload hx hb dX8_cuts_67 (lv_at hl 4 rfl) ?_
        refine lv_ishl hx hb dX8_cuts_69 ?_
        refine lv_goto (tgt := 74) hx hb dX8_cuts_70 (by decide) ?_
        exact bX8_cuts_74 (x1 := x1) (x2 := x2) (k38 := (fX8_cuts_38 x1 x2 n)) X hret ih x4 (1 <<< (x4 &&& 31)) x3 w_5 _ _ _ hP hS (lv_sub hl [0, 1, 2, 4] rfl) h
def fX8_cuts_E (x1 : Int32) (x2 : Int32) (w : Mm) : Option (Int32 × Mm) := bo (fX8_isRoom x1) (fun r_8 => (if r_8 = 0 then some ((-1), w) else bo (fX8_isRoom x2) (fun r_12 => (if r_12 = 0 then some ((-1), w) else bd (fX8_wayBut x1 x2 (w.1 0 7) w) (fun r_16 w_17 => (if r_16 = (-9) then some (0, w_17) else fX8_cuts_38 x1 x2 FU 0 0 w_17))))))
set_option maxRecDepth 20000 in
theorem bX8_cuts_E {p : Program} {l : Launch} {e : Env} {s : State} {m : MethodId} {args : Array Value} {below : List Frame} {meth : Method} {c : Code} {Q : State → Prop} {D : va_G} {c3 : C3} {ad : Nat → Nat} {A : Nat → Prop} {r : Int32} {w' : Mm} (X : Cx p s m args c cX8_cuts 5 RX8 wsX8_cuts D c3 (encM c3 ad) gM A) (hret : Ri p l e (rmX8_cuts) s m args below meth c Q cX8_cuts D (encM c3 ad) A r w') : ∀ (x1 : Int32) (x2 : Int32) (w : Mm) (H : Heap) (locs : List Loc) (ls : Array Slot), va_P D vwCl ((encM c3 ad) w) H → va_S A s.heap H locs → lv_has ls 5 [(0, .ref (ad 0)), (1, .int x1), (2, .int x2)] → fX8_cuts_E x1 x2 w = some (r, w') → W p l e (rmX8_cuts) s m args below meth c H locs 0 0 Q (F0 m 0 ls []) := by
  have hx := X.1
  have hb := X.2.1
  have hml := X.2.2.1
  have hown := X.2.2.2.1
  have hts := X.2.2.2.2.1
  intro x1 x2 w H locs ls hP hS hl h
  unfold fX8_cuts_E at h
  refine lv_iload_n hx hb dX8_cuts_0 rfl (lv_at hl 1 rfl) ?_
  obtain ⟨r_8, e_7, h⟩ := bo_s h
  refine x_goi X hS (x_runS (As := [.int x1]) (rest := []) X gM_ok hP hS (ctX8_isRoom l D c3 ad w _ x1 _ e_7) (va_cwS 1 hts gX8_cuts_X8_isRoom rfl rfl rfl (by decide +kernel) ⟨by decide, by decide⟩) rfl hl.1 rfl (Nat.le_of_ble_eq_true rfl) dX8_cuts_1) (fun H locs hP hS => ?_)
  refine lv_if_eq (tgt := 14) hx hb dX8_cuts_4 (by decide) (fun c_10 => ?_) (fun c_10 => ?_)
  · replace h := it_p c_10 h
    refine lv_iconst (v := (-1)) hx hb dX8_cuts_14 (by decide) ?_
    obtain ⟨rfl, rfl⟩ := Prod.mk.inj (Option.some.inj h)
    exact hret _ _ _ _ hP hS dX8_cuts_15
  · replace h := it_n c_10 h
    refine lv_iload_n hx hb dX8_cuts_7 rfl (lv_at hl 2 rfl) ?_
    obtain ⟨r_12, e_11, h⟩ := bo_s h
    refine x_goi X hS (x_runS (As := [.int x2]) (rest := []) X gM_ok hP hS (ctX8_isRoom l D c3 ad w _ x2 _ e_11) (va_cwS 1 hts gX8_cuts_X8_isRoom rfl rfl rfl (by decide +kernel) ⟨by decide, by decide⟩) rfl hl.1 rfl (Nat.le_of_ble_eq_true rfl) dX8_cuts_8) (fun H locs hP hS => ?_)
    refine lv_if_ne (tgt := 16) hx hb dX8_cuts_11 (by decide) (fun c_14 => ?_) (fun c_14 => ?_)
    · replace h := it_n c_14 h
      refine lv_aload_n hx hb dX8_cuts_16 rfl (lv_at hl 0 rfl) ?_
      refine lv_iload_n hx hb dX8_cuts_17 rfl (lv_at hl 1 rfl) ?_
      refine lv_iload_n hx hb dX8_cuts_18 rfl (lv_at hl 2 rfl) ?_
      refine lv_aload_n hx hb dX8_cuts_19 rfl (lv_at hl 0 rfl) ?_
      refine x_get (rest := [.int x2, .int x1, .ref (ad 0)]) X hP (gM0 c3 ad w) rfl iwX8_cuts_X8 7 (by decide) lkX8_cuts_170 rfl dX8_cuts_20 ?_
      obtain ⟨r_16, w_17, e_15, h⟩ := bd_s h
      refine x_goi X hS (x_runV (As := [.int x1, .int x2, .int (w.1 0 7)]) (rest := []) X gM_ok hP hS (ctX8_wayBut l D c3 ad w _ x1 x2 (w.1 0 7) _ _ e_15) (cwV 3 hts gX8_cuts_X8_wayBut rfl rfl rfl (by decide +kernel) ⟨by decide, by decide⟩) (gM0 c3 ad w) rfl rfl rfl hl.1 rfl (Nat.le_of_ble_eq_true rfl) dX8_cuts_23) (fun H locs hP hS => ?_)
      refine lv_bipush (v := (-9)) hx hb dX8_cuts_26 (by decide) ?_
      refine lv_icmp_ne (tgt := 33) hx hb dX8_cuts_28 (by decide) (fun c_18 => ?_) (fun c_18 => ?_)
      · replace h := it_n c_18 h
        refine lv_iconst (v := 0) hx hb dX8_cuts_33 (by decide) ?_
        refine lv_istore_n (lv' := [(3, .int 0), (0, .ref (ad 0)), (1, .int x1), (2, .int x2)]) hx hb dX8_cuts_34 rfl hl (by decide) rfl (fun ls hl => ?_)
        refine lv_iconst (v := 0) hx hb dX8_cuts_35 (by decide) ?_
        refine lv_istore (lv' := [(4, .int 0), (3, .int 0), (0, .ref (ad 0)), (1, .int x1), (2, .int x2)]) hx hb dX8_cuts_36 hl (by decide) rfl (fun ls hl => ?_)
        exact bX8_cuts_38 X hret x1 x2 FU 0 0 w_17 _ _ _ hP hS (lv_sub hl [2, 3, 4, 1, 0] rfl) h
      · replace h := it_p c_18 h
        refine lv_iconst (v := 0) hx hb dX8_cuts_31 (by decide) ?_
        obtain ⟨rfl, rfl⟩ := Prod.mk.inj (Option.some.inj h)
        exact hret _ _ _ _ hP hS dX8_cuts_32
    · replace h := it_p c_14 h
      refine lv_iconst (v := (-1)) hx hb dX8_cuts_14 (by decide) ?_
      obtain ⟨rfl, rfl⟩ := Prod.mk.inj (Option.some.inj h)
      exact hret _ _ _ _ hP hS dX8_cuts_15
def fX8_cuts (x1 : Int32) (x2 : Int32) (w : Mm) : Option (Int32 × Mm) := fX8_cuts_E x1 x2 w
theorem ctX8_cuts (l : Launch) (D : va_G) (c3 : C3) (ad : Nat → Nat) (w : Mm) (sz : Nat) (x1 : Int32) (x2 : Int32) (r : Int32) (w' : Mm) (h : fX8_cuts x1 x2 w = some (r, w')) : Ci l yX8_cuts wsX8_cuts rmX8_cuts D c3 (encM c3 ad) gM [.ref (ad 0), .int x1, .int x2] w sz r w' := by
  refine Ci.of (cc := cX8_cuts) (maxL := 5) (encM_ok c3 ad) (by decide) rfl (Nat.le_of_ble_eq_true rfl) ?_
  intro p e s m below meth c A Q ls X hret hP hS hl
  exact bX8_cuts_E X hret x1 x2 w _ _ ls hP hS hl h
theorem iwX8_round_X8 : ∀ w ∈ wsX80, w ∈ wsX8_round := fun _ h => List.mem_cons_of_mem _ (List.mem_append_right _ h)
theorem lkX8_round_170 : Cond.fieldLink RX8 170 "StuckDoorModel" "stuck" "I" ∈ wsX8_round := by decide +kernel
def rmX8_round : Room := { frames := 2, cells := 0, slots := 0, locals := 50 }
def fX8_round_E (x1 : Int32) (x2 : Int32) (w : Mm) : Option (Int32 × Mm) := bo (fX8_isRoom x1) (fun r_2 => (if r_2 = 0 then some ((-1), w) else bo (fX8_isRoom x2) (fun r_6 => (if r_6 = 0 then some ((-1), w) else bd (fX8_wayBut x1 x2 (w.1 0 7) w) (fun r_10 w_11 => (if r_10 = (-9) then some ((-9), w_11) else bd (fX8_wayBut x1 x2 0 w_11) (fun r_14 w_15 => some ((r_10 - r_14), w_15))))))))
set_option maxRecDepth 20000 in
theorem bX8_round_E {p : Program} {l : Launch} {e : Env} {s : State} {m : MethodId} {args : Array Value} {below : List Frame} {meth : Method} {c : Code} {Q : State → Prop} {D : va_G} {c3 : C3} {ad : Nat → Nat} {A : Nat → Prop} {r : Int32} {w' : Mm} (X : Cx p s m args c cX8_round 4 RX8 wsX8_round D c3 (encM c3 ad) gM A) (hret : Ri p l e (rmX8_round) s m args below meth c Q cX8_round D (encM c3 ad) A r w') : ∀ (x1 : Int32) (x2 : Int32) (w : Mm) (H : Heap) (locs : List Loc) (ls : Array Slot), va_P D vwCl ((encM c3 ad) w) H → va_S A s.heap H locs → lv_has ls 4 [(0, .ref (ad 0)), (1, .int x1), (2, .int x2)] → fX8_round_E x1 x2 w = some (r, w') → W p l e (rmX8_round) s m args below meth c H locs 0 0 Q (F0 m 0 ls []) := by
  have hx := X.1
  have hb := X.2.1
  have hml := X.2.2.1
  have hown := X.2.2.2.1
  have hts := X.2.2.2.2.1
  intro x1 x2 w H locs ls hP hS hl h
  unfold fX8_round_E at h
  refine lv_iload_n hx hb dX8_round_0 rfl (lv_at hl 1 rfl) ?_
  obtain ⟨r_2, e_1, h⟩ := bo_s h
  refine x_goi X hS (x_runS (As := [.int x1]) (rest := []) X gM_ok hP hS (ctX8_isRoom l D c3 ad w _ x1 _ e_1) (va_cwS 1 hts gX8_round_X8_isRoom rfl rfl rfl (by decide +kernel) ⟨by decide, by decide⟩) rfl hl.1 rfl (Nat.le_of_ble_eq_true rfl) dX8_round_1) (fun H locs hP hS => ?_)
  refine lv_if_eq (tgt := 14) hx hb dX8_round_4 (by decide) (fun c_4 => ?_) (fun c_4 => ?_)
  · replace h := it_p c_4 h
    refine lv_iconst (v := (-1)) hx hb dX8_round_14 (by decide) ?_
    obtain ⟨rfl, rfl⟩ := Prod.mk.inj (Option.some.inj h)
    exact hret _ _ _ _ hP hS dX8_round_15
  · replace h := it_n c_4 h
    refine lv_iload_n hx hb dX8_round_7 rfl (lv_at hl 2 rfl) ?_
    obtain ⟨r_6, e_5, h⟩ := bo_s h
    refine x_goi X hS (x_runS (As := [.int x2]) (rest := []) X gM_ok hP hS (ctX8_isRoom l D c3 ad w _ x2 _ e_5) (va_cwS 1 hts gX8_round_X8_isRoom rfl rfl rfl (by decide +kernel) ⟨by decide, by decide⟩) rfl hl.1 rfl (Nat.le_of_ble_eq_true rfl) dX8_round_8) (fun H locs hP hS => ?_)
    refine lv_if_ne (tgt := 16) hx hb dX8_round_11 (by decide) (fun c_8 => ?_) (fun c_8 => ?_)
    · replace h := it_n c_8 h
      refine lv_aload_n hx hb dX8_round_16 rfl (lv_at hl 0 rfl) ?_
      refine lv_iload_n hx hb dX8_round_17 rfl (lv_at hl 1 rfl) ?_
      refine lv_iload_n hx hb dX8_round_18 rfl (lv_at hl 2 rfl) ?_
      refine lv_aload_n hx hb dX8_round_19 rfl (lv_at hl 0 rfl) ?_
      refine x_get (rest := [.int x2, .int x1, .ref (ad 0)]) X hP (gM0 c3 ad w) rfl iwX8_round_X8 7 (by decide) lkX8_round_170 rfl dX8_round_20 ?_
      obtain ⟨r_10, w_11, e_9, h⟩ := bd_s h
      refine x_goi X hS (x_runV (As := [.int x1, .int x2, .int (w.1 0 7)]) (rest := []) X gM_ok hP hS (ctX8_wayBut l D c3 ad w _ x1 x2 (w.1 0 7) _ _ e_9) (cwV 3 hts gX8_round_X8_wayBut rfl rfl rfl (by decide +kernel) ⟨by decide, by decide⟩) (gM0 c3 ad w) rfl rfl rfl hl.1 rfl (Nat.le_of_ble_eq_true rfl) dX8_round_23) (fun H locs hP hS => ?_)
      refine lv_istore_n (lv' := [(3, .int r_10), (0, .ref (ad 0)), (1, .int x1), (2, .int x2)]) hx hb dX8_round_26 rfl hl (by decide) rfl (fun ls hl => ?_)
      refine lv_iload_n hx hb dX8_round_27 rfl (lv_at hl 0 rfl) ?_
      refine lv_bipush (v := (-9)) hx hb dX8_round_28 (by decide) ?_
      refine lv_icmp_ne (tgt := 38) hx hb dX8_round_30 (by decide) (fun c_12 => ?_) (fun c_12 => ?_)
      · replace h := it_n c_12 h
        refine lv_iload_n hx hb dX8_round_38 rfl (lv_at hl 0 rfl) ?_
        refine lv_aload_n hx hb dX8_round_39 rfl (lv_at hl 1 rfl) ?_
        refine lv_iload_n hx hb dX8_round_40 rfl (lv_at hl 2 rfl) ?_
        refine lv_iload_n hx hb dX8_round_41 rfl (lv_at hl 3 rfl) ?_
        refine lv_iconst (v := 0) hx hb dX8_round_42 (by decide) ?_
        obtain ⟨r_14, w_15, e_13, h⟩ := bd_s h
        refine x_goi X hS (x_runV (As := [.int x1, .int x2, .int 0]) (rest := [.int r_10]) X gM_ok hP hS (ctX8_wayBut l D c3 ad w_11 _ x1 x2 0 _ _ e_13) (cwV 3 hts gX8_round_X8_wayBut rfl rfl rfl (by decide +kernel) ⟨by decide, by decide⟩) (gM0 c3 ad w_11) rfl rfl rfl hl.1 rfl (Nat.le_of_ble_eq_true rfl) dX8_round_43) (fun H locs hP hS => ?_)
        refine lv_isub hx hb dX8_round_46 ?_
        obtain ⟨rfl, rfl⟩ := Prod.mk.inj (Option.some.inj h)
        exact hret _ _ _ _ hP hS dX8_round_47
      · replace h := it_p c_12 h
        refine lv_bipush (v := (-9)) hx hb dX8_round_33 (by decide) ?_
        refine lv_goto (tgt := 47) hx hb dX8_round_35 (by decide) ?_
        obtain ⟨rfl, rfl⟩ := Prod.mk.inj (Option.some.inj h)
        exact hret _ _ _ _ hP hS dX8_round_47
    · replace h := it_p c_8 h
      refine lv_iconst (v := (-1)) hx hb dX8_round_14 (by decide) ?_
      obtain ⟨rfl, rfl⟩ := Prod.mk.inj (Option.some.inj h)
      exact hret _ _ _ _ hP hS dX8_round_15
def fX8_round (x1 : Int32) (x2 : Int32) (w : Mm) : Option (Int32 × Mm) := fX8_round_E x1 x2 w
theorem ctX8_round (l : Launch) (D : va_G) (c3 : C3) (ad : Nat → Nat) (w : Mm) (sz : Nat) (x1 : Int32) (x2 : Int32) (r : Int32) (w' : Mm) (h : fX8_round x1 x2 w = some (r, w')) : Ci l yX8_round wsX8_round rmX8_round D c3 (encM c3 ad) gM [.ref (ad 0), .int x1, .int x2] w sz r w' := by
  refine Ci.of (cc := cX8_round) (maxL := 4) (encM_ok c3 ad) (by decide) rfl (Nat.le_of_ble_eq_true rfl) ?_
  intro p e s m below meth c A Q ls X hret hP hS hl
  exact bX8_round_E X hret x1 x2 w _ _ ls hP hS hl h
theorem iwX8_noSayings_X8 : ∀ w ∈ wsX80, w ∈ wsX8_noSayings := fun _ h => List.mem_cons_of_mem _ (List.mem_append_right _ h)
theorem lkX8_noSayings_25 : Cond.fieldLink RX8 25 "StuckDoorModel" "sizes" "[I" ∈ wsX8_noSayings := by decide +kernel
theorem lkX8_noSayings_28 : Cond.fieldLink RX8 28 "StuckDoorModel" "items" "[I" ∈ wsX8_noSayings := by decide +kernel
def rmX8_noSayings : Room := { frames := 2, cells := 0, slots := 0, locals := 46 }
def fX8_noSayings_37 (x1 : Int32) : Nat → Int32 → Mm → Option (Int32 × Mm)
  | 0, _, _ => none
  | n + 1, x2, w => gd (inb x1 6 = true) ((if ((40 * x1) + (w.1 6 x1.toNatClampNeg)) ≤ x2 then some (0, w) else gd (inb x2 240 = true) (bo (fX8_isSaying (w.1 7 x2.toNatClampNeg) w) (fun r_5 => (if r_5 = 0 then bd (fX8_find 3 w) (fun r_9 w_10 => some (r_9, w_10)) else fX8_noSayings_37 x1 n (x2 + 1) w)))))
set_option maxRecDepth 20000 in
theorem bX8_noSayings_37 {p : Program} {l : Launch} {e : Env} {s : State} {m : MethodId} {args : Array Value} {below : List Frame} {meth : Method} {c : Code} {Q : State → Prop} {D : va_G} {c3 : C3} {ad : Nat → Nat} {A : Nat → Prop} {r : Int32} {w' : Mm} (X : Cx p s m args c cX8_noSayings 3 RX8 wsX8_noSayings D c3 (encM c3 ad) gM A) (hret : Ri p l e (rmX8_noSayings) s m args below meth c Q cX8_noSayings D (encM c3 ad) A r w') : ∀ (x1 : Int32) (n : Nat) (x2 : Int32) (w : Mm) (H : Heap) (locs : List Loc) (ls : Array Slot), va_P D vwCl ((encM c3 ad) w) H → va_S A s.heap H locs → lv_has ls 3 [(0, .ref (ad 0)), (1, .int x1), (2, .int x2)] → fX8_noSayings_37 x1 n x2 w = some (r, w') → W p l e (rmX8_noSayings) s m args below meth c H locs 0 0 Q (F0 m 37 ls []) := by
  have hx := X.1
  have hb := X.2.1
  have hml := X.2.2.1
  have hown := X.2.2.2.1
  have hts := X.2.2.2.2.1
  intro x1 n
  induction n with
  | zero =>
    intro x2 w H locs ls hP hS hl h
    exact absurd h (by simp [fX8_noSayings_37])
  | succ n ih =>
    intro x2 w H locs ls hP hS hl h
    rw [fX8_noSayings_37] at h
    refine lv_iload_n hx hb dX8_noSayings_37 rfl (lv_at hl 2 rfl) ?_
    refine lv_bipush (v := 40) hx hb dX8_noSayings_38 (by decide) ?_
    refine lv_iload_n hx hb dX8_noSayings_40 rfl (lv_at hl 1 rfl) ?_
    refine lv_imul hx hb dX8_noSayings_41 ?_
    refine lv_aload_n hx hb dX8_noSayings_42 rfl (lv_at hl 0 rfl) ?_
    refine x_get (rest := [.int (40 * x1), .int x2]) X hP (gM0 c3 ad w) rfl iwX8_noSayings_X8 8 (by decide) lkX8_noSayings_25 rfl dX8_noSayings_43 ?_
    refine lv_iload_n hx hb dX8_noSayings_46 rfl (lv_at hl 1 rfl) ?_
    obtain ⟨g_1, h⟩ := gd_s h
    refine x_iald X hP (gM6 c3 ad w) g_1 dX8_noSayings_47 ?_
    refine lv_iadd hx hb dX8_noSayings_48 ?_
    refine lv_icmp_ge (tgt := 77) hx hb dX8_noSayings_49 (by decide) (fun c_2 => ?_) (fun c_2 => ?_)
    · replace h := it_p c_2 h
      refine lv_iconst (v := 0) hx hb dX8_noSayings_77 (by decide) ?_
      obtain ⟨rfl, rfl⟩ := Prod.mk.inj (Option.some.inj h)
      exact hret _ _ _ _ hP hS dX8_noSayings_78
    · replace h := it_n c_2 h
      refine lv_aload_n hx hb dX8_noSayings_52 rfl (lv_at hl 0 rfl) ?_
      refine lv_aload_n hx hb dX8_noSayings_53 rfl (lv_at hl 0 rfl) ?_
      refine x_get (rest := [.ref (ad 0)]) X hP (gM0 c3 ad w) rfl iwX8_noSayings_X8 9 (by decide) lkX8_noSayings_28 rfl dX8_noSayings_54 ?_
      refine lv_iload_n hx hb dX8_noSayings_57 rfl (lv_at hl 2 rfl) ?_
      obtain ⟨g_3, h⟩ := gd_s h
      refine x_iald X hP (gM7 c3 ad w) g_3 dX8_noSayings_58 ?_
      obtain ⟨r_5, e_4, h⟩ := bo_s h
      refine x_goi X hS (x_runV (As := [.int (w.1 7 x2.toNatClampNeg)]) (rest := []) X gM_ok hP hS (ctX8_isSaying l D c3 ad w _ (w.1 7 x2.toNatClampNeg) _ e_4) (cwV 1 hts gX8_noSayings_X8_isSaying rfl rfl rfl (by decide +kernel) ⟨by decide, by decide⟩) (gM0 c3 ad w) rfl rfl rfl hl.1 rfl (Nat.le_of_ble_eq_true rfl) dX8_noSayings_59) (fun H locs hP hS => ?_)
      refine lv_if_ne (tgt := 71) hx hb dX8_noSayings_62 (by decide) (fun c_7 => ?_) (fun c_7 => ?_)
      · replace h := it_n c_7 h
        refine lv_iinc (v := (x2 + 1)) (lv' := [(2, .int (x2 + 1)), (0, .ref (ad 0)), (1, .int x1)]) hx hb dX8_noSayings_71 hl (k := 2) rfl rfl (by decide) rfl (fun ls hl => ?_)
        refine lv_goto (tgt := 37) hx hb dX8_noSayings_74 (by decide) ?_
        exact ih (x2 + 1) w _ _ _ hP hS (lv_sub hl [1, 2, 0] rfl) h
      · replace h := it_p c_7 h
        refine lv_aload_n hx hb dX8_noSayings_65 rfl (lv_at hl 0 rfl) ?_
        refine lv_iconst (v := 3) hx hb dX8_noSayings_66 (by decide) ?_
        obtain ⟨r_9, w_10, e_8, h⟩ := bd_s h
        refine x_goi X hS (x_runV (As := [.int 3]) (rest := []) X gM_ok hP hS (ctX8_find l D c3 ad w _ 3 _ _ e_8) (cwV 1 hts gX8_noSayings_X8_find rfl rfl rfl (by decide +kernel) ⟨by decide, by decide⟩) (gM0 c3 ad w) rfl rfl rfl hl.1 rfl (Nat.le_of_ble_eq_true rfl) dX8_noSayings_67) (fun H locs hP hS => ?_)
        obtain ⟨rfl, rfl⟩ := Prod.mk.inj (Option.some.inj h)
        exact hret _ _ _ _ hP hS dX8_noSayings_70
def fX8_noSayings_E (x1 : Int32) (w : Mm) : Option (Int32 × Mm) := gd (inb x1 6 = true) ((if 0 ≤ (w.1 6 x1.toNatClampNeg) then (if (w.1 6 x1.toNatClampNeg) ≤ 12 then nm (40 * x1) (fun x2_14 => fX8_noSayings_37 x1 FU x2_14 w) else bd (fX8_find 5 w) (fun r_16 w_17 => some (r_16, w_17))) else bd (fX8_find 1 w) (fun r_19 w_20 => some (r_19, w_20))))
set_option maxRecDepth 20000 in
theorem bX8_noSayings_E {p : Program} {l : Launch} {e : Env} {s : State} {m : MethodId} {args : Array Value} {below : List Frame} {meth : Method} {c : Code} {Q : State → Prop} {D : va_G} {c3 : C3} {ad : Nat → Nat} {A : Nat → Prop} {r : Int32} {w' : Mm} (X : Cx p s m args c cX8_noSayings 3 RX8 wsX8_noSayings D c3 (encM c3 ad) gM A) (hret : Ri p l e (rmX8_noSayings) s m args below meth c Q cX8_noSayings D (encM c3 ad) A r w') : ∀ (x1 : Int32) (w : Mm) (H : Heap) (locs : List Loc) (ls : Array Slot), va_P D vwCl ((encM c3 ad) w) H → va_S A s.heap H locs → lv_has ls 3 [(0, .ref (ad 0)), (1, .int x1)] → fX8_noSayings_E x1 w = some (r, w') → W p l e (rmX8_noSayings) s m args below meth c H locs 0 0 Q (F0 m 0 ls []) := by
  have hx := X.1
  have hb := X.2.1
  have hml := X.2.2.1
  have hown := X.2.2.2.1
  have hts := X.2.2.2.2.1
  intro x1 w H locs ls hP hS hl h
  unfold fX8_noSayings_E at h
  refine lv_aload_n hx hb dX8_noSayings_0 rfl (lv_at hl 0 rfl) ?_
  refine x_get (rest := []) X hP (gM0 c3 ad w) rfl iwX8_noSayings_X8 8 (by decide) lkX8_noSayings_25 rfl dX8_noSayings_1 ?_
  refine lv_iload_n hx hb dX8_noSayings_4 rfl (lv_at hl 1 rfl) ?_
  obtain ⟨g_11, h⟩ := gd_s h
  refine x_iald X hP (gM6 c3 ad w) g_11 dX8_noSayings_5 ?_
  refine lv_if_ge (tgt := 15) hx hb dX8_noSayings_6 (by decide) (fun c_12 => ?_) (fun c_12 => ?_)
  · replace h := it_p c_12 h
    refine lv_aload_n hx hb dX8_noSayings_15 rfl (lv_at hl 0 rfl) ?_
    refine x_get (rest := []) X hP (gM0 c3 ad w) rfl iwX8_noSayings_X8 8 (by decide) lkX8_noSayings_25 rfl dX8_noSayings_16 ?_
    refine lv_iload_n hx hb dX8_noSayings_19 rfl (lv_at hl 1 rfl) ?_
    refine x_iald X hP (gM6 c3 ad w) g_11 dX8_noSayings_20 ?_
    refine lv_bipush (v := 12) hx hb dX8_noSayings_21 (by decide) ?_
    refine lv_icmp_le (tgt := 32) hx hb dX8_noSayings_23 (by decide) (fun c_13 => ?_) (fun c_13 => ?_)
    · replace h := it_p c_13 h
      refine lv_bipush (v := 40) hx hb dX8_noSayings_32 (by decide) ?_
      refine lv_iload_n hx hb dX8_noSayings_34 rfl (lv_at hl 1 rfl) ?_
      refine lv_imul hx hb dX8_noSayings_35 ?_
      refine x_nmi h (fun x2_14 h => ?_)
      refine lv_istore_n (lv' := [(2, .int x2_14), (0, .ref (ad 0)), (1, .int x1)]) hx hb dX8_noSayings_36 rfl hl (by decide) rfl (fun ls hl => ?_)
      exact bX8_noSayings_37 X hret x1 FU x2_14 w _ _ _ hP hS (lv_sub hl [1, 2, 0] rfl) h
    · replace h := it_n c_13 h
      refine lv_aload_n hx hb dX8_noSayings_26 rfl (lv_at hl 0 rfl) ?_
      refine lv_iconst (v := 5) hx hb dX8_noSayings_27 (by decide) ?_
      obtain ⟨r_16, w_17, e_15, h⟩ := bd_s h
      refine x_goi X hS (x_runV (As := [.int 5]) (rest := []) X gM_ok hP hS (ctX8_find l D c3 ad w _ 5 _ _ e_15) (cwV 1 hts gX8_noSayings_X8_find rfl rfl rfl (by decide +kernel) ⟨by decide, by decide⟩) (gM0 c3 ad w) rfl rfl rfl hl.1 rfl (Nat.le_of_ble_eq_true rfl) dX8_noSayings_28) (fun H locs hP hS => ?_)
      obtain ⟨rfl, rfl⟩ := Prod.mk.inj (Option.some.inj h)
      exact hret _ _ _ _ hP hS dX8_noSayings_31
  · replace h := it_n c_12 h
    refine lv_aload_n hx hb dX8_noSayings_9 rfl (lv_at hl 0 rfl) ?_
    refine lv_iconst (v := 1) hx hb dX8_noSayings_10 (by decide) ?_
    obtain ⟨r_19, w_20, e_18, h⟩ := bd_s h
    refine x_goi X hS (x_runV (As := [.int 1]) (rest := []) X gM_ok hP hS (ctX8_find l D c3 ad w _ 1 _ _ e_18) (cwV 1 hts gX8_noSayings_X8_find rfl rfl rfl (by decide +kernel) ⟨by decide, by decide⟩) (gM0 c3 ad w) rfl rfl rfl hl.1 rfl (Nat.le_of_ble_eq_true rfl) dX8_noSayings_11) (fun H locs hP hS => ?_)
    obtain ⟨rfl, rfl⟩ := Prod.mk.inj (Option.some.inj h)
    exact hret _ _ _ _ hP hS dX8_noSayings_14
def fX8_noSayings (x1 : Int32) (w : Mm) : Option (Int32 × Mm) := fX8_noSayings_E x1 w
theorem ctX8_noSayings (l : Launch) (D : va_G) (c3 : C3) (ad : Nat → Nat) (w : Mm) (sz : Nat) (x1 : Int32) (r : Int32) (w' : Mm) (h : fX8_noSayings x1 w = some (r, w')) : Ci l yX8_noSayings wsX8_noSayings rmX8_noSayings D c3 (encM c3 ad) gM [.ref (ad 0), .int x1] w sz r w' := by
  refine Ci.of (cc := cX8_noSayings) (maxL := 3) (encM_ok c3 ad) (by decide) rfl (Nat.le_of_ble_eq_true rfl) ?_
  intro p e s m below meth c A Q ls X hret hP hS hl
  exact bX8_noSayings_E X hret x1 w _ _ ls hP hS hl h
theorem iwX8_neverOf_X8 : ∀ w ∈ wsX80, w ∈ wsX8_neverOf := fun _ h => List.mem_cons_of_mem _ (List.mem_append_right _ h)
theorem lkX8_neverOf_22 : Cond.fieldLink RX8 22 "StuckDoorModel" "topics" "[I" ∈ wsX8_neverOf := by decide +kernel
theorem lkX8_neverOf_25 : Cond.fieldLink RX8 25 "StuckDoorModel" "sizes" "[I" ∈ wsX8_neverOf := by decide +kernel
theorem lkX8_neverOf_28 : Cond.fieldLink RX8 28 "StuckDoorModel" "items" "[I" ∈ wsX8_neverOf := by decide +kernel
def rmX8_neverOf : Room := { frames := 0, cells := 0, slots := 0, locals := 0 }
def fX8_neverOf_8 (x1 : Int32) (w : Mm) : Nat → Int32 → Int32 → Option (Int32)
  | 0, _, _ => none
  | n + 1, x2, x3 => gd (inb x1 6 = true) ((if ((40 * x1) + (w.1 6 x1.toNatClampNeg)) ≤ x3 then some x2 else gd (inb x3 240 = true) (gd (inb (w.1 7 x3.toNatClampNeg) 6 = true) (nm (x2 &&& ((w.1 5 (w.1 7 x3.toNatClampNeg).toNatClampNeg) ^^^ (-1))) (fun x2_5 => fX8_neverOf_8 x1 w n x2_5 (x3 + 1))))))
set_option maxRecDepth 20000 in
theorem bX8_neverOf_8 {p : Program} {l : Launch} {e : Env} {s : State} {m : MethodId} {args : Array Value} {below : List Frame} {meth : Method} {c : Code} {Q : State → Prop} {D : va_G} {c3 : C3} {ad : Nat → Nat} {A : Nat → Prop} {r : Int32} {w : Mm} (X : Cx p s m args c cX8_neverOf 4 RX8 wsX8_neverOf D c3 (encM c3 ad) gM A) (hret : Ri p l e (rmX8_neverOf) s m args below meth c Q cX8_neverOf D (encM c3 ad) A r w) : ∀ (x1 : Int32) (n : Nat) (x2 : Int32) (x3 : Int32) (H : Heap) (locs : List Loc) (ls : Array Slot), va_P D vwCl ((encM c3 ad) w) H → va_S A s.heap H locs → lv_has ls 4 [(0, .ref (ad 0)), (1, .int x1), (2, .int x2), (3, .int x3)] → fX8_neverOf_8 x1 w n x2 x3 = some r → W p l e (rmX8_neverOf) s m args below meth c H locs 0 0 Q (F0 m 8 ls []) := by
  have hx := X.1
  have hb := X.2.1
  have hml := X.2.2.1
  have hown := X.2.2.2.1
  have hts := X.2.2.2.2.1
  intro x1 n
  induction n with
  | zero =>
    intro x2 x3 H locs ls hP hS hl h
    exact absurd h (by simp [fX8_neverOf_8])
  | succ n ih =>
    intro x2 x3 H locs ls hP hS hl h
    rw [fX8_neverOf_8] at h
    refine lv_iload_n hx hb dX8_neverOf_8 rfl (lv_at hl 3 rfl) ?_
    refine lv_bipush (v := 40) hx hb dX8_neverOf_9 (by decide) ?_
    refine lv_iload_n hx hb dX8_neverOf_11 rfl (lv_at hl 1 rfl) ?_
    refine lv_imul hx hb dX8_neverOf_12 ?_
    refine lv_aload_n hx hb dX8_neverOf_13 rfl (lv_at hl 0 rfl) ?_
    refine x_get (rest := [.int (40 * x1), .int x3]) X hP (gM0 c3 ad w) rfl iwX8_neverOf_X8 8 (by decide) lkX8_neverOf_25 rfl dX8_neverOf_14 ?_
    refine lv_iload_n hx hb dX8_neverOf_17 rfl (lv_at hl 1 rfl) ?_
    obtain ⟨g_1, h⟩ := gd_s h
    refine x_iald X hP (gM6 c3 ad w) g_1 dX8_neverOf_18 ?_
    refine lv_iadd hx hb dX8_neverOf_19 ?_
    refine lv_icmp_ge (tgt := 45) hx hb dX8_neverOf_20 (by decide) (fun c_2 => ?_) (fun c_2 => ?_)
    · replace h := it_p c_2 h
      refine lv_iload_n hx hb dX8_neverOf_45 rfl (lv_at hl 2 rfl) ?_
      obtain rfl := Option.some.inj h
      exact hret _ _ _ _ hP hS dX8_neverOf_46
    · replace h := it_n c_2 h
      refine lv_iload_n hx hb dX8_neverOf_23 rfl (lv_at hl 2 rfl) ?_
      refine lv_aload_n hx hb dX8_neverOf_24 rfl (lv_at hl 0 rfl) ?_
      refine x_get (rest := [.int x2]) X hP (gM0 c3 ad w) rfl iwX8_neverOf_X8 6 (by decide) lkX8_neverOf_22 rfl dX8_neverOf_25 ?_
      refine lv_aload_n hx hb dX8_neverOf_28 rfl (lv_at hl 0 rfl) ?_
      refine x_get (rest := [.ref (ad 5), .int x2]) X hP (gM0 c3 ad w) rfl iwX8_neverOf_X8 9 (by decide) lkX8_neverOf_28 rfl dX8_neverOf_29 ?_
      refine lv_iload_n hx hb dX8_neverOf_32 rfl (lv_at hl 3 rfl) ?_
      obtain ⟨g_3, h⟩ := gd_s h
      refine x_iald X hP (gM7 c3 ad w) g_3 dX8_neverOf_33 ?_
      obtain ⟨g_4, h⟩ := gd_s h
      refine x_iald X hP (gM5 c3 ad w) g_4 dX8_neverOf_34 ?_
      refine lv_iconst (v := (-1)) hx hb dX8_neverOf_35 (by decide) ?_
      refine lv_ixor hx hb dX8_neverOf_36 ?_
      refine lv_iand hx hb dX8_neverOf_37 ?_
      refine x_nmi h (fun x2_5 h => ?_)
      refine lv_istore_n (lv' := [(2, .int x2_5), (0, .ref (ad 0)), (1, .int x1), (3, .int x3)]) hx hb dX8_neverOf_38 rfl hl (by decide) rfl (fun ls hl => ?_)
      refine lv_iinc (v := (x3 + 1)) (lv' := [(3, .int (x3 + 1)), (2, .int x2_5), (0, .ref (ad 0)), (1, .int x1)]) hx hb dX8_neverOf_39 hl (k := 3) rfl rfl (by decide) rfl (fun ls hl => ?_)
      refine lv_goto (tgt := 8) hx hb dX8_neverOf_42 (by decide) ?_
      exact ih x2_5 (x3 + 1) _ _ _ hP hS (lv_sub hl [2, 3, 1, 0] rfl) h
def fX8_neverOf_E (x1 : Int32) (w : Mm) : Option (Int32) := nm (40 * x1) (fun x3_6 => fX8_neverOf_8 x1 w FU 7 x3_6)
set_option maxRecDepth 20000 in
theorem bX8_neverOf_E {p : Program} {l : Launch} {e : Env} {s : State} {m : MethodId} {args : Array Value} {below : List Frame} {meth : Method} {c : Code} {Q : State → Prop} {D : va_G} {c3 : C3} {ad : Nat → Nat} {A : Nat → Prop} {r : Int32} {w : Mm} (X : Cx p s m args c cX8_neverOf 4 RX8 wsX8_neverOf D c3 (encM c3 ad) gM A) (hret : Ri p l e (rmX8_neverOf) s m args below meth c Q cX8_neverOf D (encM c3 ad) A r w) : ∀ (x1 : Int32) (H : Heap) (locs : List Loc) (ls : Array Slot), va_P D vwCl ((encM c3 ad) w) H → va_S A s.heap H locs → lv_has ls 4 [(0, .ref (ad 0)), (1, .int x1)] → fX8_neverOf_E x1 w = some r → W p l e (rmX8_neverOf) s m args below meth c H locs 0 0 Q (F0 m 0 ls []) := by
  have hx := X.1
  have hb := X.2.1
  have hml := X.2.2.1
  have hown := X.2.2.2.1
  have hts := X.2.2.2.2.1
  intro x1 H locs ls hP hS hl h
  unfold fX8_neverOf_E at h
  refine lv_bipush (v := 7) hx hb dX8_neverOf_0 (by decide) ?_
  refine lv_istore_n (lv' := [(2, .int 7), (0, .ref (ad 0)), (1, .int x1)]) hx hb dX8_neverOf_2 rfl hl (by decide) rfl (fun ls hl => ?_)
  refine lv_bipush (v := 40) hx hb dX8_neverOf_3 (by decide) ?_
  refine lv_iload_n hx hb dX8_neverOf_5 rfl (lv_at hl 2 rfl) ?_
  refine lv_imul hx hb dX8_neverOf_6 ?_
  refine x_nmi h (fun x3_6 h => ?_)
  refine lv_istore_n (lv' := [(3, .int x3_6), (2, .int 7), (0, .ref (ad 0)), (1, .int x1)]) hx hb dX8_neverOf_7 rfl hl (by decide) rfl (fun ls hl => ?_)
  exact bX8_neverOf_8 X hret x1 FU 7 x3_6 _ _ _ hP hS (lv_sub hl [2, 3, 1, 0] rfl) h
def fX8_neverOf (x1 : Int32) (w : Mm) : Option (Int32) := fX8_neverOf_E x1 w
theorem ctX8_neverOf (l : Launch) (D : va_G) (c3 : C3) (ad : Nat → Nat) (w : Mm) (sz : Nat) (x1 : Int32) (r : Int32) (h : fX8_neverOf x1 w = some r) : Ci l yX8_neverOf wsX8_neverOf rmX8_neverOf D c3 (encM c3 ad) gM [.ref (ad 0), .int x1] w sz r w := by
  refine Ci.of (cc := cX8_neverOf) (maxL := 4) (encM_ok c3 ad) (by decide) rfl (Nat.le_of_ble_eq_true rfl) ?_
  intro p e s m below meth c A Q ls X hret hP hS hl
  exact bX8_neverOf_E X hret x1 _ _ ls hP hS hl h
def rmX8_never : Room := { frames := 3, cells := 0, slots := 0, locals := 68 }
def fX8_never_E (x1 : Int32) (w : Mm) : Option (Int32 × Mm) := bo (fX8_isRow x1) (fun r_2 => (if r_2 = 0 then some ((-1), w) else bd (fX8_noSayings x1 w) (fun r_6 w_7 => (if r_6 = 0 then bo (fX8_neverOf x1 w_7) (fun r_10 => some (r_10, w_7)) else some (r_6, w_7)))))
set_option maxRecDepth 20000 in
theorem bX8_never_E {p : Program} {l : Launch} {e : Env} {s : State} {m : MethodId} {args : Array Value} {below : List Frame} {meth : Method} {c : Code} {Q : State → Prop} {D : va_G} {c3 : C3} {ad : Nat → Nat} {A : Nat → Prop} {r : Int32} {w' : Mm} (X : Cx p s m args c cX8_never 3 RX8 wsX8_never D c3 (encM c3 ad) gM A) (hret : Ri p l e (rmX8_never) s m args below meth c Q cX8_never D (encM c3 ad) A r w') : ∀ (x1 : Int32) (w : Mm) (H : Heap) (locs : List Loc) (ls : Array Slot), va_P D vwCl ((encM c3 ad) w) H → va_S A s.heap H locs → lv_has ls 3 [(0, .ref (ad 0)), (1, .int x1)] → fX8_never_E x1 w = some (r, w') → W p l e (rmX8_never) s m args below meth c H locs 0 0 Q (F0 m 0 ls []) := by
  have hx := X.1
  have hb := X.2.1
  have hml := X.2.2.1
  have hown := X.2.2.2.1
  have hts := X.2.2.2.2.1
  intro x1 w H locs ls hP hS hl h
  unfold fX8_never_E at h
  refine lv_iload_n hx hb dX8_never_0 rfl (lv_at hl 1 rfl) ?_
  obtain ⟨r_2, e_1, h⟩ := bo_s h
  refine x_goi X hS (x_runS (As := [.int x1]) (rest := []) X gM_ok hP hS (ctX8_isRow l D c3 ad w _ x1 _ e_1) (va_cwS 1 hts gX8_never_X8_isRow rfl rfl rfl (by decide +kernel) ⟨by decide, by decide⟩) rfl hl.1 rfl (Nat.le_of_ble_eq_true rfl) dX8_never_1) (fun H locs hP hS => ?_)
  refine lv_if_ne (tgt := 9) hx hb dX8_never_4 (by decide) (fun c_4 => ?_) (fun c_4 => ?_)
  · replace h := it_n c_4 h
    refine lv_aload_n hx hb dX8_never_9 rfl (lv_at hl 0 rfl) ?_
    refine lv_iload_n hx hb dX8_never_10 rfl (lv_at hl 1 rfl) ?_
    obtain ⟨r_6, w_7, e_5, h⟩ := bd_s h
    refine x_goi X hS (x_runV (As := [.int x1]) (rest := []) X gM_ok hP hS (ctX8_noSayings l D c3 ad w _ x1 _ _ e_5) (cwV 1 hts gX8_never_X8_noSayings rfl rfl rfl (by decide +kernel) ⟨by decide, by decide⟩) (gM0 c3 ad w) rfl rfl rfl hl.1 rfl (Nat.le_of_ble_eq_true rfl) dX8_never_11) (fun H locs hP hS => ?_)
    refine lv_istore_n (lv' := [(2, .int r_6), (0, .ref (ad 0)), (1, .int x1)]) hx hb dX8_never_14 rfl hl (by decide) rfl (fun ls hl => ?_)
    refine lv_iload_n hx hb dX8_never_15 rfl (lv_at hl 0 rfl) ?_
    refine lv_if_eq (tgt := 23) hx hb dX8_never_16 (by decide) (fun c_8 => ?_) (fun c_8 => ?_)
    · replace h := it_p c_8 h
      refine lv_aload_n hx hb dX8_never_23 rfl (lv_at hl 1 rfl) ?_
      refine lv_iload_n hx hb dX8_never_24 rfl (lv_at hl 2 rfl) ?_
      obtain ⟨r_10, e_9, h⟩ := bo_s h
      refine x_goi X hS (x_runV (As := [.int x1]) (rest := []) X gM_ok hP hS (ctX8_neverOf l D c3 ad w_7 _ x1 _ e_9) (cwV 1 hts gX8_never_X8_neverOf rfl rfl rfl (by decide +kernel) ⟨by decide, by decide⟩) (gM0 c3 ad w_7) rfl rfl rfl hl.1 rfl (Nat.le_of_ble_eq_true rfl) dX8_never_25) (fun H locs hP hS => ?_)
      obtain ⟨rfl, rfl⟩ := Prod.mk.inj (Option.some.inj h)
      exact hret _ _ _ _ hP hS dX8_never_28
    · replace h := it_n c_8 h
      refine lv_iload_n hx hb dX8_never_19 rfl (lv_at hl 0 rfl) ?_
      refine lv_goto (tgt := 28) hx hb dX8_never_20 (by decide) ?_
      obtain ⟨rfl, rfl⟩ := Prod.mk.inj (Option.some.inj h)
      exact hret _ _ _ _ hP hS dX8_never_28
  · replace h := it_p c_4 h
    refine lv_iconst (v := (-1)) hx hb dX8_never_7 (by decide) ?_
    obtain ⟨rfl, rfl⟩ := Prod.mk.inj (Option.some.inj h)
    exact hret _ _ _ _ hP hS dX8_never_8
def fX8_never (x1 : Int32) (w : Mm) : Option (Int32 × Mm) := fX8_never_E x1 w
theorem ctX8_never (l : Launch) (D : va_G) (c3 : C3) (ad : Nat → Nat) (w : Mm) (sz : Nat) (x1 : Int32) (r : Int32) (w' : Mm) (h : fX8_never x1 w = some (r, w')) : Ci l yX8_never wsX8_never rmX8_never D c3 (encM c3 ad) gM [.ref (ad 0), .int x1] w sz r w' := by
  refine Ci.of (cc := cX8_never) (maxL := 3) (encM_ok c3 ad) (by decide) rfl (Nat.le_of_ble_eq_true rfl) ?_
  intro p e s m below meth c A Q ls X hret hP hS hl
  exact bX8_never_E X hret x1 w _ _ ls hP hS hl h
theorem iwX8_next_X8 : ∀ w ∈ wsX80, w ∈ wsX8_next := fun _ h => List.mem_cons_of_mem _ (List.mem_append_right _ h)
theorem lkX8_next_22 : Cond.fieldLink RX8 22 "StuckDoorModel" "topics" "[I" ∈ wsX8_next := by decide +kernel
theorem lkX8_next_76 : Cond.fieldLink RX8 76 "StuckDoorModel" "asked" "I" ∈ wsX8_next := by decide +kernel
theorem lkX8_next_167 : Cond.fieldLink RX8 167 "StuckDoorModel" "sayings" "I" ∈ wsX8_next := by decide +kernel
def rmX8_next : Room := { frames := 3, cells := 0, slots := 0, locals := 68 }
def fX8_next_127 (k39 : Int32 → Int32 → Int32 → Mm → Option (Int32 × Mm)) (x1 : Int32) (x3 : Int32) (x5 : Int32) (z0 : Int32) (w : Mm) : Option (Int32 × Mm) := k39 x3 z0 (x5 + 1) w
set_option maxRecDepth 20000 in
theorem bX8_next_127 {p : Program} {l : Launch} {e : Env} {s : State} {m : MethodId} {args : Array Value} {below : List Frame} {meth : Method} {c : Code} {Q : State → Prop} {D : va_G} {c3 : C3} {ad : Nat → Nat} {A : Nat → Prop} {r : Int32} {w' : Mm} (X : Cx p s m args c cX8_next 8 RX8 wsX8_next D c3 (encM c3 ad) gM A) (hret : Ri p l e (rmX8_next) s m args below meth c Q cX8_next D (encM c3 ad) A r w') {x1 : Int32} {k39 : Int32 → Int32 → Int32 → Mm → Option (Int32 × Mm)} (hk39 : ∀ (x3 : Int32) (x4 : Int32) (x5 : Int32) (w : Mm) (H : Heap) (locs : List Loc) (ls : Array Slot), va_P D vwCl ((encM c3 ad) w) H → va_S A s.heap H locs → lv_has ls 8 [(0, .ref (ad 0)), (1, .int x1), (3, .int x3), (4, .int x4), (5, .int x5)] → k39 x3 x4 x5 w = some (r, w') → W p l e (rmX8_next) s m args below meth c H locs 0 0 Q (F0 m 39 ls [])) : ∀ (x3 : Int32) (x5 : Int32) (z0 : Int32) (w : Mm) (H : Heap) (locs : List Loc) (ls : Array Slot), va_P D vwCl ((encM c3 ad) w) H → va_S A s.heap H locs → lv_has ls 8 [(0, .ref (ad 0)), (1, .int x1), (3, .int x3), (5, .int x5)] → fX8_next_127 k39 x1 x3 x5 z0 w = some (r, w') → W p l e (rmX8_next) s m args below meth c H locs 0 0 Q (F0 m 127 ls [.int z0]) := by
  have hx := X.1
  have hb := X.2.1
  have hml := X.2.2.1
  have hown := X.2.2.2.1
  have hts := X.2.2.2.2.1
  intro x3 x5 z0 w H locs ls hP hS hl h
  unfold fX8_next_127 at h
  refine lv_istore (lv' := [(4, .int z0), (0, .ref (ad 0)), (1, .int x1), (3, .int x3), (5, .int x5)]) hx hb dX8_next_127 hl (by decide) rfl (fun ls hl => ?_)
  refine lv_iinc (v := (x5 + 1)) (lv' := [(5, .int (x5 + 1)), (4, .int z0), (0, .ref (ad 0)), (1, .int x1), (3, .int x3)]) hx hb dX8_next_129 hl (k := 4) rfl rfl (by decide) rfl (fun ls hl => ?_)
  refine lv_goto (tgt := 39) hx hb dX8_next_132 (by decide) ?_
  exact hk39 x3 z0 (x5 + 1) w _ _ _ hP hS (lv_sub hl [2, 3, 4, 1, 0] rfl) h
def fX8_next_114 (k39 : Int32 → Int32 → Int32 → Mm → Option (Int32 × Mm)) (x1 : Int32) (x4 : Int32) (x5 : Int32) (x6 : Int32) (x7 : Int32) (z0 : Int32) (w : Mm) : Option (Int32 × Mm) := (if x7 = 0 then fX8_next_127 k39 x1 z0 x5 x4 w else fX8_next_127 k39 x1 z0 x5 x6 w)
set_option maxRecDepth 20000 in
theorem bX8_next_114 {p : Program} {l : Launch} {e : Env} {s : State} {m : MethodId} {args : Array Value} {below : List Frame} {meth : Method} {c : Code} {Q : State → Prop} {D : va_G} {c3 : C3} {ad : Nat → Nat} {A : Nat → Prop} {r : Int32} {w' : Mm} (X : Cx p s m args c cX8_next 8 RX8 wsX8_next D c3 (encM c3 ad) gM A) (hret : Ri p l e (rmX8_next) s m args below meth c Q cX8_next D (encM c3 ad) A r w') {x1 : Int32} {k39 : Int32 → Int32 → Int32 → Mm → Option (Int32 × Mm)} (hk39 : ∀ (x3 : Int32) (x4 : Int32) (x5 : Int32) (w : Mm) (H : Heap) (locs : List Loc) (ls : Array Slot), va_P D vwCl ((encM c3 ad) w) H → va_S A s.heap H locs → lv_has ls 8 [(0, .ref (ad 0)), (1, .int x1), (3, .int x3), (4, .int x4), (5, .int x5)] → k39 x3 x4 x5 w = some (r, w') → W p l e (rmX8_next) s m args below meth c H locs 0 0 Q (F0 m 39 ls [])) : ∀ (x4 : Int32) (x5 : Int32) (x6 : Int32) (x7 : Int32) (z0 : Int32) (w : Mm) (H : Heap) (locs : List Loc) (ls : Array Slot), va_P D vwCl ((encM c3 ad) w) H → va_S A s.heap H locs → lv_has ls 8 [(0, .ref (ad 0)), (1, .int x1), (4, .int x4), (5, .int x5), (6, .int x6), (7, .int x7)] → fX8_next_114 k39 x1 x4 x5 x6 x7 z0 w = some (r, w') → W p l e (rmX8_next) s m args below meth c H locs 0 0 Q (F0 m 114 ls [.int z0]) := by
  have hx := X.1
  have hb := X.2.1
  have hml := X.2.2.1
  have hown := X.2.2.2.1
  have hts := X.2.2.2.2.1
  intro x4 x5 x6 x7 z0 w H locs ls hP hS hl h
  unfold fX8_next_114 at h
  refine lv_istore_n (lv' := [(3, .int z0), (0, .ref (ad 0)), (1, .int x1), (4, .int x4), (5, .int x5), (6, .int x6), (7, .int x7)]) hx hb dX8_next_114 rfl hl (by decide) rfl (fun ls hl => ?_)
  refine lv_iload hx hb dX8_next_115 (lv_at hl 6 rfl) ?_
  refine lv_if_eq (tgt := 125) hx hb dX8_next_117 (by decide) (fun c_1 => ?_) (fun c_1 => ?_)
  · replace h := it_p c_1 h
    refine lv_iload hx hb dX8_next_125 (lv_at hl 3 rfl) ?_
    exact bX8_next_127 (x1 := x1) (k39 := k39) X hret hk39 z0 x5 x4 w _ _ _ hP hS (lv_sub hl [1, 2, 0, 4] rfl) h
  · replace h := it_n c_1 h
    refine lv_iload hx hb dX8_next_120 (lv_at hl 5 rfl) ?_
    refine lv_goto (tgt := 127) hx hb dX8_next_122 (by decide) ?_
    exact bX8_next_127 (x1 := x1) (k39 := k39) X hret hk39 z0 x5 x6 w _ _ _ hP hS (lv_sub hl [1, 2, 0, 4] rfl) h
def fX8_next_101 (k39 : Int32 → Int32 → Int32 → Mm → Option (Int32 × Mm)) (x1 : Int32) (x3 : Int32) (x4 : Int32) (x5 : Int32) (x6 : Int32) (z0 : Int32) (w : Mm) : Option (Int32 × Mm) := (if z0 = 0 then fX8_next_114 k39 x1 x4 x5 x6 z0 x3 w else fX8_next_114 k39 x1 x4 x5 x6 z0 x5 w)
set_option maxRecDepth 20000 in
theorem bX8_next_101 {p : Program} {l : Launch} {e : Env} {s : State} {m : MethodId} {args : Array Value} {below : List Frame} {meth : Method} {c : Code} {Q : State → Prop} {D : va_G} {c3 : C3} {ad : Nat → Nat} {A : Nat → Prop} {r : Int32} {w' : Mm} (X : Cx p s m args c cX8_next 8 RX8 wsX8_next D c3 (encM c3 ad) gM A) (hret : Ri p l e (rmX8_next) s m args below meth c Q cX8_next D (encM c3 ad) A r w') {x1 : Int32} {k39 : Int32 → Int32 → Int32 → Mm → Option (Int32 × Mm)} (hk39 : ∀ (x3 : Int32) (x4 : Int32) (x5 : Int32) (w : Mm) (H : Heap) (locs : List Loc) (ls : Array Slot), va_P D vwCl ((encM c3 ad) w) H → va_S A s.heap H locs → lv_has ls 8 [(0, .ref (ad 0)), (1, .int x1), (3, .int x3), (4, .int x4), (5, .int x5)] → k39 x3 x4 x5 w = some (r, w') → W p l e (rmX8_next) s m args below meth c H locs 0 0 Q (F0 m 39 ls [])) : ∀ (x3 : Int32) (x4 : Int32) (x5 : Int32) (x6 : Int32) (z0 : Int32) (w : Mm) (H : Heap) (locs : List Loc) (ls : Array Slot), va_P D vwCl ((encM c3 ad) w) H → va_S A s.heap H locs → lv_has ls 8 [(0, .ref (ad 0)), (1, .int x1), (3, .int x3), (4, .int x4), (5, .int x5), (6, .int x6)] → fX8_next_101 k39 x1 x3 x4 x5 x6 z0 w = some (r, w') → W p l e (rmX8_next) s m args below meth c H locs 0 0 Q (F0 m 101 ls [.int z0]) := by
  have hx := X.1
  have hb := X.2.1
  have hml := X.2.2.1
  have hown := X.2.2.2.1
  have hts := X.2.2.2.2.1
  intro x3 x4 x5 x6 z0 w H locs ls hP hS hl h
  unfold fX8_next_101 at h
  refine lv_istore (lv' := [(7, .int z0), (0, .ref (ad 0)), (1, .int x1), (3, .int x3), (4, .int x4), (5, .int x5), (6, .int x6)]) hx hb dX8_next_101 hl (by decide) rfl (fun ls hl => ?_)
  refine lv_iload hx hb dX8_next_103 (lv_at hl 0 rfl) ?_
  refine lv_if_eq (tgt := 113) hx hb dX8_next_105 (by decide) (fun c_2 => ?_) (fun c_2 => ?_)
  · replace h := it_p c_2 h
    refine lv_iload_n hx hb dX8_next_113 rfl (lv_at hl 3 rfl) ?_
    exact bX8_next_114 (x1 := x1) (k39 := k39) X hret hk39 x4 x5 x6 z0 x3 w _ _ _ hP hS (lv_sub hl [1, 2, 4, 5, 6, 0] rfl) h
  · replace h := it_n c_2 h
    refine lv_iload hx hb dX8_next_108 (lv_at hl 5 rfl) ?_
    refine lv_goto (tgt := 114) hx hb dX8_next_110 (by decide) ?_
    exact bX8_next_114 (x1 := x1) (k39 := k39) X hret hk39 x4 x5 x6 z0 x5 w _ _ _ hP hS (lv_sub hl [1, 2, 4, 5, 6, 0] rfl) h
def fX8_next_100 (k39 : Int32 → Int32 → Int32 → Mm → Option (Int32 × Mm)) (x1 : Int32) (x3 : Int32) (x4 : Int32) (x5 : Int32) (x6 : Int32) (w : Mm) : Option (Int32 × Mm) := fX8_next_101 k39 x1 x3 x4 x5 x6 0 w
set_option maxRecDepth 20000 in
theorem bX8_next_100 {p : Program} {l : Launch} {e : Env} {s : State} {m : MethodId} {args : Array Value} {below : List Frame} {meth : Method} {c : Code} {Q : State → Prop} {D : va_G} {c3 : C3} {ad : Nat → Nat} {A : Nat → Prop} {r : Int32} {w' : Mm} (X : Cx p s m args c cX8_next 8 RX8 wsX8_next D c3 (encM c3 ad) gM A) (hret : Ri p l e (rmX8_next) s m args below meth c Q cX8_next D (encM c3 ad) A r w') {x1 : Int32} {k39 : Int32 → Int32 → Int32 → Mm → Option (Int32 × Mm)} (hk39 : ∀ (x3 : Int32) (x4 : Int32) (x5 : Int32) (w : Mm) (H : Heap) (locs : List Loc) (ls : Array Slot), va_P D vwCl ((encM c3 ad) w) H → va_S A s.heap H locs → lv_has ls 8 [(0, .ref (ad 0)), (1, .int x1), (3, .int x3), (4, .int x4), (5, .int x5)] → k39 x3 x4 x5 w = some (r, w') → W p l e (rmX8_next) s m args below meth c H locs 0 0 Q (F0 m 39 ls [])) : ∀ (x3 : Int32) (x4 : Int32) (x5 : Int32) (x6 : Int32) (w : Mm) (H : Heap) (locs : List Loc) (ls : Array Slot), va_P D vwCl ((encM c3 ad) w) H → va_S A s.heap H locs → lv_has ls 8 [(0, .ref (ad 0)), (1, .int x1), (3, .int x3), (4, .int x4), (5, .int x5), (6, .int x6)] → fX8_next_100 k39 x1 x3 x4 x5 x6 w = some (r, w') → W p l e (rmX8_next) s m args below meth c H locs 0 0 Q (F0 m 100 ls []) := by
  have hx := X.1
  have hb := X.2.1
  have hml := X.2.2.1
  have hown := X.2.2.2.1
  have hts := X.2.2.2.2.1
  intro x3 x4 x5 x6 w H locs ls hP hS hl h
  unfold fX8_next_100 at h
  refine lv_iconst (v := 0) hx hb dX8_next_100 (by decide) ?_
  exact bX8_next_101 (x1 := x1) (k39 := k39) X hret hk39 x3 x4 x5 x6 0 w _ _ _ hP hS (lv_sub hl [0, 1, 2, 3, 4, 5] rfl) h
def fX8_next_96 (k39 : Int32 → Int32 → Int32 → Mm → Option (Int32 × Mm)) (x1 : Int32) (x3 : Int32) (x4 : Int32) (x5 : Int32) (x6 : Int32) (w : Mm) : Option (Int32 × Mm) := fX8_next_101 k39 x1 x3 x4 x5 x6 1 w
set_option maxRecDepth 20000 in
theorem bX8_next_96 {p : Program} {l : Launch} {e : Env} {s : State} {m : MethodId} {args : Array Value} {below : List Frame} {meth : Method} {c : Code} {Q : State → Prop} {D : va_G} {c3 : C3} {ad : Nat → Nat} {A : Nat → Prop} {r : Int32} {w' : Mm} (X : Cx p s m args c cX8_next 8 RX8 wsX8_next D c3 (encM c3 ad) gM A) (hret : Ri p l e (rmX8_next) s m args below meth c Q cX8_next D (encM c3 ad) A r w') {x1 : Int32} {k39 : Int32 → Int32 → Int32 → Mm → Option (Int32 × Mm)} (hk39 : ∀ (x3 : Int32) (x4 : Int32) (x5 : Int32) (w : Mm) (H : Heap) (locs : List Loc) (ls : Array Slot), va_P D vwCl ((encM c3 ad) w) H → va_S A s.heap H locs → lv_has ls 8 [(0, .ref (ad 0)), (1, .int x1), (3, .int x3), (4, .int x4), (5, .int x5)] → k39 x3 x4 x5 w = some (r, w') → W p l e (rmX8_next) s m args below meth c H locs 0 0 Q (F0 m 39 ls [])) : ∀ (x3 : Int32) (x4 : Int32) (x5 : Int32) (x6 : Int32) (w : Mm) (H : Heap) (locs : List Loc) (ls : Array Slot), va_P D vwCl ((encM c3 ad) w) H → va_S A s.heap H locs → lv_has ls 8 [(0, .ref (ad 0)), (1, .int x1), (3, .int x3), (4, .int x4), (5, .int x5), (6, .int x6)] → fX8_next_96 k39 x1 x3 x4 x5 x6 w = some (r, w') → W p l e (rmX8_next) s m args below meth c H locs 0 0 Q (F0 m 96 ls []) := by
  have hx := X.1
  have hb := X.2.1
  have hml := X.2.2.1
  have hown := X.2.2.2.1
  have hts := X.2.2.2.2.1
  intro x3 x4 x5 x6 w H locs ls hP hS hl h
  unfold fX8_next_96 at h
  refine lv_iconst (v := 1) hx hb dX8_next_96 (by decide) ?_
  refine lv_goto (tgt := 101) hx hb dX8_next_97 (by decide) ?_
  exact bX8_next_101 (x1 := x1) (k39 := k39) X hret hk39 x3 x4 x5 x6 1 w _ _ _ hP hS (lv_sub hl [0, 1, 2, 3, 4, 5] rfl) h
def fX8_next_39 (x1 : Int32) : Nat → Int32 → Int32 → Int32 → Mm → Option (Int32 × Mm)
  | 0, _, _, _, _ => none
  | n + 1, x3, x4, x5, w => (if (w.1 0 3) ≤ x5 then nm (sA w 0 12 x4) (fun w_4 => some (x3, w_4)) else gd (inb x5 6 = true) (bo (fX8_neverOf x1 w) (fun r_7 => bo (fX8_bits ((w.1 5 x5.toNatClampNeg) &&& r_7)) (fun r_10 => (if x4 < r_10 then fX8_next_96 (fX8_next_39 x1 n) x1 x3 x4 x5 r_10 w else (if r_10 = x4 then bo (fX8_nearOf 0 x5 w) (fun r_15 => bo (fX8_nearOf 0 x3 w) (fun r_18 => (if r_18 ≤ r_15 then fX8_next_100 (fX8_next_39 x1 n) x1 x3 x4 x5 r_10 w else fX8_next_96 (fX8_next_39 x1 n) x1 x3 x4 x5 r_10 w))) else fX8_next_100 (fX8_next_39 x1 n) x1 x3 x4 x5 r_10 w))))))
set_option maxRecDepth 20000 in
theorem bX8_next_39 {p : Program} {l : Launch} {e : Env} {s : State} {m : MethodId} {args : Array Value} {below : List Frame} {meth : Method} {c : Code} {Q : State → Prop} {D : va_G} {c3 : C3} {ad : Nat → Nat} {A : Nat → Prop} {r : Int32} {w' : Mm} (X : Cx p s m args c cX8_next 8 RX8 wsX8_next D c3 (encM c3 ad) gM A) (hret : Ri p l e (rmX8_next) s m args below meth c Q cX8_next D (encM c3 ad) A r w') : ∀ (x1 : Int32) (n : Nat) (x3 : Int32) (x4 : Int32) (x5 : Int32) (w : Mm) (H : Heap) (locs : List Loc) (ls : Array Slot), va_P D vwCl ((encM c3 ad) w) H → va_S A s.heap H locs → lv_has ls 8 [(0, .ref (ad 0)), (1, .int x1), (3, .int x3), (4, .int x4), (5, .int x5)] → fX8_next_39 x1 n x3 x4 x5 w = some (r, w') → W p l e (rmX8_next) s m args below meth c H locs 0 0 Q (F0 m 39 ls []) := by
  have hx := X.1
  have hb := X.2.1
  have hml := X.2.2.1
  have hown := X.2.2.2.1
  have hts := X.2.2.2.2.1
  intro x1 n
  induction n with
  | zero =>
    intro x3 x4 x5 w H locs ls hP hS hl h
    exact absurd h (by simp [fX8_next_39])
  | succ n ih =>
    intro x3 x4 x5 w H locs ls hP hS hl h
    rw [fX8_next_39] at h
    refine lv_iload hx hb dX8_next_39 (lv_at hl 4 rfl) ?_
    refine lv_aload_n hx hb dX8_next_41 rfl (lv_at hl 0 rfl) ?_
    refine x_get (rest := [.int x5]) X hP (gM0 c3 ad w) rfl iwX8_next_X8 3 (by decide) lkX8_next_167 rfl dX8_next_42 ?_
    refine lv_icmp_ge (tgt := 135) hx hb dX8_next_45 (by decide) (fun c_3 => ?_) (fun c_3 => ?_)
    · replace h := it_p c_3 h
      refine lv_aload_n hx hb dX8_next_135 rfl (lv_at hl 0 rfl) ?_
      refine lv_iload hx hb dX8_next_136 (lv_at hl 3 rfl) ?_
      refine x_put (v := .int x4) X hP hS (gM0 c3 ad w) rfl iwX8_next_X8 tyX8 tyX8_ok nmX8 12 (by decide) lkX8_next_76 rfl rfl rfl (Nat.le_of_ble_eq_true rfl) (pM0_12 c3 ad w x4) dX8_next_138 (fun H locs hP hS => ?_)
      refine x_nmw h hP (fun w_4 h hP => ?_)
      refine lv_iload_n hx hb dX8_next_141 rfl (lv_at hl 2 rfl) ?_
      obtain ⟨rfl, rfl⟩ := Prod.mk.inj (Option.some.inj h)
      exact hret _ _ _ _ hP hS dX8_next_142
    · replace h := it_n c_3 h
      refine lv_aload_n hx hb dX8_next_48 rfl (lv_at hl 0 rfl) ?_
      refine x_get (rest := []) X hP (gM0 c3 ad w) rfl iwX8_next_X8 6 (by decide) lkX8_next_22 rfl dX8_next_49 ?_
      refine lv_iload hx hb dX8_next_52 (lv_at hl 4 rfl) ?_
      obtain ⟨g_5, h⟩ := gd_s h
      refine x_iald X hP (gM5 c3 ad w) g_5 dX8_next_54 ?_
      refine lv_aload_n hx hb dX8_next_55 rfl (lv_at hl 0 rfl) ?_
      refine lv_iload_n hx hb dX8_next_56 rfl (lv_at hl 1 rfl) ?_
      obtain ⟨r_7, e_6, h⟩ := bo_s h
      refine x_goi X hS (x_runV (As := [.int x1]) (rest := [.int (w.1 5 x5.toNatClampNeg)]) X gM_ok hP hS (ctX8_neverOf l D c3 ad w _ x1 _ e_6) (cwV 1 hts gX8_next_X8_neverOf rfl rfl rfl (by decide +kernel) ⟨by decide, by decide⟩) (gM0 c3 ad w) rfl rfl rfl hl.1 rfl (Nat.le_of_ble_eq_true rfl) dX8_next_57) (fun H locs hP hS => ?_)
      refine lv_iand hx hb dX8_next_60 ?_
      obtain ⟨r_10, e_9, h⟩ := bo_s h
      refine x_goi X hS (x_runS (As := [.int ((w.1 5 x5.toNatClampNeg) &&& r_7)]) (rest := []) X gM_ok hP hS (ctX8_bits l D c3 ad w _ ((w.1 5 x5.toNatClampNeg) &&& r_7) _ e_9) (va_cwS 1 hts gX8_next_X8_bits rfl rfl rfl (by decide +kernel) ⟨by decide, by decide⟩) rfl hl.1 rfl (Nat.le_of_ble_eq_true rfl) dX8_next_61) (fun H locs hP hS => ?_)
      refine lv_istore (lv' := [(6, .int r_10), (0, .ref (ad 0)), (1, .int x1), (3, .int x3), (4, .int x4), (5, .int x5)]) hx hb dX8_next_64 hl (by decide) rfl (fun ls hl => ?_)
      refine lv_iload hx hb dX8_next_66 (lv_at hl 0 rfl) ?_
      refine lv_iload hx hb dX8_next_68 (lv_at hl 4 rfl) ?_
      refine lv_icmp_gt (tgt := 96) hx hb dX8_next_70 (by decide) (fun c_12 => ?_) (fun c_12 => ?_)
      · replace h := it_p c_12 h
        exact bX8_next_96 (x1 := x1) (k39 := (fX8_next_39 x1 n)) X hret ih x3 x4 x5 r_10 w _ _ _ hP hS (lv_sub hl [1, 2, 3, 4, 5, 0] rfl) h
      · replace h := it_n c_12 h
        refine lv_iload hx hb dX8_next_73 (lv_at hl 0 rfl) ?_
        refine lv_iload hx hb dX8_next_75 (lv_at hl 4 rfl) ?_
        refine lv_icmp_ne (tgt := 100) hx hb dX8_next_77 (by decide) (fun c_13 => ?_) (fun c_13 => ?_)
        · replace h := it_n c_13 h
          exact bX8_next_100 (x1 := x1) (k39 := (fX8_next_39 x1 n)) X hret ih x3 x4 x5 r_10 w _ _ _ hP hS (lv_sub hl [1, 2, 3, 4, 5, 0] rfl) h
        · replace h := it_p c_13 h
          refine lv_aload_n hx hb dX8_next_80 rfl (lv_at hl 1 rfl) ?_
          refine lv_iconst (v := 0) hx hb dX8_next_81 (by decide) ?_
          refine lv_iload hx hb dX8_next_82 (lv_at hl 5 rfl) ?_
          obtain ⟨r_15, e_14, h⟩ := bo_s h
          refine x_goi X hS (x_runV (As := [.int 0, .int x5]) (rest := []) X gM_ok hP hS (ctX8_nearOf l D c3 ad w _ 0 x5 _ e_14) (cwV 2 hts gX8_next_X8_nearOf rfl rfl rfl (by decide +kernel) ⟨by decide, by decide⟩) (gM0 c3 ad w) rfl rfl rfl hl.1 rfl (Nat.le_of_ble_eq_true rfl) dX8_next_84) (fun H locs hP hS => ?_)
          refine lv_aload_n hx hb dX8_next_87 rfl (lv_at hl 1 rfl) ?_
          refine lv_iconst (v := 0) hx hb dX8_next_88 (by decide) ?_
          refine lv_iload_n hx hb dX8_next_89 rfl (lv_at hl 3 rfl) ?_
          obtain ⟨r_18, e_17, h⟩ := bo_s h
          refine x_goi X hS (x_runV (As := [.int 0, .int x3]) (rest := [.int r_15]) X gM_ok hP hS (ctX8_nearOf l D c3 ad w _ 0 x3 _ e_17) (cwV 2 hts gX8_next_X8_nearOf rfl rfl rfl (by decide +kernel) ⟨by decide, by decide⟩) (gM0 c3 ad w) rfl rfl rfl hl.1 rfl (Nat.le_of_ble_eq_true rfl) dX8_next_90) (fun H locs hP hS => ?_)
          refine lv_icmp_ge (tgt := 100) hx hb dX8_next_93 (by decide) (fun c_20 => ?_) (fun c_20 => ?_)
          · replace h := it_p c_20 h
            exact bX8_next_100 (x1 := x1) (k39 := (fX8_next_39 x1 n)) X hret ih x3 x4 x5 r_10 w _ _ _ hP hS (lv_sub hl [1, 2, 3, 4, 5, 0] rfl) h
          · replace h := it_n c_20 h
            exact bX8_next_96 (x1 := x1) (k39 := (fX8_next_39 x1 n)) X hret ih x3 x4 x5 r_10 w _ _ _ hP hS (lv_sub hl [1, 2, 3, 4, 5, 0] rfl) h
def fX8_next_E (x1 : Int32) (w : Mm) : Option (Int32 × Mm) := bo (fX8_isRow x1) (fun r_22 => (if r_22 = 0 then some ((-1), w) else (if (w.1 0 3) = 0 then some ((-4), w) else bd (fX8_noSayings x1 w) (fun r_27 w_28 => (if r_27 = 0 then fX8_next_39 x1 FU 0 (-1) 0 w_28 else some (r_27, w_28))))))
set_option maxRecDepth 20000 in
theorem bX8_next_E {p : Program} {l : Launch} {e : Env} {s : State} {m : MethodId} {args : Array Value} {below : List Frame} {meth : Method} {c : Code} {Q : State → Prop} {D : va_G} {c3 : C3} {ad : Nat → Nat} {A : Nat → Prop} {r : Int32} {w' : Mm} (X : Cx p s m args c cX8_next 8 RX8 wsX8_next D c3 (encM c3 ad) gM A) (hret : Ri p l e (rmX8_next) s m args below meth c Q cX8_next D (encM c3 ad) A r w') : ∀ (x1 : Int32) (w : Mm) (H : Heap) (locs : List Loc) (ls : Array Slot), va_P D vwCl ((encM c3 ad) w) H → va_S A s.heap H locs → lv_has ls 8 [(0, .ref (ad 0)), (1, .int x1)] → fX8_next_E x1 w = some (r, w') → W p l e (rmX8_next) s m args below meth c H locs 0 0 Q (F0 m 0 ls []) := by
  have hx := X.1
  have hb := X.2.1
  have hml := X.2.2.1
  have hown := X.2.2.2.1
  have hts := X.2.2.2.2.1
  intro x1 w H locs ls hP hS hl h
  unfold fX8_next_E at h
  refine lv_iload_n hx hb dX8_next_0 rfl (lv_at hl 1 rfl) ?_
  obtain ⟨r_22, e_21, h⟩ := bo_s h
  refine x_goi X hS (x_runS (As := [.int x1]) (rest := []) X gM_ok hP hS (ctX8_isRow l D c3 ad w _ x1 _ e_21) (va_cwS 1 hts gX8_next_X8_isRow rfl rfl rfl (by decide +kernel) ⟨by decide, by decide⟩) rfl hl.1 rfl (Nat.le_of_ble_eq_true rfl) dX8_next_1) (fun H locs hP hS => ?_)
  refine lv_if_ne (tgt := 9) hx hb dX8_next_4 (by decide) (fun c_24 => ?_) (fun c_24 => ?_)
  · replace h := it_n c_24 h
    refine lv_aload_n hx hb dX8_next_9 rfl (lv_at hl 0 rfl) ?_
    refine x_get (rest := []) X hP (gM0 c3 ad w) rfl iwX8_next_X8 3 (by decide) lkX8_next_167 rfl dX8_next_10 ?_
    refine lv_if_ne (tgt := 19) hx hb dX8_next_13 (by decide) (fun c_25 => ?_) (fun c_25 => ?_)
    · replace h := it_n c_25 h
      refine lv_aload_n hx hb dX8_next_19 rfl (lv_at hl 0 rfl) ?_
      refine lv_iload_n hx hb dX8_next_20 rfl (lv_at hl 1 rfl) ?_
      obtain ⟨r_27, w_28, e_26, h⟩ := bd_s h
      refine x_goi X hS (x_runV (As := [.int x1]) (rest := []) X gM_ok hP hS (ctX8_noSayings l D c3 ad w _ x1 _ _ e_26) (cwV 1 hts gX8_next_X8_noSayings rfl rfl rfl (by decide +kernel) ⟨by decide, by decide⟩) (gM0 c3 ad w) rfl rfl rfl hl.1 rfl (Nat.le_of_ble_eq_true rfl) dX8_next_21) (fun H locs hP hS => ?_)
      refine lv_istore_n (lv' := [(2, .int r_27), (0, .ref (ad 0)), (1, .int x1)]) hx hb dX8_next_24 rfl hl (by decide) rfl (fun ls hl => ?_)
      refine lv_iload_n hx hb dX8_next_25 rfl (lv_at hl 0 rfl) ?_
      refine lv_if_eq (tgt := 31) hx hb dX8_next_26 (by decide) (fun c_29 => ?_) (fun c_29 => ?_)
      · replace h := it_p c_29 h
        refine lv_iconst (v := 0) hx hb dX8_next_31 (by decide) ?_
        refine lv_istore_n (lv' := [(3, .int 0), (2, .int r_27), (0, .ref (ad 0)), (1, .int x1)]) hx hb dX8_next_32 rfl hl (by decide) rfl (fun ls hl => ?_)
        refine lv_iconst (v := (-1)) hx hb dX8_next_33 (by decide) ?_
        refine lv_istore (lv' := [(4, .int (-1)), (3, .int 0), (2, .int r_27), (0, .ref (ad 0)), (1, .int x1)]) hx hb dX8_next_34 hl (by decide) rfl (fun ls hl => ?_)
        refine lv_iconst (v := 0) hx hb dX8_next_36 (by decide) ?_
        refine lv_istore (lv' := [(5, .int 0), (4, .int (-1)), (3, .int 0), (2, .int r_27), (0, .ref (ad 0)), (1, .int x1)]) hx hb dX8_next_37 hl (by decide) rfl (fun ls hl => ?_)
        exact bX8_next_39 X hret x1 FU 0 (-1) 0 w_28 _ _ _ hP hS (lv_sub hl [4, 5, 2, 1, 0] rfl) h
      · replace h := it_n c_29 h
        refine lv_iload_n hx hb dX8_next_29 rfl (lv_at hl 0 rfl) ?_
        obtain ⟨rfl, rfl⟩ := Prod.mk.inj (Option.some.inj h)
        exact hret _ _ _ _ hP hS dX8_next_30
    · replace h := it_p c_25 h
      refine lv_bipush (v := (-4)) hx hb dX8_next_16 (by decide) ?_
      obtain ⟨rfl, rfl⟩ := Prod.mk.inj (Option.some.inj h)
      exact hret _ _ _ _ hP hS dX8_next_18
  · replace h := it_p c_24 h
    refine lv_iconst (v := (-1)) hx hb dX8_next_7 (by decide) ?_
    obtain ⟨rfl, rfl⟩ := Prod.mk.inj (Option.some.inj h)
    exact hret _ _ _ _ hP hS dX8_next_8
def fX8_next (x1 : Int32) (w : Mm) : Option (Int32 × Mm) := fX8_next_E x1 w
theorem ctX8_next (l : Launch) (D : va_G) (c3 : C3) (ad : Nat → Nat) (w : Mm) (sz : Nat) (x1 : Int32) (r : Int32) (w' : Mm) (h : fX8_next x1 w = some (r, w')) : Ci l yX8_next wsX8_next rmX8_next D c3 (encM c3 ad) gM [.ref (ad 0), .int x1] w sz r w' := by
  refine Ci.of (cc := cX8_next) (maxL := 8) (encM_ok c3 ad) (by decide) rfl (Nat.le_of_ble_eq_true rfl) ?_
  intro p e s m below meth c A Q ls X hret hP hS hl
  exact bX8_next_E X hret x1 w _ _ ls hP hS hl h
theorem iwX8_kinds_X8 : ∀ w ∈ wsX80, w ∈ wsX8_kinds := fun _ h => List.mem_cons_of_mem _ (List.mem_append_right _ h)
theorem lkX8_kinds_19 : Cond.fieldLink RX8 19 "StuckDoorModel" "nears" "[I" ∈ wsX8_kinds := by decide +kernel
def rmX8_kinds : Room := { frames := 2, cells := 0, slots := 0, locals := 46 }
def fX8_kinds_88 (k53 : Int32 → Int32 → Option (Int32)) (x1 : Int32) (x2 : Int32) (x3 : Int32) (x4 : Int32) (x6 : Int32) (z0 : Int32) (z1 : Int32) (w : Mm) : Option (Int32) := nm (z1 ||| z0) (fun x5_1 => k53 x5_1 (x6 + 1))
set_option maxRecDepth 20000 in
theorem bX8_kinds_88 {p : Program} {l : Launch} {e : Env} {s : State} {m : MethodId} {args : Array Value} {below : List Frame} {meth : Method} {c : Code} {Q : State → Prop} {D : va_G} {c3 : C3} {ad : Nat → Nat} {A : Nat → Prop} {r : Int32} {w : Mm} (X : Cx p s m args c cX8_kinds 7 RX8 wsX8_kinds D c3 (encM c3 ad) gM A) (hret : Ri p l e (rmX8_kinds) s m args below meth c Q cX8_kinds D (encM c3 ad) A r w) {x1 : Int32} {x2 : Int32} {x3 : Int32} {x4 : Int32} {k53 : Int32 → Int32 → Option (Int32)} (hk53 : ∀ (x5 : Int32) (x6 : Int32) (H : Heap) (locs : List Loc) (ls : Array Slot), va_P D vwCl ((encM c3 ad) w) H → va_S A s.heap H locs → lv_has ls 7 [(0, .ref (ad 0)), (1, .int x1), (2, .int x2), (3, .int x3), (4, .int x4), (5, .int x5), (6, .int x6)] → k53 x5 x6 = some r → W p l e (rmX8_kinds) s m args below meth c H locs 0 0 Q (F0 m 53 ls [])) : ∀ (x6 : Int32) (z0 : Int32) (z1 : Int32) (H : Heap) (locs : List Loc) (ls : Array Slot), va_P D vwCl ((encM c3 ad) w) H → va_S A s.heap H locs → lv_has ls 7 [(0, .ref (ad 0)), (1, .int x1), (2, .int x2), (3, .int x3), (4, .int x4), (6, .int x6)] → fX8_kinds_88 k53 x1 x2 x3 x4 x6 z0 z1 w = some r → W p l e (rmX8_kinds) s m args below meth c H locs 0 0 Q (F0 m 88 ls [.int z0, .int z1]) := by
  have hx := X.1
  have hb := X.2.1
  have hml := X.2.2.1
  have hown := X.2.2.2.1
  have hts := X.2.2.2.2.1
  intro x6 z0 z1 H locs ls hP hS hl h
  unfold fX8_kinds_88 at h
  refine lv_ior hx hb dX8_kinds_88 ?_
  refine x_nmi h (fun x5_1 h => ?_)
  refine lv_istore (lv' := [(5, .int x5_1), (0, .ref (ad 0)), (1, .int x1), (2, .int x2), (3, .int x3), (4, .int x4), (6, .int x6)]) hx hb dX8_kinds_89 hl (by decide) rfl (fun ls hl => ?_)
  refine lv_iinc (v := (x6 + 1)) (lv' := [(6, .int (x6 + 1)), (5, .int x5_1), (0, .ref (ad 0)), (1, .int x1), (2, .int x2), (3, .int x3), (4, .int x4)]) hx hb dX8_kinds_91 hl (k := 6) rfl rfl (by decide) rfl (fun ls hl => ?_)
  refine lv_goto (tgt := 53) hx hb dX8_kinds_94 (by decide) ?_
  exact hk53 x5_1 (x6 + 1) _ _ _ hP hS (lv_sub hl [2, 3, 4, 5, 6, 1, 0] rfl) h
def fX8_kinds_53 (x1 : Int32) (x2 : Int32) (x3 : Int32) (x4 : Int32) (w : Mm) : Nat → Int32 → Int32 → Option (Int32)
  | 0, _, _ => none
  | n + 1, x5, x6 => (if 6 ≤ x6 then some x5 else gd (inb x1 6 = true) (bo (fX8_nearBy x6 (w.1 4 x1.toNatClampNeg) x3 x4) (fun r_5 => (if r_5 = x2 then fX8_kinds_88 (fX8_kinds_53 x1 x2 x3 x4 w n) x1 x2 x3 x4 x6 (1 <<< (x6 &&& 31)) x5 w else fX8_kinds_88 (fX8_kinds_53 x1 x2 x3 x4 w n) x1 x2 x3 x4 x6 0 x5 w))))
set_option maxRecDepth 20000 in
theorem bX8_kinds_53 {p : Program} {l : Launch} {e : Env} {s : State} {m : MethodId} {args : Array Value} {below : List Frame} {meth : Method} {c : Code} {Q : State → Prop} {D : va_G} {c3 : C3} {ad : Nat → Nat} {A : Nat → Prop} {r : Int32} {w : Mm} (X : Cx p s m args c cX8_kinds 7 RX8 wsX8_kinds D c3 (encM c3 ad) gM A) (hret : Ri p l e (rmX8_kinds) s m args below meth c Q cX8_kinds D (encM c3 ad) A r w) : ∀ (x1 : Int32) (x2 : Int32) (x3 : Int32) (x4 : Int32) (n : Nat) (x5 : Int32) (x6 : Int32) (H : Heap) (locs : List Loc) (ls : Array Slot), va_P D vwCl ((encM c3 ad) w) H → va_S A s.heap H locs → lv_has ls 7 [(0, .ref (ad 0)), (1, .int x1), (2, .int x2), (3, .int x3), (4, .int x4), (5, .int x5), (6, .int x6)] → fX8_kinds_53 x1 x2 x3 x4 w n x5 x6 = some r → W p l e (rmX8_kinds) s m args below meth c H locs 0 0 Q (F0 m 53 ls []) := by
  have hx := X.1
  have hb := X.2.1
  have hml := X.2.2.1
  have hown := X.2.2.2.1
  have hts := X.2.2.2.2.1
  intro x1 x2 x3 x4 n
  induction n with
  | zero =>
    intro x5 x6 H locs ls hP hS hl h
    exact absurd h (by simp [fX8_kinds_53])
  | succ n ih =>
    intro x5 x6 H locs ls hP hS hl h
    rw [fX8_kinds_53] at h
    refine lv_iload hx hb dX8_kinds_53 (lv_at hl 6 rfl) ?_
    refine lv_bipush (v := 6) hx hb dX8_kinds_55 (by decide) ?_
    refine lv_icmp_ge (tgt := 97) hx hb dX8_kinds_57 (by decide) (fun c_2 => ?_) (fun c_2 => ?_)
    · replace h := it_p c_2 h
      refine lv_iload hx hb dX8_kinds_97 (lv_at hl 5 rfl) ?_
      obtain rfl := Option.some.inj h
      exact hret _ _ _ _ hP hS dX8_kinds_99
    · replace h := it_n c_2 h
      refine lv_iload hx hb dX8_kinds_60 (lv_at hl 5 rfl) ?_
      refine lv_iload hx hb dX8_kinds_62 (lv_at hl 6 rfl) ?_
      refine lv_aload_n hx hb dX8_kinds_64 rfl (lv_at hl 0 rfl) ?_
      refine x_get (rest := [.int x6, .int x5]) X hP (gM0 c3 ad w) rfl iwX8_kinds_X8 5 (by decide) lkX8_kinds_19 rfl dX8_kinds_65 ?_
      refine lv_iload_n hx hb dX8_kinds_68 rfl (lv_at hl 1 rfl) ?_
      obtain ⟨g_3, h⟩ := gd_s h
      refine x_iald X hP (gM4 c3 ad w) g_3 dX8_kinds_69 ?_
      refine lv_iload_n hx hb dX8_kinds_70 rfl (lv_at hl 3 rfl) ?_
      refine lv_iload hx hb dX8_kinds_71 (lv_at hl 4 rfl) ?_
      obtain ⟨r_5, e_4, h⟩ := bo_s h
      refine x_goi X hS (x_runS (As := [.int x6, .int (w.1 4 x1.toNatClampNeg), .int x3, .int x4]) (rest := [.int x5]) X gM_ok hP hS (ctX8_nearBy l D c3 ad w _ x6 (w.1 4 x1.toNatClampNeg) x3 x4 _ e_4) (va_cwS 4 hts gX8_kinds_X8_nearBy rfl rfl rfl (by decide +kernel) ⟨by decide, by decide⟩) rfl hl.1 rfl (Nat.le_of_ble_eq_true rfl) dX8_kinds_73) (fun H locs hP hS => ?_)
      refine lv_iload_n hx hb dX8_kinds_76 rfl (lv_at hl 2 rfl) ?_
      refine lv_icmp_ne (tgt := 87) hx hb dX8_kinds_77 (by decide) (fun c_7 => ?_) (fun c_7 => ?_)
      · replace h := it_n c_7 h
        refine lv_iconst (v := 0) hx hb dX8_kinds_87 (by decide) ?_
        exact bX8_kinds_88 (x1 := x1) (x2 := x2) (x3 := x3) (x4 := x4) (k53 := (fX8_kinds_53 x1 x2 x3 x4 w n)) X hret ih x6 0 x5 _ _ _ hP hS (lv_sub hl [0, 1, 2, 3, 4, 6] rfl) h
      · replace h := it_p c_7 h
        refine lv_iconst (v := 1) hx hb dX8_kinds_80 (by decide) ?_
        refine lv_iload hx hb dX8_kinds_81 (lv_at hl 6 rfl) ?_
        refine lv_ishl hx hb dX8_kinds_83 ?_
        refine lv_goto (tgt := 88) hx hb dX8_kinds_84 (by decide) ?_
        exact bX8_kinds_88 (x1 := x1) (x2 := x2) (x3 := x3) (x4 := x4) (k53 := (fX8_kinds_53 x1 x2 x3 x4 w n)) X hret ih x6 (1 <<< (x6 &&& 31)) x5 _ _ _ hP hS (lv_sub hl [0, 1, 2, 3, 4, 6] rfl) h
def fX8_kinds_E (x1 : Int32) (x2 : Int32) (x3 : Int32) (x4 : Int32) (w : Mm) : Option (Int32) := bo (fX8_isSaying x1 w) (fun r_9 => (if r_9 = 0 then some (-1) else bo (fX8_in x2.toInt64 0 99) (fun r_13 => (if r_13 = 0 then some (-1) else bo (fX8_in x3.toInt64 0 9) (fun r_17 => (if r_17 = 0 then some (-1) else bo (fX8_in x4.toInt64 0 3) (fun r_21 => (if r_21 = 0 then some (-1) else fX8_kinds_53 x1 x2 x3 x4 w FU 0 0))))))))
set_option maxRecDepth 20000 in
theorem bX8_kinds_E {p : Program} {l : Launch} {e : Env} {s : State} {m : MethodId} {args : Array Value} {below : List Frame} {meth : Method} {c : Code} {Q : State → Prop} {D : va_G} {c3 : C3} {ad : Nat → Nat} {A : Nat → Prop} {r : Int32} {w : Mm} (X : Cx p s m args c cX8_kinds 7 RX8 wsX8_kinds D c3 (encM c3 ad) gM A) (hret : Ri p l e (rmX8_kinds) s m args below meth c Q cX8_kinds D (encM c3 ad) A r w) : ∀ (x1 : Int32) (x2 : Int32) (x3 : Int32) (x4 : Int32) (H : Heap) (locs : List Loc) (ls : Array Slot), va_P D vwCl ((encM c3 ad) w) H → va_S A s.heap H locs → lv_has ls 7 [(0, .ref (ad 0)), (1, .int x1), (2, .int x2), (3, .int x3), (4, .int x4)] → fX8_kinds_E x1 x2 x3 x4 w = some r → W p l e (rmX8_kinds) s m args below meth c H locs 0 0 Q (F0 m 0 ls []) := by
  have hx := X.1
  have hb := X.2.1
  have hml := X.2.2.1
  have hown := X.2.2.2.1
  have hts := X.2.2.2.2.1
  intro x1 x2 x3 x4 H locs ls hP hS hl h
  unfold fX8_kinds_E at h
  refine lv_aload_n hx hb dX8_kinds_0 rfl (lv_at hl 0 rfl) ?_
  refine lv_iload_n hx hb dX8_kinds_1 rfl (lv_at hl 1 rfl) ?_
  obtain ⟨r_9, e_8, h⟩ := bo_s h
  refine x_goi X hS (x_runV (As := [.int x1]) (rest := []) X gM_ok hP hS (ctX8_isSaying l D c3 ad w _ x1 _ e_8) (cwV 1 hts gX8_kinds_X8_isSaying rfl rfl rfl (by decide +kernel) ⟨by decide, by decide⟩) (gM0 c3 ad w) rfl rfl rfl hl.1 rfl (Nat.le_of_ble_eq_true rfl) dX8_kinds_2) (fun H locs hP hS => ?_)
  refine lv_if_eq (tgt := 45) hx hb dX8_kinds_5 (by decide) (fun c_11 => ?_) (fun c_11 => ?_)
  · replace h := it_p c_11 h
    refine lv_iconst (v := (-1)) hx hb dX8_kinds_45 (by decide) ?_
    obtain rfl := Option.some.inj h
    exact hret _ _ _ _ hP hS dX8_kinds_46
  · replace h := it_n c_11 h
    refine lv_iload_n hx hb dX8_kinds_8 rfl (lv_at hl 2 rfl) ?_
    refine lv_i2l (v := x2.toInt64) hx hb dX8_kinds_9 rfl ?_
    refine lv_lconst (v := 0) hx hb dX8_kinds_10 (by decide) ?_
    refine lv_ldc2 (v := 99) hx hb hown (hts (.constantLong RX8 261 (99)) (by decide +kernel)) dX8_kinds_11 ?_
    obtain ⟨r_13, e_12, h⟩ := bo_s h
    refine x_goi X hS (x_runS (As := [.long x2.toInt64, .long 0, .long 99]) (rest := []) X gM_ok hP hS (ctX8_in l D c3 ad w _ x2.toInt64 0 99 _ e_12) (va_cwS 3 hts gX8_kinds_X8_in rfl rfl rfl (by decide +kernel) ⟨by decide, by decide⟩) rfl hl.1 rfl (Nat.le_of_ble_eq_true rfl) dX8_kinds_14) (fun H locs hP hS => ?_)
    refine lv_if_eq (tgt := 45) hx hb dX8_kinds_17 (by decide) (fun c_15 => ?_) (fun c_15 => ?_)
    · replace h := it_p c_15 h
      refine lv_iconst (v := (-1)) hx hb dX8_kinds_45 (by decide) ?_
      obtain rfl := Option.some.inj h
      exact hret _ _ _ _ hP hS dX8_kinds_46
    · replace h := it_n c_15 h
      refine lv_iload_n hx hb dX8_kinds_20 rfl (lv_at hl 3 rfl) ?_
      refine lv_i2l (v := x3.toInt64) hx hb dX8_kinds_21 rfl ?_
      refine lv_lconst (v := 0) hx hb dX8_kinds_22 (by decide) ?_
      refine lv_ldc2 (v := 9) hx hb hown (hts (.constantLong RX8 263 (9)) (by decide +kernel)) dX8_kinds_23 ?_
      obtain ⟨r_17, e_16, h⟩ := bo_s h
      refine x_goi X hS (x_runS (As := [.long x3.toInt64, .long 0, .long 9]) (rest := []) X gM_ok hP hS (ctX8_in l D c3 ad w _ x3.toInt64 0 9 _ e_16) (va_cwS 3 hts gX8_kinds_X8_in rfl rfl rfl (by decide +kernel) ⟨by decide, by decide⟩) rfl hl.1 rfl (Nat.le_of_ble_eq_true rfl) dX8_kinds_26) (fun H locs hP hS => ?_)
      refine lv_if_eq (tgt := 45) hx hb dX8_kinds_29 (by decide) (fun c_19 => ?_) (fun c_19 => ?_)
      · replace h := it_p c_19 h
        refine lv_iconst (v := (-1)) hx hb dX8_kinds_45 (by decide) ?_
        obtain rfl := Option.some.inj h
        exact hret _ _ _ _ hP hS dX8_kinds_46
      · replace h := it_n c_19 h
        refine lv_iload hx hb dX8_kinds_32 (lv_at hl 4 rfl) ?_
        refine lv_i2l (v := x4.toInt64) hx hb dX8_kinds_34 rfl ?_
        refine lv_lconst (v := 0) hx hb dX8_kinds_35 (by decide) ?_
        refine lv_ldc2 (v := 3) hx hb hown (hts (.constantLong RX8 85 (3)) (by decide +kernel)) dX8_kinds_36 ?_
        obtain ⟨r_21, e_20, h⟩ := bo_s h
        refine x_goi X hS (x_runS (As := [.long x4.toInt64, .long 0, .long 3]) (rest := []) X gM_ok hP hS (ctX8_in l D c3 ad w _ x4.toInt64 0 3 _ e_20) (va_cwS 3 hts gX8_kinds_X8_in rfl rfl rfl (by decide +kernel) ⟨by decide, by decide⟩) rfl hl.1 rfl (Nat.le_of_ble_eq_true rfl) dX8_kinds_39) (fun H locs hP hS => ?_)
        refine lv_if_ne (tgt := 47) hx hb dX8_kinds_42 (by decide) (fun c_23 => ?_) (fun c_23 => ?_)
        · replace h := it_n c_23 h
          refine lv_iconst (v := 0) hx hb dX8_kinds_47 (by decide) ?_
          refine lv_istore (lv' := [(5, .int 0), (0, .ref (ad 0)), (1, .int x1), (2, .int x2), (3, .int x3), (4, .int x4)]) hx hb dX8_kinds_48 hl (by decide) rfl (fun ls hl => ?_)
          refine lv_iconst (v := 0) hx hb dX8_kinds_50 (by decide) ?_
          refine lv_istore (lv' := [(6, .int 0), (5, .int 0), (0, .ref (ad 0)), (1, .int x1), (2, .int x2), (3, .int x3), (4, .int x4)]) hx hb dX8_kinds_51 hl (by decide) rfl (fun ls hl => ?_)
          exact bX8_kinds_53 X hret x1 x2 x3 x4 FU 0 0 _ _ _ hP hS (lv_sub hl [2, 3, 4, 5, 6, 1, 0] rfl) h
        · replace h := it_p c_23 h
          refine lv_iconst (v := (-1)) hx hb dX8_kinds_45 (by decide) ?_
          obtain rfl := Option.some.inj h
          exact hret _ _ _ _ hP hS dX8_kinds_46
def fX8_kinds (x1 : Int32) (x2 : Int32) (x3 : Int32) (x4 : Int32) (w : Mm) : Option (Int32) := fX8_kinds_E x1 x2 x3 x4 w
theorem ctX8_kinds (l : Launch) (D : va_G) (c3 : C3) (ad : Nat → Nat) (w : Mm) (sz : Nat) (x1 : Int32) (x2 : Int32) (x3 : Int32) (x4 : Int32) (r : Int32) (h : fX8_kinds x1 x2 x3 x4 w = some r) : Ci l yX8_kinds wsX8_kinds rmX8_kinds D c3 (encM c3 ad) gM [.ref (ad 0), .int x1, .int x2, .int x3, .int x4] w sz r w := by
  refine Ci.of (cc := cX8_kinds) (maxL := 7) (encM_ok c3 ad) (by decide) rfl (Nat.le_of_ble_eq_true rfl) ?_
  intro p e s m below meth c A Q ls X hret hP hS hl
  exact bX8_kinds_E X hret x1 x2 x3 x4 _ _ ls hP hS hl h
theorem iwX8_noDuel_X8 : ∀ w ∈ wsX80, w ∈ wsX8_noDuel := fun _ h => List.mem_cons_of_mem _ (List.mem_append_right _ h)
theorem lkX8_noDuel_167 : Cond.fieldLink RX8 167 "StuckDoorModel" "sayings" "I" ∈ wsX8_noDuel := by decide +kernel
def rmX8_noDuel : Room := { frames := 2, cells := 0, slots := 0, locals := 46 }
def fX8_noDuel_39 (w : Mm) : Option (Int32) := some (-4)
set_option maxRecDepth 20000 in
theorem bX8_noDuel_39 {p : Program} {l : Launch} {e : Env} {s : State} {m : MethodId} {args : Array Value} {below : List Frame} {meth : Method} {c : Code} {Q : State → Prop} {D : va_G} {c3 : C3} {ad : Nat → Nat} {A : Nat → Prop} {r : Int32} {w : Mm} (X : Cx p s m args c cX8_noDuel 3 RX8 wsX8_noDuel D c3 (encM c3 ad) gM A) (hret : Ri p l e (rmX8_noDuel) s m args below meth c Q cX8_noDuel D (encM c3 ad) A r w) : ∀ (H : Heap) (locs : List Loc) (ls : Array Slot), va_P D vwCl ((encM c3 ad) w) H → va_S A s.heap H locs → lv_has ls 3 [] → fX8_noDuel_39 w = some r → W p l e (rmX8_noDuel) s m args below meth c H locs 0 0 Q (F0 m 39 ls []) := by
  have hx := X.1
  have hb := X.2.1
  have hml := X.2.2.1
  have hown := X.2.2.2.1
  have hts := X.2.2.2.2.1
  intro H locs ls hP hS hl h
  unfold fX8_noDuel_39 at h
  refine lv_bipush (v := (-4)) hx hb dX8_noDuel_39 (by decide) ?_
  refine lv_goto (tgt := 45) hx hb dX8_noDuel_41 (by decide) ?_
  obtain rfl := Option.some.inj h
  exact hret _ _ _ _ hP hS dX8_noDuel_45
def fX8_noDuel_21 (w : Mm) : Option (Int32) := some (-1)
set_option maxRecDepth 20000 in
theorem bX8_noDuel_21 {p : Program} {l : Launch} {e : Env} {s : State} {m : MethodId} {args : Array Value} {below : List Frame} {meth : Method} {c : Code} {Q : State → Prop} {D : va_G} {c3 : C3} {ad : Nat → Nat} {A : Nat → Prop} {r : Int32} {w : Mm} (X : Cx p s m args c cX8_noDuel 3 RX8 wsX8_noDuel D c3 (encM c3 ad) gM A) (hret : Ri p l e (rmX8_noDuel) s m args below meth c Q cX8_noDuel D (encM c3 ad) A r w) : ∀ (H : Heap) (locs : List Loc) (ls : Array Slot), va_P D vwCl ((encM c3 ad) w) H → va_S A s.heap H locs → lv_has ls 3 [] → fX8_noDuel_21 w = some r → W p l e (rmX8_noDuel) s m args below meth c H locs 0 0 Q (F0 m 21 ls []) := by
  have hx := X.1
  have hb := X.2.1
  have hml := X.2.2.1
  have hown := X.2.2.2.1
  have hts := X.2.2.2.2.1
  intro H locs ls hP hS hl h
  unfold fX8_noDuel_21 at h
  refine lv_iconst (v := (-1)) hx hb dX8_noDuel_21 (by decide) ?_
  refine lv_goto (tgt := 45) hx hb dX8_noDuel_22 (by decide) ?_
  obtain rfl := Option.some.inj h
  exact hret _ _ _ _ hP hS dX8_noDuel_45
def fX8_noDuel_E (x1 : Int32) (x2 : Int32) (w : Mm) : Option (Int32) := bo (fX8_isOne x1 w) (fun r_2 => (if r_2 = 0 then fX8_noDuel_21 w else bo (fX8_isOne x2 w) (fun r_6 => (if r_6 = 0 then fX8_noDuel_21 w else (if x1 = x2 then fX8_noDuel_21 w else bo (fX8_isOver w) (fun r_11 => (if r_11 = 0 then (if (w.1 0 3) = 0 then fX8_noDuel_39 w else some 0) else fX8_noDuel_39 w)))))))
set_option maxRecDepth 20000 in
theorem bX8_noDuel_E {p : Program} {l : Launch} {e : Env} {s : State} {m : MethodId} {args : Array Value} {below : List Frame} {meth : Method} {c : Code} {Q : State → Prop} {D : va_G} {c3 : C3} {ad : Nat → Nat} {A : Nat → Prop} {r : Int32} {w : Mm} (X : Cx p s m args c cX8_noDuel 3 RX8 wsX8_noDuel D c3 (encM c3 ad) gM A) (hret : Ri p l e (rmX8_noDuel) s m args below meth c Q cX8_noDuel D (encM c3 ad) A r w) : ∀ (x1 : Int32) (x2 : Int32) (H : Heap) (locs : List Loc) (ls : Array Slot), va_P D vwCl ((encM c3 ad) w) H → va_S A s.heap H locs → lv_has ls 3 [(0, .ref (ad 0)), (1, .int x1), (2, .int x2)] → fX8_noDuel_E x1 x2 w = some r → W p l e (rmX8_noDuel) s m args below meth c H locs 0 0 Q (F0 m 0 ls []) := by
  have hx := X.1
  have hb := X.2.1
  have hml := X.2.2.1
  have hown := X.2.2.2.1
  have hts := X.2.2.2.2.1
  intro x1 x2 H locs ls hP hS hl h
  unfold fX8_noDuel_E at h
  refine lv_aload_n hx hb dX8_noDuel_0 rfl (lv_at hl 0 rfl) ?_
  refine lv_iload_n hx hb dX8_noDuel_1 rfl (lv_at hl 1 rfl) ?_
  obtain ⟨r_2, e_1, h⟩ := bo_s h
  refine x_goi X hS (x_runV (As := [.int x1]) (rest := []) X gM_ok hP hS (ctX8_isOne l D c3 ad w _ x1 _ e_1) (cwV 1 hts gX8_noDuel_X8_isOne rfl rfl rfl (by decide +kernel) ⟨by decide, by decide⟩) (gM0 c3 ad w) rfl rfl rfl hl.1 rfl (Nat.le_of_ble_eq_true rfl) dX8_noDuel_2) (fun H locs hP hS => ?_)
  refine lv_if_eq (tgt := 21) hx hb dX8_noDuel_5 (by decide) (fun c_4 => ?_) (fun c_4 => ?_)
  · replace h := it_p c_4 h
    exact bX8_noDuel_21 X hret _ _ _ hP hS (lv_sub hl [] rfl) h
  · replace h := it_n c_4 h
    refine lv_aload_n hx hb dX8_noDuel_8 rfl (lv_at hl 0 rfl) ?_
    refine lv_iload_n hx hb dX8_noDuel_9 rfl (lv_at hl 2 rfl) ?_
    obtain ⟨r_6, e_5, h⟩ := bo_s h
    refine x_goi X hS (x_runV (As := [.int x2]) (rest := []) X gM_ok hP hS (ctX8_isOne l D c3 ad w _ x2 _ e_5) (cwV 1 hts gX8_noDuel_X8_isOne rfl rfl rfl (by decide +kernel) ⟨by decide, by decide⟩) (gM0 c3 ad w) rfl rfl rfl hl.1 rfl (Nat.le_of_ble_eq_true rfl) dX8_noDuel_10) (fun H locs hP hS => ?_)
    refine lv_if_eq (tgt := 21) hx hb dX8_noDuel_13 (by decide) (fun c_8 => ?_) (fun c_8 => ?_)
    · replace h := it_p c_8 h
      exact bX8_noDuel_21 X hret _ _ _ hP hS (lv_sub hl [] rfl) h
    · replace h := it_n c_8 h
      refine lv_iload_n hx hb dX8_noDuel_16 rfl (lv_at hl 1 rfl) ?_
      refine lv_iload_n hx hb dX8_noDuel_17 rfl (lv_at hl 2 rfl) ?_
      refine lv_icmp_ne (tgt := 25) hx hb dX8_noDuel_18 (by decide) (fun c_9 => ?_) (fun c_9 => ?_)
      · replace h := it_n c_9 h
        refine lv_aload_n hx hb dX8_noDuel_25 rfl (lv_at hl 0 rfl) ?_
        obtain ⟨r_11, e_10, h⟩ := bo_s h
        refine x_goi X hS (x_runV (As := []) (rest := []) X gM_ok hP hS (ctX8_isOver l D c3 ad w _ _ e_10) (cwV 0 hts gX8_noDuel_X8_isOver rfl rfl rfl (by decide +kernel) ⟨by decide, by decide⟩) (gM0 c3 ad w) rfl rfl rfl hl.1 rfl (Nat.le_of_ble_eq_true rfl) dX8_noDuel_26) (fun H locs hP hS => ?_)
        refine lv_if_ne (tgt := 39) hx hb dX8_noDuel_29 (by decide) (fun c_13 => ?_) (fun c_13 => ?_)
        · replace h := it_n c_13 h
          exact bX8_noDuel_39 X hret _ _ _ hP hS (lv_sub hl [] rfl) h
        · replace h := it_p c_13 h
          refine lv_aload_n hx hb dX8_noDuel_32 rfl (lv_at hl 0 rfl) ?_
          refine x_get (rest := []) X hP (gM0 c3 ad w) rfl iwX8_noDuel_X8 3 (by decide) lkX8_noDuel_167 rfl dX8_noDuel_33 ?_
          refine lv_if_ne (tgt := 44) hx hb dX8_noDuel_36 (by decide) (fun c_14 => ?_) (fun c_14 => ?_)
          · replace h := it_n c_14 h
            refine lv_iconst (v := 0) hx hb dX8_noDuel_44 (by decide) ?_
            obtain rfl := Option.some.inj h
            exact hret _ _ _ _ hP hS dX8_noDuel_45
          · replace h := it_p c_14 h
            exact bX8_noDuel_39 X hret _ _ _ hP hS (lv_sub hl [] rfl) h
      · replace h := it_p c_9 h
        exact bX8_noDuel_21 X hret _ _ _ hP hS (lv_sub hl [] rfl) h
def fX8_noDuel (x1 : Int32) (x2 : Int32) (w : Mm) : Option (Int32) := fX8_noDuel_E x1 x2 w
theorem ctX8_noDuel (l : Launch) (D : va_G) (c3 : C3) (ad : Nat → Nat) (w : Mm) (sz : Nat) (x1 : Int32) (x2 : Int32) (r : Int32) (h : fX8_noDuel x1 x2 w = some r) : Ci l yX8_noDuel wsX8_noDuel rmX8_noDuel D c3 (encM c3 ad) gM [.ref (ad 0), .int x1, .int x2] w sz r w := by
  refine Ci.of (cc := cX8_noDuel) (maxL := 3) (encM_ok c3 ad) (by decide) rfl (Nat.le_of_ble_eq_true rfl) ?_
  intro p e s m below meth c A Q ls X hret hP hS hl
  exact bX8_noDuel_E X hret x1 x2 _ _ ls hP hS hl h
theorem iwX8_isBetter_X8 : ∀ w ∈ wsX80, w ∈ wsX8_isBetter := fun _ h => List.mem_cons_of_mem _ (List.mem_append_right _ h)
theorem lkX8_isBetter_65 : Cond.fieldLink RX8 65 "StuckDoorModel" "bests" "[I" ∈ wsX8_isBetter := by decide +kernel
def rmX8_isBetter : Room := { frames := 0, cells := 0, slots := 0, locals := 0 }
def fX8_isBetter_E (x1 : Int32) (x2 : Int32) (w : Mm) : Option (Int32) := (if (x1 - x1 / 2 * 2) = 0 then gd (inb x1 7 = true) ((if x2 ≤ (w.1 18 x1.toNatClampNeg) then some 0 else some 1)) else gd (inb x1 7 = true) ((if (w.1 18 x1.toNatClampNeg) ≤ x2 then some 0 else some 1)))
set_option maxRecDepth 20000 in
theorem bX8_isBetter_E {p : Program} {l : Launch} {e : Env} {s : State} {m : MethodId} {args : Array Value} {below : List Frame} {meth : Method} {c : Code} {Q : State → Prop} {D : va_G} {c3 : C3} {ad : Nat → Nat} {A : Nat → Prop} {r : Int32} {w : Mm} (X : Cx p s m args c cX8_isBetter 3 RX8 wsX8_isBetter D c3 (encM c3 ad) gM A) (hret : Rz p l e (rmX8_isBetter) s m args below meth c Q cX8_isBetter D (encM c3 ad) A r w) : ∀ (x1 : Int32) (x2 : Int32) (H : Heap) (locs : List Loc) (ls : Array Slot), va_P D vwCl ((encM c3 ad) w) H → va_S A s.heap H locs → lv_has ls 3 [(0, .ref (ad 0)), (1, .int x1), (2, .int x2)] → fX8_isBetter_E x1 x2 w = some r → W p l e (rmX8_isBetter) s m args below meth c H locs 0 0 Q (F0 m 0 ls []) := by
  have hx := X.1
  have hb := X.2.1
  have hml := X.2.2.1
  have hown := X.2.2.2.1
  have hts := X.2.2.2.2.1
  intro x1 x2 H locs ls hP hS hl h
  unfold fX8_isBetter_E at h
  refine lv_iload_n hx hb dX8_isBetter_0 rfl (lv_at hl 1 rfl) ?_
  refine lv_iconst (v := 2) hx hb dX8_isBetter_1 (by decide) ?_
  refine lv_irem hx hb dX8_isBetter_2 (by decide) ?_
  refine lv_if_ne (tgt := 24) hx hb dX8_isBetter_3 (by decide) (fun c_1 => ?_) (fun c_1 => ?_)
  · replace h := it_n c_1 h
    refine lv_iload_n hx hb dX8_isBetter_24 rfl (lv_at hl 2 rfl) ?_
    refine lv_aload_n hx hb dX8_isBetter_25 rfl (lv_at hl 0 rfl) ?_
    refine x_get (rest := [.int x2]) X hP (gM0 c3 ad w) rfl iwX8_isBetter_X8 30 (by decide) lkX8_isBetter_65 rfl dX8_isBetter_26 ?_
    refine lv_iload_n hx hb dX8_isBetter_29 rfl (lv_at hl 1 rfl) ?_
    obtain ⟨g_2, h⟩ := gd_s h
    refine x_iald X hP (gM18 c3 ad w) g_2 dX8_isBetter_30 ?_
    refine lv_icmp_ge (tgt := 38) hx hb dX8_isBetter_31 (by decide) (fun c_3 => ?_) (fun c_3 => ?_)
    · replace h := it_p c_3 h
      refine lv_iconst (v := 0) hx hb dX8_isBetter_38 (by decide) ?_
      obtain rfl := Option.some.inj h
      exact hret (Or.inl rfl) _ _ _ _ hP hS dX8_isBetter_39
    · replace h := it_n c_3 h
      refine lv_iconst (v := 1) hx hb dX8_isBetter_34 (by decide) ?_
      refine lv_goto (tgt := 39) hx hb dX8_isBetter_35 (by decide) ?_
      obtain rfl := Option.some.inj h
      exact hret (Or.inr rfl) _ _ _ _ hP hS dX8_isBetter_39
  · replace h := it_p c_1 h
    refine lv_iload_n hx hb dX8_isBetter_6 rfl (lv_at hl 2 rfl) ?_
    refine lv_aload_n hx hb dX8_isBetter_7 rfl (lv_at hl 0 rfl) ?_
    refine x_get (rest := [.int x2]) X hP (gM0 c3 ad w) rfl iwX8_isBetter_X8 30 (by decide) lkX8_isBetter_65 rfl dX8_isBetter_8 ?_
    refine lv_iload_n hx hb dX8_isBetter_11 rfl (lv_at hl 1 rfl) ?_
    obtain ⟨g_4, h⟩ := gd_s h
    refine x_iald X hP (gM18 c3 ad w) g_4 dX8_isBetter_12 ?_
    refine lv_icmp_le (tgt := 20) hx hb dX8_isBetter_13 (by decide) (fun c_5 => ?_) (fun c_5 => ?_)
    · replace h := it_p c_5 h
      refine lv_iconst (v := 0) hx hb dX8_isBetter_20 (by decide) ?_
      refine lv_goto (tgt := 39) hx hb dX8_isBetter_21 (by decide) ?_
      obtain rfl := Option.some.inj h
      exact hret (Or.inl rfl) _ _ _ _ hP hS dX8_isBetter_39
    · replace h := it_n c_5 h
      refine lv_iconst (v := 1) hx hb dX8_isBetter_16 (by decide) ?_
      refine lv_goto (tgt := 39) hx hb dX8_isBetter_17 (by decide) ?_
      obtain rfl := Option.some.inj h
      exact hret (Or.inr rfl) _ _ _ _ hP hS dX8_isBetter_39
def fX8_isBetter (x1 : Int32) (x2 : Int32) (w : Mm) : Option (Int32) := fX8_isBetter_E x1 x2 w
theorem ctX8_isBetter (l : Launch) (D : va_G) (c3 : C3) (ad : Nat → Nat) (w : Mm) (sz : Nat) (x1 : Int32) (x2 : Int32) (r : Int32) (h : fX8_isBetter x1 x2 w = some r) : Ci l yX8_isBetter wsX8_isBetter rmX8_isBetter D c3 (encM c3 ad) gM [.ref (ad 0), .int x1, .int x2] w sz r w := by
  refine Ci.ofz (cc := cX8_isBetter) (maxL := 3) (encM_ok c3 ad) (by decide) rfl (Nat.le_of_ble_eq_true rfl) ?_
  intro p e s m below meth c A Q ls X hret hP hS hl
  exact bX8_isBetter_E X hret x1 x2 _ _ ls hP hS hl h

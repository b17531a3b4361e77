theorem iwX8_odds_X8 : ∀ w ∈ wsX80, w ∈ wsX8_odds := fun _ h => List.mem_cons_of_mem _ (List.mem_append_right _ h)
theorem lkX8_odds_13 : Cond.fieldLink RX8 13 "StuckDoorModel" "bears" "[I" ∈ wsX8_odds := by decide +kernel
theorem lkX8_odds_68 : Cond.fieldLink RX8 68 "StuckDoorModel" "ways" "[J" ∈ wsX8_odds := by decide +kernel
def rmX8_odds : Room := { frames := 3, cells := 0, slots := 0, locals := 64 }
def fX8_odds_111 (k69 : Int64 → Int64 → Int32 → Mm → Option (Int32 × Mm)) (x1 : Int32) (x2 : Int32) (y7 : Int64) (x9 : Int32) (u0 : Int64) (u1 : Int64) (w : Mm) : Option (Int32 × Mm) := nm (u1 + u0) (fun y5_1 => gd (inb x9 13 = true) (nm (y7 + (w.2.1 19 x9.toNatClampNeg)) (fun y7_3 => k69 y5_1 y7_3 (x9 + 1) w)))
set_option maxRecDepth 20000 in
theorem bX8_odds_111 {p : Program} {l : Launch} {e : Env} {s : State} {m : MethodId} {args : Array Value} {below : List Frame} {meth : Method} {c : Code} {Q : State → Prop} {D : va_G} {c3 : C3} {ad : Nat → Nat} {A : Nat → Prop} {r : Int32} {w' : Mm} (X : Cx p s m args c cX8_odds 10 RX8 wsX8_odds D c3 (encM c3 ad) gM A) (hret : Ri p l e (rmX8_odds) s m args below meth c Q cX8_odds D (encM c3 ad) A r w') {x1 : Int32} {x2 : Int32} {k69 : Int64 → Int64 → Int32 → Mm → Option (Int32 × Mm)} (hk69 : ∀ (y5 : Int64) (y7 : Int64) (x9 : Int32) (w : Mm) (H : Heap) (locs : List Loc) (ls : Array Slot), va_P D vwCl ((encM c3 ad) w) H → va_S A s.heap H locs → lv_has ls 10 [(0, .ref (ad 0)), (1, .int x1), (2, .int x2), (5, .long y5), (7, .long y7), (9, .int x9)] → k69 y5 y7 x9 w = some (r, w') → W p l e (rmX8_odds) s m args below meth c H locs 0 0 Q (F0 m 69 ls [])) : ∀ (y7 : Int64) (x9 : Int32) (u0 : Int64) (u1 : Int64) (w : Mm) (H : Heap) (locs : List Loc) (ls : Array Slot), va_P D vwCl ((encM c3 ad) w) H → va_S A s.heap H locs → lv_has ls 10 [(0, .ref (ad 0)), (1, .int x1), (2, .int x2), (7, .long y7), (9, .int x9)] → fX8_odds_111 k69 x1 x2 y7 x9 u0 u1 w = some (r, w') → W p l e (rmX8_odds) s m args below meth c H locs 0 0 Q (F0 m 111 ls [.long u0, .long u1]) := by
  have hx := X.1
  have hb := X.2.1
  have hml := X.2.2.1
  have hown := X.2.2.2.1
  have hts := X.2.2.2.2.1
  intro y7 x9 u0 u1 w H locs ls hP hS hl h
  unfold fX8_odds_111 at h
  refine lv_ladd hx hb dX8_odds_111 ?_
  refine x_nml h (fun y5_1 h => ?_)
  refine lv_lstore (lv' := [(5, .long y5_1), (0, .ref (ad 0)), (1, .int x1), (2, .int x2), (7, .long y7), (9, .int x9)]) hx hb dX8_odds_112 hl (by decide) rfl (fun ls hl => ?_)
  refine lv_lload hx hb dX8_odds_114 (lv_at hl 4 rfl) ?_
  refine lv_aload_n hx hb dX8_odds_116 rfl (lv_at hl 1 rfl) ?_
  refine x_get (rest := [.long y7]) X hP (gM0 c3 ad w) rfl iwX8_odds_X8 32 (by decide) lkX8_odds_68 rfl dX8_odds_117 ?_
  refine lv_iload hx hb dX8_odds_120 (lv_at hl 5 rfl) ?_
  obtain ⟨g_2, h⟩ := gd_s h
  refine x_lald X hP (gM19 c3 ad w) g_2 dX8_odds_122 ?_
  refine lv_ladd hx hb dX8_odds_123 ?_
  refine x_nml h (fun y7_3 h => ?_)
  refine lv_lstore (lv' := [(7, .long y7_3), (5, .long y5_1), (0, .ref (ad 0)), (1, .int x1), (2, .int x2), (9, .int x9)]) hx hb dX8_odds_124 hl (by decide) rfl (fun ls hl => ?_)
  refine lv_iinc (v := (x9 + 1)) (lv' := [(9, .int (x9 + 1)), (7, .long y7_3), (5, .long y5_1), (0, .ref (ad 0)), (1, .int x1), (2, .int x2)]) hx hb dX8_odds_126 hl (k := 5) rfl rfl (by decide) rfl (fun ls hl => ?_)
  refine lv_goto (tgt := 69) hx hb dX8_odds_129 (by decide) ?_
  exact hk69 y5_1 y7_3 (x9 + 1) w _ _ _ hP hS (lv_sub hl [3, 4, 5, 2, 1, 0] rfl) h
def fX8_odds_69 (x1 : Int32) (x2 : Int32) : Nat → Int64 → Int64 → Int32 → Mm → Option (Int32 × Mm)
  | 0, _, _, _, _ => none
  | n + 1, y5, y7, x9, w => (if 13 ≤ x9 then bd (fX8_tellParts y5 y7 w) (fun r_6 w_7 => some (r_6, w_7)) else bo (fX8_strainBehind x9 w) (fun r_9 => bo (fX8_nearOf 0 x2 w) (fun r_12 => gd (inb x1 4 = true) ((if (w.1 2 x1.toNatClampNeg) < (r_9 + r_12) then fX8_odds_111 (fX8_odds_69 x1 x2 n) x1 x2 y7 x9 0 y5 w else gd (inb x9 13 = true) (fX8_odds_111 (fX8_odds_69 x1 x2 n) x1 x2 y7 x9 (w.2.1 19 x9.toNatClampNeg) y5 w))))))
set_option maxRecDepth 20000 in
theorem bX8_odds_69 {p : Program} {l : Launch} {e : Env} {s : State} {m : MethodId} {args : Array Value} {below : List Frame} {meth : Method} {c : Code} {Q : State → Prop} {D : va_G} {c3 : C3} {ad : Nat → Nat} {A : Nat → Prop} {r : Int32} {w' : Mm} (X : Cx p s m args c cX8_odds 10 RX8 wsX8_odds D c3 (encM c3 ad) gM A) (hret : Ri p l e (rmX8_odds) s m args below meth c Q cX8_odds D (encM c3 ad) A r w') : ∀ (x1 : Int32) (x2 : Int32) (n : Nat) (y5 : Int64) (y7 : Int64) (x9 : Int32) (w : Mm) (H : Heap) (locs : List Loc) (ls : Array Slot), va_P D vwCl ((encM c3 ad) w) H → va_S A s.heap H locs → lv_has ls 10 [(0, .ref (ad 0)), (1, .int x1), (2, .int x2), (5, .long y5), (7, .long y7), (9, .int x9)] → fX8_odds_69 x1 x2 n y5 y7 x9 w = some (r, w') → W p l e (rmX8_odds) s m args below meth c H locs 0 0 Q (F0 m 69 ls []) := by
  have hx := X.1
  have hb := X.2.1
  have hml := X.2.2.1
  have hown := X.2.2.2.1
  have hts := X.2.2.2.2.1
  intro x1 x2 n
  induction n with
  | zero =>
    intro y5 y7 x9 w H locs ls hP hS hl h
    exact absurd h (by simp [fX8_odds_69])
  | succ n ih =>
    intro y5 y7 x9 w H locs ls hP hS hl h
    rw [fX8_odds_69] at h
    refine lv_iload hx hb dX8_odds_69 (lv_at hl 5 rfl) ?_
    refine lv_bipush (v := 13) hx hb dX8_odds_71 (by decide) ?_
    refine lv_icmp_ge (tgt := 132) hx hb dX8_odds_73 (by decide) (fun c_4 => ?_) (fun c_4 => ?_)
    · replace h := it_p c_4 h
      refine lv_aload_n hx hb dX8_odds_132 rfl (lv_at hl 0 rfl) ?_
      refine lv_lload hx hb dX8_odds_133 (lv_at hl 3 rfl) ?_
      refine lv_lload hx hb dX8_odds_135 (lv_at hl 4 rfl) ?_
      obtain ⟨r_6, w_7, e_5, h⟩ := bd_s h
      refine x_goi X hS (x_runV (As := [.long y5, .long y7]) (rest := []) X gM_ok hP hS (ctX8_tellParts l D c3 ad w _ y5 y7 _ _ e_5) (cwV 2 hts gX8_odds_X8_tellParts rfl rfl rfl (by decide +kernel) ⟨by decide, by decide⟩) (gM0 c3 ad w) rfl rfl rfl hl.1 rfl (Nat.le_of_ble_eq_true rfl) dX8_odds_137) (fun H locs hP hS => ?_)
      obtain ⟨rfl, rfl⟩ := Prod.mk.inj (Option.some.inj h)
      exact hret _ _ _ _ hP hS dX8_odds_140
    · replace h := it_n c_4 h
      refine lv_lload hx hb dX8_odds_76 (lv_at hl 3 rfl) ?_
      refine lv_aload_n hx hb dX8_odds_78 rfl (lv_at hl 0 rfl) ?_
      refine lv_iload hx hb dX8_odds_79 (lv_at hl 5 rfl) ?_
      obtain ⟨r_9, e_8, h⟩ := bo_s h
      refine x_goi X hS (x_runV (As := [.int x9]) (rest := [.long y5]) X gM_ok hP hS (ctX8_strainBehind l D c3 ad w _ x9 _ e_8) (cwV 1 hts gX8_odds_X8_strainBehind rfl rfl rfl (by decide +kernel) ⟨by decide, by decide⟩) (gM0 c3 ad w) rfl rfl rfl hl.1 rfl (Nat.le_of_ble_eq_true rfl) dX8_odds_81) (fun H locs hP hS => ?_)
      refine lv_aload_n hx hb dX8_odds_84 rfl (lv_at hl 0 rfl) ?_
      refine lv_iconst (v := 0) hx hb dX8_odds_85 (by decide) ?_
      refine lv_iload_n hx hb dX8_odds_86 rfl (lv_at hl 2 rfl) ?_
      obtain ⟨r_12, e_11, h⟩ := bo_s h
      refine x_goi X hS (x_runV (As := [.int 0, .int x2]) (rest := [.int r_9, .long y5]) X gM_ok hP hS (ctX8_nearOf l D c3 ad w _ 0 x2 _ e_11) (cwV 2 hts gX8_odds_X8_nearOf rfl rfl rfl (by decide +kernel) ⟨by decide, by decide⟩) (gM0 c3 ad w) rfl rfl rfl hl.1 rfl (Nat.le_of_ble_eq_true rfl) dX8_odds_87) (fun H locs hP hS => ?_)
      refine lv_iadd hx hb dX8_odds_90 ?_
      refine lv_aload_n hx hb dX8_odds_91 rfl (lv_at hl 0 rfl) ?_
      refine x_get (rest := [.int (r_9 + r_12), .long y5]) X hP (gM0 c3 ad w) rfl iwX8_odds_X8 2 (by decide) lkX8_odds_13 rfl dX8_odds_92 ?_
      refine lv_iload_n hx hb dX8_odds_95 rfl (lv_at hl 1 rfl) ?_
      obtain ⟨g_14, h⟩ := gd_s h
      refine x_iald X hP (gM2 c3 ad w) g_14 dX8_odds_96 ?_
      refine lv_icmp_gt (tgt := 110) hx hb dX8_odds_97 (by decide) (fun c_15 => ?_) (fun c_15 => ?_)
      · replace h := it_p c_15 h
        refine lv_lconst (v := 0) hx hb dX8_odds_110 (by decide) ?_
        exact bX8_odds_111 (x1 := x1) (x2 := x2) (k69 := (fX8_odds_69 x1 x2 n)) X hret ih y7 x9 0 y5 w _ _ _ hP hS (lv_sub hl [0, 1, 2, 4, 5] rfl) h
      · replace h := it_n c_15 h
        refine lv_aload_n hx hb dX8_odds_100 rfl (lv_at hl 0 rfl) ?_
        refine x_get (rest := [.long y5]) X hP (gM0 c3 ad w) rfl iwX8_odds_X8 32 (by decide) lkX8_odds_68 rfl dX8_odds_101 ?_
        refine lv_iload hx hb dX8_odds_104 (lv_at hl 5 rfl) ?_
        obtain ⟨g_16, h⟩ := gd_s h
        refine x_lald X hP (gM19 c3 ad w) g_16 dX8_odds_106 ?_
        refine lv_goto (tgt := 111) hx hb dX8_odds_107 (by decide) ?_
        exact bX8_odds_111 (x1 := x1) (x2 := x2) (k69 := (fX8_odds_69 x1 x2 n)) X hret ih y7 x9 (w.2.1 19 x9.toNatClampNeg) y5 w _ _ _ hP hS (lv_sub hl [0, 1, 2, 4, 5] rfl) h
def fX8_odds_E (x1 : Int32) (x2 : Int32) (x3 : Int32) (x4 : Int32) (w : Mm) : Option (Int32 × Mm) := bo (fX8_isOne x1 w) (fun r_18 => (if r_18 = 0 then some ((-1), w) else bo (fX8_isSaying x2 w) (fun r_22 => (if r_22 = 0 then some ((-1), w) else bo (fX8_in x3.toInt64 0 12) (fun r_26 => (if r_26 = 0 then some ((-1), w) else bo (fX8_in x4.toInt64 0 12) (fun r_30 => (if r_30 = 0 then some ((-1), w) else bo (fX8_isOver w) (fun r_34 => (if r_34 = 0 then bo (fX8_layWays x3 x4 w) (fun w_39 => fX8_odds_69 x1 x2 FU 0 0 0 w_39) else some ((-4), w)))))))))))
set_option maxRecDepth 20000 in
theorem bX8_odds_E {p : Program} {l : Launch} {e : Env} {s : State} {m : MethodId} {args : Array Value} {below : List Frame} {meth : Method} {c : Code} {Q : State → Prop} {D : va_G} {c3 : C3} {ad : Nat → Nat} {A : Nat → Prop} {r : Int32} {w' : Mm} (X : Cx p s m args c cX8_odds 10 RX8 wsX8_odds D c3 (encM c3 ad) gM A) (hret : Ri p l e (rmX8_odds) s m args below meth c Q cX8_odds D (encM c3 ad) A r w') : ∀ (x1 : Int32) (x2 : Int32) (x3 : Int32) (x4 : Int32) (w : Mm) (H : Heap) (locs : List Loc) (ls : Array Slot), va_P D vwCl ((encM c3 ad) w) H → va_S A s.heap H locs → lv_has ls 10 [(0, .ref (ad 0)), (1, .int x1), (2, .int x2), (3, .int x3), (4, .int x4)] → fX8_odds_E x1 x2 x3 x4 w = some (r, w') → W p l e (rmX8_odds) s m args below meth c H locs 0 0 Q (F0 m 0 ls []) := by
  have hx := X.1
  have hb := X.2.1
  have hml := X.2.2.1
  have hown := X.2.2.2.1
  have hts := X.2.2.2.2.1
  intro x1 x2 x3 x4 w H locs ls hP hS hl h
  unfold fX8_odds_E at h
  refine lv_aload_n hx hb dX8_odds_0 rfl (lv_at hl 0 rfl) ?_
  refine lv_iload_n hx hb dX8_odds_1 rfl (lv_at hl 1 rfl) ?_
  obtain ⟨r_18, e_17, h⟩ := bo_s h
  refine x_goi X hS (x_runV (As := [.int x1]) (rest := []) X gM_ok hP hS (ctX8_isOne l D c3 ad w _ x1 _ e_17) (cwV 1 hts gX8_odds_X8_isOne rfl rfl rfl (by decide +kernel) ⟨by decide, by decide⟩) (gM0 c3 ad w) rfl rfl rfl hl.1 rfl (Nat.le_of_ble_eq_true rfl) dX8_odds_2) (fun H locs hP hS => ?_)
  refine lv_if_eq (tgt := 41) hx hb dX8_odds_5 (by decide) (fun c_20 => ?_) (fun c_20 => ?_)
  · replace h := it_p c_20 h
    refine lv_iconst (v := (-1)) hx hb dX8_odds_41 (by decide) ?_
    obtain ⟨rfl, rfl⟩ := Prod.mk.inj (Option.some.inj h)
    exact hret _ _ _ _ hP hS dX8_odds_42
  · replace h := it_n c_20 h
    refine lv_aload_n hx hb dX8_odds_8 rfl (lv_at hl 0 rfl) ?_
    refine lv_iload_n hx hb dX8_odds_9 rfl (lv_at hl 2 rfl) ?_
    obtain ⟨r_22, e_21, h⟩ := bo_s h
    refine x_goi X hS (x_runV (As := [.int x2]) (rest := []) X gM_ok hP hS (ctX8_isSaying l D c3 ad w _ x2 _ e_21) (cwV 1 hts gX8_odds_X8_isSaying rfl rfl rfl (by decide +kernel) ⟨by decide, by decide⟩) (gM0 c3 ad w) rfl rfl rfl hl.1 rfl (Nat.le_of_ble_eq_true rfl) dX8_odds_10) (fun H locs hP hS => ?_)
    refine lv_if_eq (tgt := 41) hx hb dX8_odds_13 (by decide) (fun c_24 => ?_) (fun c_24 => ?_)
    · replace h := it_p c_24 h
      refine lv_iconst (v := (-1)) hx hb dX8_odds_41 (by decide) ?_
      obtain ⟨rfl, rfl⟩ := Prod.mk.inj (Option.some.inj h)
      exact hret _ _ _ _ hP hS dX8_odds_42
    · replace h := it_n c_24 h
      refine lv_iload_n hx hb dX8_odds_16 rfl (lv_at hl 3 rfl) ?_
      refine lv_i2l (v := x3.toInt64) hx hb dX8_odds_17 rfl ?_
      refine lv_lconst (v := 0) hx hb dX8_odds_18 (by decide) ?_
      refine lv_ldc2 (v := 12) hx hb hown (hts (.constantLong RX8 284 (12)) (by decide +kernel)) dX8_odds_19 ?_
      obtain ⟨r_26, e_25, h⟩ := bo_s h
      refine x_goi X hS (x_runS (As := [.long x3.toInt64, .long 0, .long 12]) (rest := []) X gM_ok hP hS (ctX8_in l D c3 ad w _ x3.toInt64 0 12 _ e_25) (va_cwS 3 hts gX8_odds_X8_in rfl rfl rfl (by decide +kernel) ⟨by decide, by decide⟩) rfl hl.1 rfl (Nat.le_of_ble_eq_true rfl) dX8_odds_22) (fun H locs hP hS => ?_)
      refine lv_if_eq (tgt := 41) hx hb dX8_odds_25 (by decide) (fun c_28 => ?_) (fun c_28 => ?_)
      · replace h := it_p c_28 h
        refine lv_iconst (v := (-1)) hx hb dX8_odds_41 (by decide) ?_
        obtain ⟨rfl, rfl⟩ := Prod.mk.inj (Option.some.inj h)
        exact hret _ _ _ _ hP hS dX8_odds_42
      · replace h := it_n c_28 h
        refine lv_iload hx hb dX8_odds_28 (lv_at hl 4 rfl) ?_
        refine lv_i2l (v := x4.toInt64) hx hb dX8_odds_30 rfl ?_
        refine lv_lconst (v := 0) hx hb dX8_odds_31 (by decide) ?_
        refine lv_ldc2 (v := 12) hx hb hown (hts (.constantLong RX8 284 (12)) (by decide +kernel)) dX8_odds_32 ?_
        obtain ⟨r_30, e_29, h⟩ := bo_s h
        refine x_goi X hS (x_runS (As := [.long x4.toInt64, .long 0, .long 12]) (rest := []) X gM_ok hP hS (ctX8_in l D c3 ad w _ x4.toInt64 0 12 _ e_29) (va_cwS 3 hts gX8_odds_X8_in rfl rfl rfl (by decide +kernel) ⟨by decide, by decide⟩) rfl hl.1 rfl (Nat.le_of_ble_eq_true rfl) dX8_odds_35) (fun H locs hP hS => ?_)
        refine lv_if_ne (tgt := 43) hx hb dX8_odds_38 (by decide) (fun c_32 => ?_) (fun c_32 => ?_)
        · replace h := it_n c_32 h
          refine lv_aload_n hx hb dX8_odds_43 rfl (lv_at hl 0 rfl) ?_
          obtain ⟨r_34, e_33, h⟩ := bo_s h
          refine x_goi X hS (x_runV (As := []) (rest := []) X gM_ok hP hS (ctX8_isOver l D c3 ad w _ _ e_33) (cwV 0 hts gX8_odds_X8_isOver rfl rfl rfl (by decide +kernel) ⟨by decide, by decide⟩) (gM0 c3 ad w) rfl rfl rfl hl.1 rfl (Nat.le_of_ble_eq_true rfl) dX8_odds_44) (fun H locs hP hS => ?_)
          refine lv_if_eq (tgt := 53) hx hb dX8_odds_47 (by decide) (fun c_36 => ?_) (fun c_36 => ?_)
          · replace h := it_p c_36 h
            refine lv_aload_n hx hb dX8_odds_53 rfl (lv_at hl 0 rfl) ?_
            refine lv_iload_n hx hb dX8_odds_54 rfl (lv_at hl 3 rfl) ?_
            refine lv_iload hx hb dX8_odds_55 (lv_at hl 4 rfl) ?_
            obtain ⟨w_39, e_37, h⟩ := bo_s h
            refine x_gov X hS (x_runV (As := [.int x3, .int x4]) (rest := []) X gM_ok hP hS (ctX8_layWays l D c3 ad w _ x3 x4 _ e_37) (cwV 2 hts gX8_odds_X8_layWays rfl rfl rfl (by decide +kernel) ⟨by decide, by decide⟩) (gM0 c3 ad w) rfl rfl rfl hl.1 rfl (Nat.le_of_ble_eq_true rfl) dX8_odds_57) (fun H locs hP hS => ?_)
            refine lv_lconst (v := 0) hx hb dX8_odds_60 (by decide) ?_
            refine lv_lstore (lv' := [(5, .long 0), (0, .ref (ad 0)), (1, .int x1), (2, .int x2), (3, .int x3), (4, .int x4)]) hx hb dX8_odds_61 hl (by decide) rfl (fun ls hl => ?_)
            refine lv_lconst (v := 0) hx hb dX8_odds_63 (by decide) ?_
            refine lv_lstore (lv' := [(7, .long 0), (5, .long 0), (0, .ref (ad 0)), (1, .int x1), (2, .int x2), (3, .int x3), (4, .int x4)]) hx hb dX8_odds_64 hl (by decide) rfl (fun ls hl => ?_)
            refine lv_iconst (v := 0) hx hb dX8_odds_66 (by decide) ?_
            refine lv_istore (lv' := [(9, .int 0), (7, .long 0), (5, .long 0), (0, .ref (ad 0)), (1, .int x1), (2, .int x2), (3, .int x3), (4, .int x4)]) hx hb dX8_odds_67 hl (by decide) rfl (fun ls hl => ?_)
            exact bX8_odds_69 X hret x1 x2 FU 0 0 0 w_39 _ _ _ hP hS (lv_sub hl [3, 4, 5, 2, 1, 0] rfl) h
          · replace h := it_n c_36 h
            refine lv_bipush (v := (-4)) hx hb dX8_odds_50 (by decide) ?_
            obtain ⟨rfl, rfl⟩ := Prod.mk.inj (Option.some.inj h)
            exact hret _ _ _ _ hP hS dX8_odds_52
        · replace h := it_p c_32 h
          refine lv_iconst (v := (-1)) hx hb dX8_odds_41 (by decide) ?_
          obtain ⟨rfl, rfl⟩ := Prod.mk.inj (Option.some.inj h)
          exact hret _ _ _ _ hP hS dX8_odds_42
def fX8_odds (x1 : Int32) (x2 : Int32) (x3 : Int32) (x4 : Int32) (w : Mm) : Option (Int32 × Mm) := fX8_odds_E x1 x2 x3 x4 w
theorem ctX8_odds (l : Launch) (D : va_G) (c3 : C3) (ad : Nat → Nat) (w : Mm) (sz : Nat) (x1 : Int32) (x2 : Int32) (x3 : Int32) (x4 : Int32) (r : Int32) (w' : Mm) (h : fX8_odds x1 x2 x3 x4 w = some (r, w')) : Ci l yX8_odds wsX8_odds rmX8_odds D c3 (encM c3 ad) gM [.ref (ad 0), .int x1, .int x2, .int x3, .int x4] w sz r w' := by
  refine Ci.of (cc := cX8_odds) (maxL := 10) (encM_ok c3 ad) (by decide) rfl (Nat.le_of_ble_eq_true rfl) ?_
  intro p e s m below meth c A Q ls X hret hP hS hl
  exact bX8_odds_E X hret x1 x2 x3 x4 w _ _ ls hP hS hl h
theorem iwX8_lots_X8 : ∀ w ∈ wsX80, w ∈ wsX8_lots := fun _ h => List.mem_cons_of_mem _ (List.mem_append_right _ h)
theorem lkX8_lots_7 : Cond.fieldLink RX8 7 "StuckDoorModel" "row" "[I" ∈ wsX8_lots := by decide +kernel
theorem lkX8_lots_164 : Cond.fieldLink RX8 164 "StuckDoorModel" "people" "I" ∈ wsX8_lots := by decide +kernel
theorem lkX8_lots_167 : Cond.fieldLink RX8 167 "StuckDoorModel" "sayings" "I" ∈ wsX8_lots := by decide +kernel
def rmX8_lots : Room := { frames := 4, cells := 0, slots := 0, locals := 87 }
def fX8_lots_150 (k58 : Int64 → Int32 → Mm → Option (Int32 × Mm)) (x1 : Int32) (y3 : Int64) (x5 : Int32) (w : Mm) : Option (Int32 × Mm) := k58 y3 (x5 + 1) w
set_option maxRecDepth 20000 in
theorem bX8_lots_150 {p : Program} {l : Launch} {e : Env} {s : State} {m : MethodId} {args : Array Value} {below : List Frame} {meth : Method} {c : Code} {Q : State → Prop} {D : va_G} {c3 : C3} {ad : Nat → Nat} {A : Nat → Prop} {r : Int32} {w' : Mm} (X : Cx p s m args c cX8_lots 8 RX8 wsX8_lots D c3 (encM c3 ad) gM A) (hret : Ri p l e (rmX8_lots) s m args below meth c Q cX8_lots D (encM c3 ad) A r w') {x1 : Int32} {k58 : Int64 → Int32 → Mm → Option (Int32 × Mm)} (hk58 : ∀ (y3 : Int64) (x5 : Int32) (w : Mm) (H : Heap) (locs : List Loc) (ls : Array Slot), va_P D vwCl ((encM c3 ad) w) H → va_S A s.heap H locs → lv_has ls 8 [(0, .ref (ad 0)), (1, .int x1), (3, .long y3), (5, .int x5)] → k58 y3 x5 w = some (r, w') → W p l e (rmX8_lots) s m args below meth c H locs 0 0 Q (F0 m 58 ls [])) : ∀ (y3 : Int64) (x5 : Int32) (w : Mm) (H : Heap) (locs : List Loc) (ls : Array Slot), va_P D vwCl ((encM c3 ad) w) H → va_S A s.heap H locs → lv_has ls 8 [(0, .ref (ad 0)), (1, .int x1), (3, .long y3), (5, .int x5)] → fX8_lots_150 k58 x1 y3 x5 w = some (r, w') → W p l e (rmX8_lots) s m args below meth c H locs 0 0 Q (F0 m 150 ls []) := by
  have hx := X.1
  have hb := X.2.1
  have hml := X.2.2.1
  have hown := X.2.2.2.1
  have hts := X.2.2.2.2.1
  intro y3 x5 w H locs ls hP hS hl h
  unfold fX8_lots_150 at h
  refine lv_iinc (v := (x5 + 1)) (lv' := [(5, .int (x5 + 1)), (0, .ref (ad 0)), (1, .int x1), (3, .long y3)]) hx hb dX8_lots_150 hl (k := 3) rfl rfl (by decide) rfl (fun ls hl => ?_)
  refine lv_goto (tgt := 58) hx hb dX8_lots_153 (by decide) ?_
  exact hk58 y3 (x5 + 1) w _ _ _ hP hS (lv_sub hl [1, 2, 3, 0] rfl) h
def fX8_lots_130 (k58 : Int64 → Int32 → Mm → Option (Int32 × Mm)) (x1 : Int32) (y3 : Int64) (x5 : Int32) (w : Mm) : Option (Int32 × Mm) := bo (fX8_doDay w) (fun w_3 => fX8_lots_150 k58 x1 y3 x5 w_3)
set_option maxRecDepth 20000 in
theorem bX8_lots_130 {p : Program} {l : Launch} {e : Env} {s : State} {m : MethodId} {args : Array Value} {below : List Frame} {meth : Method} {c : Code} {Q : State → Prop} {D : va_G} {c3 : C3} {ad : Nat → Nat} {A : Nat → Prop} {r : Int32} {w' : Mm} (X : Cx p s m args c cX8_lots 8 RX8 wsX8_lots D c3 (encM c3 ad) gM A) (hret : Ri p l e (rmX8_lots) s m args below meth c Q cX8_lots D (encM c3 ad) A r w') {x1 : Int32} {k58 : Int64 → Int32 → Mm → Option (Int32 × Mm)} (hk58 : ∀ (y3 : Int64) (x5 : Int32) (w : Mm) (H : Heap) (locs : List Loc) (ls : Array Slot), va_P D vwCl ((encM c3 ad) w) H → va_S A s.heap H locs → lv_has ls 8 [(0, .ref (ad 0)), (1, .int x1), (3, .long y3), (5, .int x5)] → k58 y3 x5 w = some (r, w') → W p l e (rmX8_lots) s m args below meth c H locs 0 0 Q (F0 m 58 ls [])) : ∀ (y3 : Int64) (x5 : Int32) (w : Mm) (H : Heap) (locs : List Loc) (ls : Array Slot), va_P D vwCl ((encM c3 ad) w) H → va_S A s.heap H locs → lv_has ls 8 [(0, .ref (ad 0)), (1, .int x1), (3, .long y3), (5, .int x5)] → fX8_lots_130 k58 x1 y3 x5 w = some (r, w') → W p l e (rmX8_lots) s m args below meth c H locs 0 0 Q (F0 m 130 ls []) := by
  have hx := X.1
  have hb := X.2.1
  have hml := X.2.2.1
  have hown := X.2.2.2.1
  have hts := X.2.2.2.2.1
  intro y3 x5 w H locs ls hP hS hl h
  unfold fX8_lots_130 at h
  refine lv_aload_n hx hb dX8_lots_130 rfl (lv_at hl 0 rfl) ?_
  obtain ⟨w_3, e_1, h⟩ := bo_s h
  refine x_gov X hS (x_runV (As := []) (rest := []) X gM_ok hP hS (ctX8_doDay l D c3 ad w _ _ e_1) (cwV 0 hts gX8_lots_X8_doDay rfl rfl rfl (by decide +kernel) ⟨by decide, by decide⟩) (gM0 c3 ad w) rfl rfl rfl hl.1 rfl (Nat.le_of_ble_eq_true rfl) dX8_lots_131) (fun H locs hP hS => ?_)
  refine lv_goto (tgt := 150) hx hb dX8_lots_134 (by decide) ?_
  exact bX8_lots_150 (x1 := x1) (k58 := k58) X hret hk58 y3 x5 w_3 _ _ _ hP hS (lv_sub hl [0, 1, 2, 3] rfl) h
def fX8_lots_58 (x1 : Int32) : Nat → Int64 → Int32 → Mm → Option (Int32 × Mm)
  | 0, _, _, _ => none
  | n + 1, y3, x5, w => (if x1 ≤ x5 then some ((w.1 1 2), w) else nm ((y3 * 48271) - (y3 * 48271) / 2147483647 * 2147483647) (fun y3_5 => gd (¬ ((w.1 0 1).toInt64) = 0) (nm (((y3_5 / 64) - (y3_5 / 64) / ((w.1 0 1).toInt64) * ((w.1 0 1).toInt64)).toInt32) (fun x6_7 => gd (¬ ((w.1 0 3).toInt64) = 0) (nm ((y3_5 - y3_5 / ((w.1 0 3).toInt64) * ((w.1 0 3).toInt64)).toInt32) (fun x7_9 => (if (lg_cmp ((y3_5 / 8) - (y3_5 / 8) / 4 * 4) 0) = 0 then fX8_lots_130 (fX8_lots_58 x1 n) x1 y3_5 x5 w else bo (fX8_isOver w) (fun r_12 => (if r_12 = 0 then bo (fX8_bearsIt x6_7 x7_9 w) (fun r_16 => (if r_16 = 0 then fX8_lots_130 (fX8_lots_58 x1 n) x1 y3_5 x5 w else bo (fX8_keepPast w) (fun w_21 => bo (fX8_says 0 x6_7 x7_9 w_21) (fun w_24 => fX8_lots_150 (fX8_lots_58 x1 n) x1 y3_5 x5 w_24)))) else fX8_lots_130 (fX8_lots_58 x1 n) x1 y3_5 x5 w)))))))))
set_option maxRecDepth 20000 in
theorem bX8_lots_58 {p : Program} {l : Launch} {e : Env} {s : State} {m : MethodId} {args : Array Value} {below : List Frame} {meth : Method} {c : Code} {Q : State → Prop} {D : va_G} {c3 : C3} {ad : Nat → Nat} {A : Nat → Prop} {r : Int32} {w' : Mm} (X : Cx p s m args c cX8_lots 8 RX8 wsX8_lots D c3 (encM c3 ad) gM A) (hret : Ri p l e (rmX8_lots) s m args below meth c Q cX8_lots D (encM c3 ad) A r w') : ∀ (x1 : Int32) (n : Nat) (y3 : Int64) (x5 : Int32) (w : Mm) (H : Heap) (locs : List Loc) (ls : Array Slot), va_P D vwCl ((encM c3 ad) w) H → va_S A s.heap H locs → lv_has ls 8 [(0, .ref (ad 0)), (1, .int x1), (3, .long y3), (5, .int x5)] → fX8_lots_58 x1 n y3 x5 w = some (r, w') → W p l e (rmX8_lots) s m args below meth c H locs 0 0 Q (F0 m 58 ls []) := by
  have hx := X.1
  have hb := X.2.1
  have hml := X.2.2.1
  have hown := X.2.2.2.1
  have hts := X.2.2.2.2.1
  intro x1 n
  induction n with
  | zero =>
    intro y3 x5 w H locs ls hP hS hl h
    exact absurd h (by simp [fX8_lots_58])
  | succ n ih =>
    intro y3 x5 w H locs ls hP hS hl h
    rw [fX8_lots_58] at h
    refine lv_iload hx hb dX8_lots_58 (lv_at hl 3 rfl) ?_
    refine lv_iload_n hx hb dX8_lots_60 rfl (lv_at hl 1 rfl) ?_
    refine lv_icmp_ge (tgt := 156) hx hb dX8_lots_61 (by decide) (fun c_4 => ?_) (fun c_4 => ?_)
    · replace h := it_p c_4 h
      refine lv_aload_n hx hb dX8_lots_156 rfl (lv_at hl 0 rfl) ?_
      refine x_get (rest := []) X hP (gM0 c3 ad w) rfl iwX8_lots_X8 0 (by decide) lkX8_lots_7 rfl dX8_lots_157 ?_
      refine lv_iconst (v := 2) hx hb dX8_lots_160 (by decide) ?_
      refine x_ialdL (j := 2) X hP (gM1 c3 ad w) (by decide) rfl dX8_lots_161 ?_
      obtain ⟨rfl, rfl⟩ := Prod.mk.inj (Option.some.inj h)
      exact hret _ _ _ _ hP hS dX8_lots_162
    · replace h := it_n c_4 h
      refine lv_lload_n hx hb dX8_lots_64 rfl (lv_at hl 2 rfl) ?_
      refine lv_ldc2 (v := 48271) hx hb hown (hts (.constantLong RX8 300 (48271)) (by decide +kernel)) dX8_lots_65 ?_
      refine lv_lmul hx hb dX8_lots_68 ?_
      refine lv_ldc2 (v := 2147483647) hx hb hown (hts (.constantLong RX8 302 (2147483647)) (by decide +kernel)) dX8_lots_69 ?_
      refine lv_lrem hx hb dX8_lots_72 (by decide) ?_
      refine x_nml h (fun y3_5 h => ?_)
      refine lv_lstore_n (lv' := [(3, .long y3_5), (0, .ref (ad 0)), (1, .int x1), (5, .int x5)]) hx hb dX8_lots_73 rfl hl (by decide) rfl (fun ls hl => ?_)
      refine lv_lload_n hx hb dX8_lots_74 rfl (lv_at hl 0 rfl) ?_
      refine lv_ldc2 (v := 64) hx hb hown (hts (.constantLong RX8 304 (64)) (by decide +kernel)) dX8_lots_75 ?_
      refine lv_ldiv hx hb dX8_lots_78 (by decide) ?_
      refine lv_aload_n hx hb dX8_lots_79 rfl (lv_at hl 1 rfl) ?_
      refine x_get (rest := [.long (y3_5 / 64)]) X hP (gM0 c3 ad w) rfl iwX8_lots_X8 1 (by decide) lkX8_lots_164 rfl dX8_lots_80 ?_
      refine lv_i2l (v := (w.1 0 1).toInt64) hx hb dX8_lots_83 rfl ?_
      obtain ⟨g_6, h⟩ := gd_s h
      refine lv_lrem hx hb dX8_lots_84 g_6 ?_
      refine lv_l2i (v := ((y3_5 / 64) - (y3_5 / 64) / ((w.1 0 1).toInt64) * ((w.1 0 1).toInt64)).toInt32) hx hb dX8_lots_85 rfl ?_
      refine x_nmi h (fun x6_7 h => ?_)
      refine lv_istore (lv' := [(6, .int x6_7), (3, .long y3_5), (0, .ref (ad 0)), (1, .int x1), (5, .int x5)]) hx hb dX8_lots_86 hl (by decide) rfl (fun ls hl => ?_)
      refine lv_lload_n hx hb dX8_lots_88 rfl (lv_at hl 1 rfl) ?_
      refine lv_aload_n hx hb dX8_lots_89 rfl (lv_at hl 2 rfl) ?_
      refine x_get (rest := [.long y3_5]) X hP (gM0 c3 ad w) rfl iwX8_lots_X8 3 (by decide) lkX8_lots_167 rfl dX8_lots_90 ?_
      refine lv_i2l (v := (w.1 0 3).toInt64) hx hb dX8_lots_93 rfl ?_
      obtain ⟨g_8, h⟩ := gd_s h
      refine lv_lrem hx hb dX8_lots_94 g_8 ?_
      refine lv_l2i (v := (y3_5 - y3_5 / ((w.1 0 3).toInt64) * ((w.1 0 3).toInt64)).toInt32) hx hb dX8_lots_95 rfl ?_
      refine x_nmi h (fun x7_9 h => ?_)
      refine lv_istore (lv' := [(7, .int x7_9), (6, .int x6_7), (3, .long y3_5), (0, .ref (ad 0)), (1, .int x1), (5, .int x5)]) hx hb dX8_lots_96 hl (by decide) rfl (fun ls hl => ?_)
      refine lv_lload_n hx hb dX8_lots_98 rfl (lv_at hl 2 rfl) ?_
      refine lv_ldc2 (v := 8) hx hb hown (hts (.constantLong RX8 306 (8)) (by decide +kernel)) dX8_lots_99 ?_
      refine lv_ldiv hx hb dX8_lots_102 (by decide) ?_
      refine lv_ldc2 (v := 4) hx hb hown (hts (.constantLong RX8 189 (4)) (by decide +kernel)) dX8_lots_103 ?_
      refine lv_lrem hx hb dX8_lots_106 (by decide) ?_
      refine lv_lconst (v := 0) hx hb dX8_lots_107 (by decide) ?_
      refine W.lcmp hx hb dX8_lots_108 ?_
      refine lv_if_eq (tgt := 130) hx hb dX8_lots_109 (by decide) (fun c_10 => ?_) (fun c_10 => ?_)
      · replace h := it_p c_10 h
        exact bX8_lots_130 (x1 := x1) (k58 := (fX8_lots_58 x1 n)) X hret ih y3_5 x5 w _ _ _ hP hS (lv_sub hl [3, 4, 2, 5] rfl) h
      · replace h := it_n c_10 h
        refine lv_aload_n hx hb dX8_lots_112 rfl (lv_at hl 3 rfl) ?_
        obtain ⟨r_12, e_11, h⟩ := bo_s h
        refine x_goi X hS (x_runV (As := []) (rest := []) X gM_ok hP hS (ctX8_isOver l D c3 ad w _ _ e_11) (cwV 0 hts gX8_lots_X8_isOver rfl rfl rfl (by decide +kernel) ⟨by decide, by decide⟩) (gM0 c3 ad w) rfl rfl rfl hl.1 rfl (Nat.le_of_ble_eq_true rfl) dX8_lots_113) (fun H locs hP hS => ?_)
        refine lv_if_ne (tgt := 130) hx hb dX8_lots_116 (by decide) (fun c_14 => ?_) (fun c_14 => ?_)
        · replace h := it_n c_14 h
          exact bX8_lots_130 (x1 := x1) (k58 := (fX8_lots_58 x1 n)) X hret ih y3_5 x5 w _ _ _ hP hS (lv_sub hl [3, 4, 2, 5] rfl) h
        · replace h := it_p c_14 h
          refine lv_aload_n hx hb dX8_lots_119 rfl (lv_at hl 3 rfl) ?_
          refine lv_iload hx hb dX8_lots_120 (lv_at hl 1 rfl) ?_
          refine lv_iload hx hb dX8_lots_122 (lv_at hl 0 rfl) ?_
          obtain ⟨r_16, e_15, h⟩ := bo_s h
          refine x_goi X hS (x_runV (As := [.int x6_7, .int x7_9]) (rest := []) X gM_ok hP hS (ctX8_bearsIt l D c3 ad w _ x6_7 x7_9 _ e_15) (cwV 2 hts gX8_lots_X8_bearsIt rfl rfl rfl (by decide +kernel) ⟨by decide, by decide⟩) (gM0 c3 ad w) rfl rfl rfl hl.1 rfl (Nat.le_of_ble_eq_true rfl) dX8_lots_124) (fun H locs hP hS => ?_)
          refine lv_if_ne (tgt := 137) hx hb dX8_lots_127 (by decide) (fun c_18 => ?_) (fun c_18 => ?_)
          · replace h := it_n c_18 h
            refine lv_aload_n hx hb dX8_lots_137 rfl (lv_at hl 3 rfl) ?_
            obtain ⟨w_21, e_19, h⟩ := bo_s h
            refine x_gov X hS (x_runV (As := []) (rest := []) X gM_ok hP hS (ctX8_keepPast l D c3 ad w _ _ e_19) (cwV 0 hts gX8_lots_X8_keepPast rfl rfl rfl (by decide +kernel) ⟨by decide, by decide⟩) (gM0 c3 ad w) rfl rfl rfl hl.1 rfl (Nat.le_of_ble_eq_true rfl) dX8_lots_138) (fun H locs hP hS => ?_)
            refine lv_aload_n hx hb dX8_lots_141 rfl (lv_at hl 3 rfl) ?_
            refine lv_iconst (v := 0) hx hb dX8_lots_142 (by decide) ?_
            refine lv_iload hx hb dX8_lots_143 (lv_at hl 1 rfl) ?_
            refine lv_iload hx hb dX8_lots_145 (lv_at hl 0 rfl) ?_
            obtain ⟨w_24, e_22, h⟩ := bo_s h
            refine x_gov X hS (x_runV (As := [.int 0, .int x6_7, .int x7_9]) (rest := []) X gM_ok hP hS (ctX8_says l D c3 ad w_21 _ 0 x6_7 x7_9 _ e_22) (cwV 3 hts gX8_lots_X8_says rfl rfl rfl (by decide +kernel) ⟨by decide, by decide⟩) (gM0 c3 ad w_21) rfl rfl rfl hl.1 rfl (Nat.le_of_ble_eq_true rfl) dX8_lots_147) (fun H locs hP hS => ?_)
            exact bX8_lots_150 (x1 := x1) (k58 := (fX8_lots_58 x1 n)) X hret ih y3_5 x5 w_24 _ _ _ hP hS (lv_sub hl [3, 4, 2, 5] rfl) h
          · replace h := it_p c_18 h
            exact bX8_lots_130 (x1 := x1) (k58 := (fX8_lots_58 x1 n)) X hret ih y3_5 x5 w _ _ _ hP hS (lv_sub hl [3, 4, 2, 5] rfl) h
def fX8_lots_E (x1 : Int32) (x2 : Int32) (w : Mm) : Option (Int32 × Mm) := bo (fX8_in x1.toInt64 1 20) (fun r_26 => (if r_26 = 0 then some ((-1), w) else bo (fX8_in x2.toInt64 1 2147483646) (fun r_30 => (if r_30 = 0 then some ((-1), w) else (if (w.1 0 3) = 0 then some ((-4), w) else (if ((w.1 1 0) + x1) ≤ 40 then nm x2.toInt64 (fun y3_35 => fX8_lots_58 x1 FU y3_35 0 w) else some ((-2), w)))))))
set_option maxRecDepth 20000 in
theorem bX8_lots_E {p : Program} {l : Launch} {e : Env} {s : State} {m : MethodId} {args : Array Value} {below : List Frame} {meth : Method} {c : Code} {Q : State → Prop} {D : va_G} {c3 : C3} {ad : Nat → Nat} {A : Nat → Prop} {r : Int32} {w' : Mm} (X : Cx p s m args c cX8_lots 8 RX8 wsX8_lots D c3 (encM c3 ad) gM A) (hret : Ri p l e (rmX8_lots) s m args below meth c Q cX8_lots D (encM c3 ad) A r w') : ∀ (x1 : Int32) (x2 : Int32) (w : Mm) (H : Heap) (locs : List Loc) (ls : Array Slot), va_P D vwCl ((encM c3 ad) w) H → va_S A s.heap H locs → lv_has ls 8 [(0, .ref (ad 0)), (1, .int x1), (2, .int x2)] → fX8_lots_E x1 x2 w = some (r, w') → W p l e (rmX8_lots) s m args below meth c H locs 0 0 Q (F0 m 0 ls []) := by
  have hx := X.1
  have hb := X.2.1
  have hml := X.2.2.1
  have hown := X.2.2.2.1
  have hts := X.2.2.2.2.1
  intro x1 x2 w H locs ls hP hS hl h
  unfold fX8_lots_E at h
  refine lv_iload_n hx hb dX8_lots_0 rfl (lv_at hl 1 rfl) ?_
  refine lv_i2l (v := x1.toInt64) hx hb dX8_lots_1 rfl ?_
  refine lv_lconst (v := 1) hx hb dX8_lots_2 (by decide) ?_
  refine lv_ldc2 (v := 20) hx hb hown (hts (.constantLong RX8 296 (20)) (by decide +kernel)) dX8_lots_3 ?_
  obtain ⟨r_26, e_25, h⟩ := bo_s h
  refine x_goi X hS (x_runS (As := [.long x1.toInt64, .long 1, .long 20]) (rest := []) X gM_ok hP hS (ctX8_in l D c3 ad w _ x1.toInt64 1 20 _ e_25) (va_cwS 3 hts gX8_lots_X8_in rfl rfl rfl (by decide +kernel) ⟨by decide, by decide⟩) rfl hl.1 rfl (Nat.le_of_ble_eq_true rfl) dX8_lots_6) (fun H locs hP hS => ?_)
  refine lv_if_eq (tgt := 24) hx hb dX8_lots_9 (by decide) (fun c_28 => ?_) (fun c_28 => ?_)
  · replace h := it_p c_28 h
    refine lv_iconst (v := (-1)) hx hb dX8_lots_24 (by decide) ?_
    obtain ⟨rfl, rfl⟩ := Prod.mk.inj (Option.some.inj h)
    exact hret _ _ _ _ hP hS dX8_lots_25
  · replace h := it_n c_28 h
    refine lv_iload_n hx hb dX8_lots_12 rfl (lv_at hl 2 rfl) ?_
    refine lv_i2l (v := x2.toInt64) hx hb dX8_lots_13 rfl ?_
    refine lv_lconst (v := 1) hx hb dX8_lots_14 (by decide) ?_
    refine lv_ldc2 (v := 2147483646) hx hb hown (hts (.constantLong RX8 298 (2147483646)) (by decide +kernel)) dX8_lots_15 ?_
    obtain ⟨r_30, e_29, h⟩ := bo_s h
    refine x_goi X hS (x_runS (As := [.long x2.toInt64, .long 1, .long 2147483646]) (rest := []) X gM_ok hP hS (ctX8_in l D c3 ad w _ x2.toInt64 1 2147483646 _ e_29) (va_cwS 3 hts gX8_lots_X8_in rfl rfl rfl (by decide +kernel) ⟨by decide, by decide⟩) rfl hl.1 rfl (Nat.le_of_ble_eq_true rfl) dX8_lots_18) (fun H locs hP hS => ?_)
    refine lv_if_ne (tgt := 26) hx hb dX8_lots_21 (by decide) (fun c_32 => ?_) (fun c_32 => ?_)
    · replace h := it_n c_32 h
      refine lv_aload_n hx hb dX8_lots_26 rfl (lv_at hl 0 rfl) ?_
      refine x_get (rest := []) X hP (gM0 c3 ad w) rfl iwX8_lots_X8 3 (by decide) lkX8_lots_167 rfl dX8_lots_27 ?_
      refine lv_if_ne (tgt := 36) hx hb dX8_lots_30 (by decide) (fun c_33 => ?_) (fun c_33 => ?_)
      · replace h := it_n c_33 h
        refine lv_aload_n hx hb dX8_lots_36 rfl (lv_at hl 0 rfl) ?_
        refine x_get (rest := []) X hP (gM0 c3 ad w) rfl iwX8_lots_X8 0 (by decide) lkX8_lots_7 rfl dX8_lots_37 ?_
        refine lv_iconst (v := 0) hx hb dX8_lots_40 (by decide) ?_
        refine x_ialdL (j := 0) X hP (gM1 c3 ad w) (by decide) rfl dX8_lots_41 ?_
        refine lv_iload_n hx hb dX8_lots_42 rfl (lv_at hl 1 rfl) ?_
        refine lv_iadd hx hb dX8_lots_43 ?_
        refine lv_bipush (v := 40) hx hb dX8_lots_44 (by decide) ?_
        refine lv_icmp_le (tgt := 52) hx hb dX8_lots_46 (by decide) (fun c_34 => ?_) (fun c_34 => ?_)
        · replace h := it_p c_34 h
          refine lv_iload_n hx hb dX8_lots_52 rfl (lv_at hl 2 rfl) ?_
          refine lv_i2l (v := x2.toInt64) hx hb dX8_lots_53 rfl ?_
          refine x_nml h (fun y3_35 h => ?_)
          refine lv_lstore_n (lv' := [(3, .long y3_35), (0, .ref (ad 0)), (1, .int x1), (2, .int x2)]) hx hb dX8_lots_54 rfl hl (by decide) rfl (fun ls hl => ?_)
          refine lv_iconst (v := 0) hx hb dX8_lots_55 (by decide) ?_
          refine lv_istore (lv' := [(5, .int 0), (3, .long y3_35), (0, .ref (ad 0)), (1, .int x1), (2, .int x2)]) hx hb dX8_lots_56 hl (by decide) rfl (fun ls hl => ?_)
          exact bX8_lots_58 X hret x1 FU y3_35 0 w _ _ _ hP hS (lv_sub hl [2, 3, 1, 0] rfl) h
        · replace h := it_n c_34 h
          refine lv_bipush (v := (-2)) hx hb dX8_lots_49 (by decide) ?_
          obtain ⟨rfl, rfl⟩ := Prod.mk.inj (Option.some.inj h)
          exact hret _ _ _ _ hP hS dX8_lots_51
      · replace h := it_p c_33 h
        refine lv_bipush (v := (-4)) hx hb dX8_lots_33 (by decide) ?_
        obtain ⟨rfl, rfl⟩ := Prod.mk.inj (Option.some.inj h)
        exact hret _ _ _ _ hP hS dX8_lots_35
    · replace h := it_p c_32 h
      refine lv_iconst (v := (-1)) hx hb dX8_lots_24 (by decide) ?_
      obtain ⟨rfl, rfl⟩ := Prod.mk.inj (Option.some.inj h)
      exact hret _ _ _ _ hP hS dX8_lots_25
def fX8_lots (x1 : Int32) (x2 : Int32) (w : Mm) : Option (Int32 × Mm) := fX8_lots_E x1 x2 w
theorem ctX8_lots (l : Launch) (D : va_G) (c3 : C3) (ad : Nat → Nat) (w : Mm) (sz : Nat) (x1 : Int32) (x2 : Int32) (r : Int32) (w' : Mm) (h : fX8_lots x1 x2 w = some (r, w')) : Ci l yX8_lots wsX8_lots rmX8_lots D c3 (encM c3 ad) gM [.ref (ad 0), .int x1, .int x2] w sz r w' := by
  refine Ci.of (cc := cX8_lots) (maxL := 8) (encM_ok c3 ad) (by decide) rfl (Nat.le_of_ble_eq_true rfl) ?_
  intro p e s m below meth c A Q ls X hret hP hS hl
  exact bX8_lots_E X hret x1 x2 w _ _ ls hP hS hl h
theorem iwX8_asked_X8 : ∀ w ∈ wsX80, w ∈ wsX8_asked := fun _ h => List.mem_cons_of_mem _ (List.mem_append_right _ h)
theorem lkX8_asked_76 : Cond.fieldLink RX8 76 "StuckDoorModel" "asked" "I" ∈ wsX8_asked := by decide +kernel
def rmX8_asked : Room := { frames := 0, cells := 0, slots := 0, locals := 0 }
def fX8_asked_E (w : Mm) : Option (Int32) := some (w.1 0 12)
set_option maxRecDepth 20000 in
theorem bX8_asked_E {p : Program} {l : Launch} {e : Env} {s : State} {m : MethodId} {args : Array Value} {below : List Frame} {meth : Method} {c : Code} {Q : State → Prop} {D : va_G} {c3 : C3} {ad : Nat → Nat} {A : Nat → Prop} {r : Int32} {w : Mm} (X : Cx p s m args c cX8_asked 1 RX8 wsX8_asked D c3 (encM c3 ad) gM A) (hret : Ri p l e (rmX8_asked) s m args below meth c Q cX8_asked D (encM c3 ad) A r w) : ∀ (H : Heap) (locs : List Loc) (ls : Array Slot), va_P D vwCl ((encM c3 ad) w) H → va_S A s.heap H locs → lv_has ls 1 [(0, .ref (ad 0))] → fX8_asked_E w = some r → W p l e (rmX8_asked) s m args below meth c H locs 0 0 Q (F0 m 0 ls []) := by
  have hx := X.1
  have hb := X.2.1
  have hml := X.2.2.1
  have hown := X.2.2.2.1
  have hts := X.2.2.2.2.1
  intro H locs ls hP hS hl h
  unfold fX8_asked_E at h
  refine lv_aload_n hx hb dX8_asked_0 rfl (lv_at hl 0 rfl) ?_
  refine x_get (rest := []) X hP (gM0 c3 ad w) rfl iwX8_asked_X8 12 (by decide) lkX8_asked_76 rfl dX8_asked_1 ?_
  obtain rfl := Option.some.inj h
  exact hret _ _ _ _ hP hS dX8_asked_4
def fX8_asked (w : Mm) : Option (Int32) := fX8_asked_E w
theorem ctX8_asked (l : Launch) (D : va_G) (c3 : C3) (ad : Nat → Nat) (w : Mm) (sz : Nat) (r : Int32) (h : fX8_asked w = some r) : Ci l yX8_asked wsX8_asked rmX8_asked D c3 (encM c3 ad) gM [.ref (ad 0)] w sz r w := by
  refine Ci.of (cc := cX8_asked) (maxL := 1) (encM_ok c3 ad) (by decide) rfl (Nat.le_of_ble_eq_true rfl) ?_
  intro p e s m below meth c A Q ls X hret hP hS hl
  exact bX8_asked_E X hret _ _ ls hP hS hl h
theorem iwX8_upper_X8 : ∀ w ∈ wsX80, w ∈ wsX8_upper := fun _ h => List.mem_cons_of_mem _ (List.mem_append_right _ h)
theorem lkX8_upper_240 : Cond.fieldLink RX8 240 "StuckDoorModel" "upper" "J" ∈ wsX8_upper := by decide +kernel
def rmX8_upper : Room := { frames := 0, cells := 0, slots := 0, locals := 0 }
def fX8_upper_E (w : Mm) : Option (Int64) := some (w.2.1 0 13)
set_option maxRecDepth 20000 in
theorem bX8_upper_E {p : Program} {l : Launch} {e : Env} {s : State} {m : MethodId} {args : Array Value} {below : List Frame} {meth : Method} {c : Code} {Q : State → Prop} {D : va_G} {c3 : C3} {ad : Nat → Nat} {A : Nat → Prop} {r : Int64} {w : Mm} (X : Cx p s m args c cX8_upper 1 RX8 wsX8_upper D c3 (encM c3 ad) gM A) (hret : Rl p l e (rmX8_upper) s m args below meth c Q cX8_upper D (encM c3 ad) A r w) : ∀ (H : Heap) (locs : List Loc) (ls : Array Slot), va_P D vwCl ((encM c3 ad) w) H → va_S A s.heap H locs → lv_has ls 1 [(0, .ref (ad 0))] → fX8_upper_E w = some r → W p l e (rmX8_upper) s m args below meth c H locs 0 0 Q (F0 m 0 ls []) := by
  have hx := X.1
  have hb := X.2.1
  have hml := X.2.2.1
  have hown := X.2.2.2.1
  have hts := X.2.2.2.2.1
  intro H locs ls hP hS hl h
  unfold fX8_upper_E at h
  refine lv_aload_n hx hb dX8_upper_0 rfl (lv_at hl 0 rfl) ?_
  refine x_get (rest := []) X hP (gM0 c3 ad w) rfl iwX8_upper_X8 13 (by decide) lkX8_upper_240 rfl dX8_upper_1 ?_
  obtain rfl := Option.some.inj h
  exact hret _ _ _ _ hP hS dX8_upper_4
def fX8_upper (w : Mm) : Option (Int64) := fX8_upper_E w
theorem ctX8_upper (l : Launch) (D : va_G) (c3 : C3) (ad : Nat → Nat) (w : Mm) (sz : Nat) (r : Int64) (h : fX8_upper w = some r) : Cl l yX8_upper wsX8_upper rmX8_upper D c3 (encM c3 ad) gM [.ref (ad 0)] w sz r w := by
  refine Cl.of (cc := cX8_upper) (maxL := 1) (encM_ok c3 ad) (by decide) rfl (Nat.le_of_ble_eq_true rfl) ?_
  intro p e s m below meth c A Q ls X hret hP hS hl
  exact bX8_upper_E X hret _ _ ls hP hS hl h
theorem iwX8_lower_X8 : ∀ w ∈ wsX80, w ∈ wsX8_lower := fun _ h => List.mem_cons_of_mem _ (List.mem_append_right _ h)
theorem lkX8_lower_37 : Cond.fieldLink RX8 37 "StuckDoorModel" "lower" "J" ∈ wsX8_lower := by decide +kernel
def rmX8_lower : Room := { frames := 0, cells := 0, slots := 0, locals := 0 }
def fX8_lower_E (w : Mm) : Option (Int64) := some (w.2.1 0 14)
set_option maxRecDepth 20000 in
theorem bX8_lower_E {p : Program} {l : Launch} {e : Env} {s : State} {m : MethodId} {args : Array Value} {below : List Frame} {meth : Method} {c : Code} {Q : State → Prop} {D : va_G} {c3 : C3} {ad : Nat → Nat} {A : Nat → Prop} {r : Int64} {w : Mm} (X : Cx p s m args c cX8_lower 1 RX8 wsX8_lower D c3 (encM c3 ad) gM A) (hret : Rl p l e (rmX8_lower) s m args below meth c Q cX8_lower D (encM c3 ad) A r w) : ∀ (H : Heap) (locs : List Loc) (ls : Array Slot), va_P D vwCl ((encM c3 ad) w) H → va_S A s.heap H locs → lv_has ls 1 [(0, .ref (ad 0))] → fX8_lower_E w = some r → W p l e (rmX8_lower) s m args below meth c H locs 0 0 Q (F0 m 0 ls []) := by
  have hx := X.1
  have hb := X.2.1
  have hml := X.2.2.1
  have hown := X.2.2.2.1
  have hts := X.2.2.2.2.1
  intro H locs ls hP hS hl h
  unfold fX8_lower_E at h
  refine lv_aload_n hx hb dX8_lower_0 rfl (lv_at hl 0 rfl) ?_
  refine x_get (rest := []) X hP (gM0 c3 ad w) rfl iwX8_lower_X8 14 (by decide) lkX8_lower_37 rfl dX8_lower_1 ?_
  obtain rfl := Option.some.inj h
  exact hret _ _ _ _ hP hS dX8_lower_4
def fX8_lower (w : Mm) : Option (Int64) := fX8_lower_E w
theorem ctX8_lower (l : Launch) (D : va_G) (c3 : C3) (ad : Nat → Nat) (w : Mm) (sz : Nat) (r : Int64) (h : fX8_lower w = some r) : Cl l yX8_lower wsX8_lower rmX8_lower D c3 (encM c3 ad) gM [.ref (ad 0)] w sz r w := by
  refine Cl.of (cc := cX8_lower) (maxL := 1) (encM_ok c3 ad) (by decide) rfl (Nat.le_of_ble_eq_true rfl) ?_
  intro p e s m below meth c A Q ls X hret hP hS hl
  exact bX8_lower_E X hret _ _ ls hP hS hl h
theorem iwX8_hints_X8 : ∀ w ∈ wsX80, w ∈ wsX8_hints := fun _ h => List.mem_cons_of_mem _ (List.mem_append_right _ h)
theorem lkX8_hints_167 : Cond.fieldLink RX8 167 "StuckDoorModel" "sayings" "I" ∈ wsX8_hints := by decide +kernel
def rmX8_hints : Room := { frames := 1, cells := 0, slots := 0, locals := 23 }
def fX8_hints_27 (k4 : Int32 → Int32 → Option (Int32)) (x2 : Int32) (z0 : Int32) (z1 : Int32) (w : Mm) : Option (Int32) := nm (z1 + z0) (fun x1_1 => k4 x1_1 (x2 + 1))
set_option maxRecDepth 20000 in
theorem bX8_hints_27 {p : Program} {l : Launch} {e : Env} {s : State} {m : MethodId} {args : Array Value} {below : List Frame} {meth : Method} {c : Code} {Q : State → Prop} {D : va_G} {c3 : C3} {ad : Nat → Nat} {A : Nat → Prop} {r : Int32} {w : Mm} (X : Cx p s m args c cX8_hints 3 RX8 wsX8_hints D c3 (encM c3 ad) gM A) (hret : Ri p l e (rmX8_hints) s m args below meth c Q cX8_hints D (encM c3 ad) A r w) {k4 : Int32 → Int32 → Option (Int32)} (hk4 : ∀ (x1 : Int32) (x2 : Int32) (H : Heap) (locs : List Loc) (ls : Array Slot), va_P D vwCl ((encM c3 ad) w) H → va_S A s.heap H locs → lv_has ls 3 [(0, .ref (ad 0)), (1, .int x1), (2, .int x2)] → k4 x1 x2 = some r → W p l e (rmX8_hints) s m args below meth c H locs 0 0 Q (F0 m 4 ls [])) : ∀ (x2 : Int32) (z0 : Int32) (z1 : Int32) (H : Heap) (locs : List Loc) (ls : Array Slot), va_P D vwCl ((encM c3 ad) w) H → va_S A s.heap H locs → lv_has ls 3 [(0, .ref (ad 0)), (2, .int x2)] → fX8_hints_27 k4 x2 z0 z1 w = some r → W p l e (rmX8_hints) s m args below meth c H locs 0 0 Q (F0 m 27 ls [.int z0, .int z1]) := by
  have hx := X.1
  have hb := X.2.1
  have hml := X.2.2.1
  have hown := X.2.2.2.1
  have hts := X.2.2.2.2.1
  intro x2 z0 z1 H locs ls hP hS hl h
  unfold fX8_hints_27 at h
  refine lv_iadd hx hb dX8_hints_27 ?_
  refine x_nmi h (fun x1_1 h => ?_)
  refine lv_istore_n (lv' := [(1, .int x1_1), (0, .ref (ad 0)), (2, .int x2)]) hx hb dX8_hints_28 rfl hl (by decide) rfl (fun ls hl => ?_)
  refine lv_iinc (v := (x2 + 1)) (lv' := [(2, .int (x2 + 1)), (1, .int x1_1), (0, .ref (ad 0))]) hx hb dX8_hints_29 hl (k := 2) rfl rfl (by decide) rfl (fun ls hl => ?_)
  refine lv_goto (tgt := 4) hx hb dX8_hints_32 (by decide) ?_
  exact hk4 x1_1 (x2 + 1) _ _ _ hP hS (lv_sub hl [2, 1, 0] rfl) h
def fX8_hints_4 (w : Mm) : Nat → Int32 → Int32 → Option (Int32)
  | 0, _, _ => none
  | n + 1, x1, x2 => (if (w.1 0 3) ≤ x2 then some x1 else bo (fX8_isOf x2 1 w) (fun r_4 => (if r_4 = 0 then fX8_hints_27 (fX8_hints_4 w n) x2 0 x1 w else fX8_hints_27 (fX8_hints_4 w n) x2 1 x1 w)))
set_option maxRecDepth 20000 in
theorem bX8_hints_4 {p : Program} {l : Launch} {e : Env} {s : State} {m : MethodId} {args : Array Value} {below : List Frame} {meth : Method} {c : Code} {Q : State → Prop} {D : va_G} {c3 : C3} {ad : Nat → Nat} {A : Nat → Prop} {r : Int32} {w : Mm} (X : Cx p s m args c cX8_hints 3 RX8 wsX8_hints D c3 (encM c3 ad) gM A) (hret : Ri p l e (rmX8_hints) s m args below meth c Q cX8_hints D (encM c3 ad) A r w) : ∀ (n : Nat) (x1 : Int32) (x2 : Int32) (H : Heap) (locs : List Loc) (ls : Array Slot), va_P D vwCl ((encM c3 ad) w) H → va_S A s.heap H locs → lv_has ls 3 [(0, .ref (ad 0)), (1, .int x1), (2, .int x2)] → fX8_hints_4 w n x1 x2 = some r → W p l e (rmX8_hints) s m args below meth c H locs 0 0 Q (F0 m 4 ls []) := by
  have hx := X.1
  have hb := X.2.1
  have hml := X.2.2.1
  have hown := X.2.2.2.1
  have hts := X.2.2.2.2.1
  intro n
  induction n with
  | zero =>
    intro x1 x2 H locs ls hP hS hl h
    exact absurd h (by simp [fX8_hints_4])
  | succ n ih =>
    intro x1 x2 H locs ls hP hS hl h
    rw [fX8_hints_4] at h
    refine lv_iload_n hx hb dX8_hints_4 rfl (lv_at hl 2 rfl) ?_
    refine lv_aload_n hx hb dX8_hints_5 rfl (lv_at hl 0 rfl) ?_
    refine x_get (rest := [.int x2]) X hP (gM0 c3 ad w) rfl iwX8_hints_X8 3 (by decide) lkX8_hints_167 rfl dX8_hints_6 ?_
    refine lv_icmp_ge (tgt := 35) hx hb dX8_hints_9 (by decide) (fun c_2 => ?_) (fun c_2 => ?_)
    · replace h := it_p c_2 h
      refine lv_iload_n hx hb dX8_hints_35 rfl (lv_at hl 1 rfl) ?_
      obtain rfl := Option.some.inj h
      exact hret _ _ _ _ hP hS dX8_hints_36
    · replace h := it_n c_2 h
      refine lv_iload_n hx hb dX8_hints_12 rfl (lv_at hl 1 rfl) ?_
      refine lv_aload_n hx hb dX8_hints_13 rfl (lv_at hl 0 rfl) ?_
      refine lv_iload_n hx hb dX8_hints_14 rfl (lv_at hl 2 rfl) ?_
      refine lv_iconst (v := 1) hx hb dX8_hints_15 (by decide) ?_
      obtain ⟨r_4, e_3, h⟩ := bo_s h
      refine x_goi X hS (x_runV (As := [.int x2, .int 1]) (rest := [.int x1]) X gM_ok hP hS (ctX8_isOf l D c3 ad w _ x2 1 _ e_3) (cwV 2 hts gX8_hints_X8_isOf rfl rfl rfl (by decide +kernel) ⟨by decide, by decide⟩) (gM0 c3 ad w) rfl rfl rfl hl.1 rfl (Nat.le_of_ble_eq_true rfl) dX8_hints_16) (fun H locs hP hS => ?_)
      refine lv_if_eq (tgt := 26) hx hb dX8_hints_19 (by decide) (fun c_6 => ?_) (fun c_6 => ?_)
      · replace h := it_p c_6 h
        refine lv_iconst (v := 0) hx hb dX8_hints_26 (by decide) ?_
        exact bX8_hints_27 (k4 := (fX8_hints_4 w n)) X hret ih x2 0 x1 _ _ _ hP hS (lv_sub hl [0, 2] rfl) h
      · replace h := it_n c_6 h
        refine lv_iconst (v := 1) hx hb dX8_hints_22 (by decide) ?_
        refine lv_goto (tgt := 27) hx hb dX8_hints_23 (by decide) ?_
        exact bX8_hints_27 (k4 := (fX8_hints_4 w n)) X hret ih x2 1 x1 _ _ _ hP hS (lv_sub hl [0, 2] rfl) h
def fX8_hints_E (w : Mm) : Option (Int32) := fX8_hints_4 w FU 0 0
set_option maxRecDepth 20000 in
theorem bX8_hints_E {p : Program} {l : Launch} {e : Env} {s : State} {m : MethodId} {args : Array Value} {below : List Frame} {meth : Method} {c : Code} {Q : State → Prop} {D : va_G} {c3 : C3} {ad : Nat → Nat} {A : Nat → Prop} {r : Int32} {w : Mm} (X : Cx p s m args c cX8_hints 3 RX8 wsX8_hints D c3 (encM c3 ad) gM A) (hret : Ri p l e (rmX8_hints) s m args below meth c Q cX8_hints D (encM c3 ad) A r w) : ∀ (H : Heap) (locs : List Loc) (ls : Array Slot), va_P D vwCl ((encM c3 ad) w) H → va_S A s.heap H locs → lv_has ls 3 [(0, .ref (ad 0))] → fX8_hints_E w = some r → W p l e (rmX8_hints) s m args below meth c H locs 0 0 Q (F0 m 0 ls []) := by
  have hx := X.1
  have hb := X.2.1
  have hml := X.2.2.1
  have hown := X.2.2.2.1
  have hts := X.2.2.2.2.1
  intro H locs ls hP hS hl h
  unfold fX8_hints_E at h
  refine lv_iconst (v := 0) hx hb dX8_hints_0 (by decide) ?_
  refine lv_istore_n (lv' := [(1, .int 0), (0, .ref (ad 0))]) hx hb dX8_hints_1 rfl hl (by decide) rfl (fun ls hl => ?_)
  refine lv_iconst (v := 0) hx hb dX8_hints_2 (by decide) ?_
  refine lv_istore_n (lv' := [(2, .int 0), (1, .int 0), (0, .ref (ad 0))]) hx hb dX8_hints_3 rfl hl (by decide) rfl (fun ls hl => ?_)
  exact bX8_hints_4 X hret FU 0 0 _ _ _ hP hS (lv_sub hl [2, 1, 0] rfl) h
def fX8_hints (w : Mm) : Option (Int32) := fX8_hints_E w
theorem ctX8_hints (l : Launch) (D : va_G) (c3 : C3) (ad : Nat → Nat) (w : Mm) (sz : Nat) (r : Int32) (h : fX8_hints w = some r) : Ci l yX8_hints wsX8_hints rmX8_hints D c3 (encM c3 ad) gM [.ref (ad 0)] w sz r w := by
  refine Ci.of (cc := cX8_hints) (maxL := 3) (encM_ok c3 ad) (by decide) rfl (Nat.le_of_ble_eq_true rfl) ?_
  intro p e s m below meth c A Q ls X hret hP hS hl
  exact bX8_hints_E X hret _ _ ls hP hS hl h
theorem iwX8_thereOf_X8 : ∀ w ∈ wsX80, w ∈ wsX8_thereOf := fun _ h => List.mem_cons_of_mem _ (List.mem_append_right _ h)
theorem lkX8_thereOf_7 : Cond.fieldLink RX8 7 "StuckDoorModel" "row" "[I" ∈ wsX8_thereOf := by decide +kernel
theorem lkX8_thereOf_25 : Cond.fieldLink RX8 25 "StuckDoorModel" "sizes" "[I" ∈ wsX8_thereOf := by decide +kernel
theorem lkX8_thereOf_31 : Cond.fieldLink RX8 31 "StuckDoorModel" "lengths" "[I" ∈ wsX8_thereOf := by decide +kernel
def rmX8_thereOf : Room := { frames := 0, cells := 0, slots := 0, locals := 0 }
def fX8_thereOf_89 (k4 : Int32 → Int32 → Option (Int32)) (x1 : Int32) (x3 : Int32) (z0 : Int32) (z1 : Int32) (w : Mm) : Option (Int32) := nm (z1 + z0) (fun x2_1 => k4 x2_1 (x3 + 1))
set_option maxRecDepth 20000 in
theorem bX8_thereOf_89 {p : Program} {l : Launch} {e : Env} {s : State} {m : MethodId} {args : Array Value} {below : List Frame} {meth : Method} {c : Code} {Q : State → Prop} {D : va_G} {c3 : C3} {ad : Nat → Nat} {A : Nat → Prop} {r : Int32} {w : Mm} (X : Cx p s m args c cX8_thereOf 4 RX8 wsX8_thereOf D c3 (encM c3 ad) gM A) (hret : Ri p l e (rmX8_thereOf) s m args below meth c Q cX8_thereOf D (encM c3 ad) A r w) {x1 : Int32} {k4 : Int32 → Int32 → Option (Int32)} (hk4 : ∀ (x2 : Int32) (x3 : Int32) (H : Heap) (locs : List Loc) (ls : Array Slot), va_P D vwCl ((encM c3 ad) w) H → va_S A s.heap H locs → lv_has ls 4 [(0, .ref (ad 0)), (1, .int x1), (2, .int x2), (3, .int x3)] → k4 x2 x3 = some r → W p l e (rmX8_thereOf) s m args below meth c H locs 0 0 Q (F0 m 4 ls [])) : ∀ (x3 : Int32) (z0 : Int32) (z1 : Int32) (H : Heap) (locs : List Loc) (ls : Array Slot), va_P D vwCl ((encM c3 ad) w) H → va_S A s.heap H locs → lv_has ls 4 [(0, .ref (ad 0)), (1, .int x1), (3, .int x3)] → fX8_thereOf_89 k4 x1 x3 z0 z1 w = some r → W p l e (rmX8_thereOf) s m args below meth c H locs 0 0 Q (F0 m 89 ls [.int z0, .int z1]) := by
  have hx := X.1
  have hb := X.2.1
  have hml := X.2.2.1
  have hown := X.2.2.2.1
  have hts := X.2.2.2.2.1
  intro x3 z0 z1 H locs ls hP hS hl h
  unfold fX8_thereOf_89 at h
  refine lv_iadd hx hb dX8_thereOf_89 ?_
  refine x_nmi h (fun x2_1 h => ?_)
  refine lv_istore_n (lv' := [(2, .int x2_1), (0, .ref (ad 0)), (1, .int x1), (3, .int x3)]) hx hb dX8_thereOf_90 rfl hl (by decide) rfl (fun ls hl => ?_)
  refine lv_iinc (v := (x3 + 1)) (lv' := [(3, .int (x3 + 1)), (2, .int x2_1), (0, .ref (ad 0)), (1, .int x1)]) hx hb dX8_thereOf_91 hl (k := 3) rfl rfl (by decide) rfl (fun ls hl => ?_)
  refine lv_goto (tgt := 4) hx hb dX8_thereOf_94 (by decide) ?_
  exact hk4 x2_1 (x3 + 1) _ _ _ hP hS (lv_sub hl [2, 3, 1, 0] rfl) h
def fX8_thereOf_88 (k4 : Int32 → Int32 → Option (Int32)) (x1 : Int32) (x3 : Int32) (z0 : Int32) (w : Mm) : Option (Int32) := fX8_thereOf_89 k4 x1 x3 0 z0 w
set_option maxRecDepth 20000 in
theorem bX8_thereOf_88 {p : Program} {l : Launch} {e : Env} {s : State} {m : MethodId} {args : Array Value} {below : List Frame} {meth : Method} {c : Code} {Q : State → Prop} {D : va_G} {c3 : C3} {ad : Nat → Nat} {A : Nat → Prop} {r : Int32} {w : Mm} (X : Cx p s m args c cX8_thereOf 4 RX8 wsX8_thereOf D c3 (encM c3 ad) gM A) (hret : Ri p l e (rmX8_thereOf) s m args below meth c Q cX8_thereOf D (encM c3 ad) A r w) {x1 : Int32} {k4 : Int32 → Int32 → Option (Int32)} (hk4 : ∀ (x2 : Int32) (x3 : Int32) (H : Heap) (locs : List Loc) (ls : Array Slot), va_P D vwCl ((encM c3 ad) w) H → va_S A s.heap H locs → lv_has ls 4 [(0, .ref (ad 0)), (1, .int x1), (2, .int x2), (3, .int x3)] → k4 x2 x3 = some r → W p l e (rmX8_thereOf) s m args below meth c H locs 0 0 Q (F0 m 4 ls [])) : ∀ (x3 : Int32) (z0 : Int32) (H : Heap) (locs : List Loc) (ls : Array Slot), va_P D vwCl ((encM c3 ad) w) H → va_S A s.heap H locs → lv_has ls 4 [(0, .ref (ad 0)), (1, .int x1), (3, .int x3)] → fX8_thereOf_88 k4 x1 x3 z0 w = some r → W p l e (rmX8_thereOf) s m args below meth c H locs 0 0 Q (F0 m 88 ls [.int z0]) := by
  have hx := X.1
  have hb := X.2.1
  have hml := X.2.2.1
  have hown := X.2.2.2.1
  have hts := X.2.2.2.2.1
  intro x3 z0 H locs ls hP hS hl h
  unfold fX8_thereOf_88 at h
  refine lv_iconst (v := 0) hx hb dX8_thereOf_88 (by decide) ?_
  exact bX8_thereOf_89 (x1 := x1) (k4 := k4) X hret hk4 x3 0 z0 _ _ _ hP hS (lv_sub hl [0, 1, 2] rfl) h
def fX8_thereOf_58 (k4 : Int32 → Int32 → Option (Int32)) (x1 : Int32) (x3 : Int32) (z0 : Int32) (w : Mm) : Option (Int32) := fX8_thereOf_89 k4 x1 x3 0 z0 w
set_option maxRecDepth 20000 in
theorem bX8_thereOf_58 {p : Program} {l : Launch} {e : Env} {s : State} {m : MethodId} {args : Array Value} {below : List Frame} {meth : Method} {c : Code} {Q : State → Prop} {D : va_G} {c3 : C3} {ad : Nat → Nat} {A : Nat → Prop} {r : Int32} {w : Mm} (X : Cx p s m args c cX8_thereOf 4 RX8 wsX8_thereOf D c3 (encM c3 ad) gM A) (hret : Ri p l e (rmX8_thereOf) s m args below meth c Q cX8_thereOf D (encM c3 ad) A r w) {x1 : Int32} {k4 : Int32 → Int32 → Option (Int32)} (hk4 : ∀ (x2 : Int32) (x3 : Int32) (H : Heap) (locs : List Loc) (ls : Array Slot), va_P D vwCl ((encM c3 ad) w) H → va_S A s.heap H locs → lv_has ls 4 [(0, .ref (ad 0)), (1, .int x1), (2, .int x2), (3, .int x3)] → k4 x2 x3 = some r → W p l e (rmX8_thereOf) s m args below meth c H locs 0 0 Q (F0 m 4 ls [])) : ∀ (x3 : Int32) (z0 : Int32) (H : Heap) (locs : List Loc) (ls : Array Slot), va_P D vwCl ((encM c3 ad) w) H → va_S A s.heap H locs → lv_has ls 4 [(0, .ref (ad 0)), (1, .int x1), (3, .int x3)] → fX8_thereOf_58 k4 x1 x3 z0 w = some r → W p l e (rmX8_thereOf) s m args below meth c H locs 0 0 Q (F0 m 58 ls [.int z0]) := by
  have hx := X.1
  have hb := X.2.1
  have hml := X.2.2.1
  have hown := X.2.2.2.1
  have hts := X.2.2.2.2.1
  intro x3 z0 H locs ls hP hS hl h
  unfold fX8_thereOf_58 at h
  refine lv_iconst (v := 0) hx hb dX8_thereOf_58 (by decide) ?_
  refine lv_goto (tgt := 89) hx hb dX8_thereOf_59 (by decide) ?_
  exact bX8_thereOf_89 (x1 := x1) (k4 := k4) X hret hk4 x3 0 z0 _ _ _ hP hS (lv_sub hl [0, 1, 2] rfl) h
def fX8_thereOf_4 (x1 : Int32) (w : Mm) : Nat → Int32 → Int32 → Option (Int32)
  | 0, _, _ => none
  | n + 1, x2, x3 => (if 6 ≤ x3 then some x2 else (if x1 = 8 then gd (inb x3 6 = true) ((if 0 ≤ (w.1 6 x3.toNatClampNeg) then fX8_thereOf_89 (fX8_thereOf_4 x1 w n) x1 x3 1 x2 w else fX8_thereOf_89 (fX8_thereOf_4 x1 w n) x1 x3 0 x2 w)) else (if x1 = 9 then (if 4 ≤ x3 then fX8_thereOf_58 (fX8_thereOf_4 x1 w n) x1 x3 x2 w else gd (inb x3 4 = true) ((if (w.1 8 x3.toNatClampNeg) < 0 then fX8_thereOf_58 (fX8_thereOf_4 x1 w n) x1 x3 x2 w else fX8_thereOf_89 (fX8_thereOf_4 x1 w n) x1 x3 1 x2 w))) else (if 3 ≤ x3 then fX8_thereOf_88 (fX8_thereOf_4 x1 w n) x1 x3 x2 w else gd (inb ((411 * (1 + x3)) + 0) 1655 = true) ((if (w.1 1 ((411 * (1 + x3)) + 0).toNatClampNeg) < 0 then fX8_thereOf_88 (fX8_thereOf_4 x1 w n) x1 x3 x2 w else fX8_thereOf_89 (fX8_thereOf_4 x1 w n) x1 x3 1 x2 w))))))
set_option maxRecDepth 20000 in
theorem bX8_thereOf_4 {p : Program} {l : Launch} {e : Env} {s : State} {m : MethodId} {args : Array Value} {below : List Frame} {meth : Method} {c : Code} {Q : State → Prop} {D : va_G} {c3 : C3} {ad : Nat → Nat} {A : Nat → Prop} {r : Int32} {w : Mm} (X : Cx p s m args c cX8_thereOf 4 RX8 wsX8_thereOf D c3 (encM c3 ad) gM A) (hret : Ri p l e (rmX8_thereOf) s m args below meth c Q cX8_thereOf D (encM c3 ad) A r w) : ∀ (x1 : Int32) (n : Nat) (x2 : Int32) (x3 : Int32) (H : Heap) (locs : List Loc) (ls : Array Slot), va_P D vwCl ((encM c3 ad) w) H → va_S A s.heap H locs → lv_has ls 4 [(0, .ref (ad 0)), (1, .int x1), (2, .int x2), (3, .int x3)] → fX8_thereOf_4 x1 w n x2 x3 = some r → W p l e (rmX8_thereOf) s m args below meth c H locs 0 0 Q (F0 m 4 ls []) := by
  have hx := X.1
  have hb := X.2.1
  have hml := X.2.2.1
  have hown := X.2.2.2.1
  have hts := X.2.2.2.2.1
  intro x1 n
  induction n with
  | zero =>
    intro x2 x3 H locs ls hP hS hl h
    exact absurd h (by simp [fX8_thereOf_4])
  | succ n ih =>
    intro x2 x3 H locs ls hP hS hl h
    rw [fX8_thereOf_4] at h
    refine lv_iload_n hx hb dX8_thereOf_4 rfl (lv_at hl 3 rfl) ?_
    refine lv_bipush (v := 6) hx hb dX8_thereOf_5 (by decide) ?_
    refine lv_icmp_ge (tgt := 97) hx hb dX8_thereOf_7 (by decide) (fun c_2 => ?_) (fun c_2 => ?_)
    · replace h := it_p c_2 h
      refine lv_iload_n hx hb dX8_thereOf_97 rfl (lv_at hl 2 rfl) ?_
      obtain rfl := Option.some.inj h
      exact hret _ _ _ _ hP hS dX8_thereOf_98
    · replace h := it_n c_2 h
      refine lv_iload_n hx hb dX8_thereOf_10 rfl (lv_at hl 2 rfl) ?_
      refine lv_iload_n hx hb dX8_thereOf_11 rfl (lv_at hl 1 rfl) ?_
      refine lv_bipush (v := 8) hx hb dX8_thereOf_12 (by decide) ?_
      refine lv_icmp_ne (tgt := 34) hx hb dX8_thereOf_14 (by decide) (fun c_3 => ?_) (fun c_3 => ?_)
      · replace h := it_n c_3 h
        refine lv_iload_n hx hb dX8_thereOf_34 rfl (lv_at hl 1 rfl) ?_
        refine lv_bipush (v := 9) hx hb dX8_thereOf_35 (by decide) ?_
        refine lv_icmp_ne (tgt := 62) hx hb dX8_thereOf_37 (by decide) (fun c_4 => ?_) (fun c_4 => ?_)
        · replace h := it_n c_4 h
          refine lv_iload_n hx hb dX8_thereOf_62 rfl (lv_at hl 3 rfl) ?_
          refine lv_iconst (v := 3) hx hb dX8_thereOf_63 (by decide) ?_
          refine lv_icmp_ge (tgt := 88) hx hb dX8_thereOf_64 (by decide) (fun c_5 => ?_) (fun c_5 => ?_)
          · replace h := it_p c_5 h
            exact bX8_thereOf_88 (x1 := x1) (k4 := (fX8_thereOf_4 x1 w n)) X hret ih x3 x2 _ _ _ hP hS (lv_sub hl [0, 1, 3] rfl) h
          · replace h := it_n c_5 h
            refine lv_aload_n hx hb dX8_thereOf_67 rfl (lv_at hl 0 rfl) ?_
            refine x_get (rest := [.int x2]) X hP (gM0 c3 ad w) rfl iwX8_thereOf_X8 0 (by decide) lkX8_thereOf_7 rfl dX8_thereOf_68 ?_
            refine lv_sipush (v := 411) hx hb dX8_thereOf_71 (by decide) ?_
            refine lv_iconst (v := 1) hx hb dX8_thereOf_74 (by decide) ?_
            refine lv_iload_n hx hb dX8_thereOf_75 rfl (lv_at hl 3 rfl) ?_
            refine lv_iadd hx hb dX8_thereOf_76 ?_
            refine lv_imul hx hb dX8_thereOf_77 ?_
            refine lv_iconst (v := 0) hx hb dX8_thereOf_78 (by decide) ?_
            refine lv_iadd hx hb dX8_thereOf_79 ?_
            obtain ⟨g_6, h⟩ := gd_s h
            refine x_iald X hP (gM1 c3 ad w) g_6 dX8_thereOf_80 ?_
            refine lv_if_lt (tgt := 88) hx hb dX8_thereOf_81 (by decide) (fun c_7 => ?_) (fun c_7 => ?_)
            · replace h := it_p c_7 h
              exact bX8_thereOf_88 (x1 := x1) (k4 := (fX8_thereOf_4 x1 w n)) X hret ih x3 x2 _ _ _ hP hS (lv_sub hl [0, 1, 3] rfl) h
            · replace h := it_n c_7 h
              refine lv_iconst (v := 1) hx hb dX8_thereOf_84 (by decide) ?_
              refine lv_goto (tgt := 89) hx hb dX8_thereOf_85 (by decide) ?_
              exact bX8_thereOf_89 (x1 := x1) (k4 := (fX8_thereOf_4 x1 w n)) X hret ih x3 1 x2 _ _ _ hP hS (lv_sub hl [0, 1, 3] rfl) h
        · replace h := it_p c_4 h
          refine lv_iload_n hx hb dX8_thereOf_40 rfl (lv_at hl 3 rfl) ?_
          refine lv_iconst (v := 4) hx hb dX8_thereOf_41 (by decide) ?_
          refine lv_icmp_ge (tgt := 58) hx hb dX8_thereOf_42 (by decide) (fun c_8 => ?_) (fun c_8 => ?_)
          · replace h := it_p c_8 h
            exact bX8_thereOf_58 (x1 := x1) (k4 := (fX8_thereOf_4 x1 w n)) X hret ih x3 x2 _ _ _ hP hS (lv_sub hl [0, 1, 3] rfl) h
          · replace h := it_n c_8 h
            refine lv_aload_n hx hb dX8_thereOf_45 rfl (lv_at hl 0 rfl) ?_
            refine x_get (rest := [.int x2]) X hP (gM0 c3 ad w) rfl iwX8_thereOf_X8 10 (by decide) lkX8_thereOf_31 rfl dX8_thereOf_46 ?_
            refine lv_iload_n hx hb dX8_thereOf_49 rfl (lv_at hl 3 rfl) ?_
            obtain ⟨g_9, h⟩ := gd_s h
            refine x_iald X hP (gM8 c3 ad w) g_9 dX8_thereOf_50 ?_
            refine lv_if_lt (tgt := 58) hx hb dX8_thereOf_51 (by decide) (fun c_10 => ?_) (fun c_10 => ?_)
            · replace h := it_p c_10 h
              exact bX8_thereOf_58 (x1 := x1) (k4 := (fX8_thereOf_4 x1 w n)) X hret ih x3 x2 _ _ _ hP hS (lv_sub hl [0, 1, 3] rfl) h
            · replace h := it_n c_10 h
              refine lv_iconst (v := 1) hx hb dX8_thereOf_54 (by decide) ?_
              refine lv_goto (tgt := 89) hx hb dX8_thereOf_55 (by decide) ?_
              exact bX8_thereOf_89 (x1 := x1) (k4 := (fX8_thereOf_4 x1 w n)) X hret ih x3 1 x2 _ _ _ hP hS (lv_sub hl [0, 1, 3] rfl) h
      · replace h := it_p c_3 h
        refine lv_aload_n hx hb dX8_thereOf_17 rfl (lv_at hl 0 rfl) ?_
        refine x_get (rest := [.int x2]) X hP (gM0 c3 ad w) rfl iwX8_thereOf_X8 8 (by decide) lkX8_thereOf_25 rfl dX8_thereOf_18 ?_
        refine lv_iload_n hx hb dX8_thereOf_21 rfl (lv_at hl 3 rfl) ?_
        obtain ⟨g_11, h⟩ := gd_s h
        refine x_iald X hP (gM6 c3 ad w) g_11 dX8_thereOf_22 ?_
        refine lv_if_ge (tgt := 30) hx hb dX8_thereOf_23 (by decide) (fun c_12 => ?_) (fun c_12 => ?_)
        · replace h := it_p c_12 h
          refine lv_iconst (v := 1) hx hb dX8_thereOf_30 (by decide) ?_
          refine lv_goto (tgt := 89) hx hb dX8_thereOf_31 (by decide) ?_
          exact bX8_thereOf_89 (x1 := x1) (k4 := (fX8_thereOf_4 x1 w n)) X hret ih x3 1 x2 _ _ _ hP hS (lv_sub hl [0, 1, 3] rfl) h
        · replace h := it_n c_12 h
          refine lv_iconst (v := 0) hx hb dX8_thereOf_26 (by decide) ?_
          refine lv_goto (tgt := 89) hx hb dX8_thereOf_27 (by decide) ?_
          exact bX8_thereOf_89 (x1 := x1) (k4 := (fX8_thereOf_4 x1 w n)) X hret ih x3 0 x2 _ _ _ hP hS (lv_sub hl [0, 1, 3] rfl) h
def fX8_thereOf_E (x1 : Int32) (w : Mm) : Option (Int32) := fX8_thereOf_4 x1 w FU 0 0
set_option maxRecDepth 20000 in
theorem bX8_thereOf_E {p : Program} {l : Launch} {e : Env} {s : State} {m : MethodId} {args : Array Value} {below : List Frame} {meth : Method} {c : Code} {Q : State → Prop} {D : va_G} {c3 : C3} {ad : Nat → Nat} {A : Nat → Prop} {r : Int32} {w : Mm} (X : Cx p s m args c cX8_thereOf 4 RX8 wsX8_thereOf D c3 (encM c3 ad) gM A) (hret : Ri p l e (rmX8_thereOf) s m args below meth c Q cX8_thereOf D (encM c3 ad) A r w) : ∀ (x1 : Int32) (H : Heap) (locs : List Loc) (ls : Array Slot), va_P D vwCl ((encM c3 ad) w) H → va_S A s.heap H locs → lv_has ls 4 [(0, .ref (ad 0)), (1, .int x1)] → fX8_thereOf_E x1 w = some r → W p l e (rmX8_thereOf) s m args below meth c H locs 0 0 Q (F0 m 0 ls []) := by
  have hx := X.1
  have hb := X.2.1
  have hml := X.2.2.1
  have hown := X.2.2.2.1
  have hts := X.2.2.2.2.1
  intro x1 H locs ls hP hS hl h
  unfold fX8_thereOf_E at h
  refine lv_iconst (v := 0) hx hb dX8_thereOf_0 (by decide) ?_
  refine lv_istore_n (lv' := [(2, .int 0), (0, .ref (ad 0)), (1, .int x1)]) hx hb dX8_thereOf_1 rfl hl (by decide) rfl (fun ls hl => ?_)
  refine lv_iconst (v := 0) hx hb dX8_thereOf_2 (by decide) ?_
  refine lv_istore_n (lv' := [(3, .int 0), (2, .int 0), (0, .ref (ad 0)), (1, .int x1)]) hx hb dX8_thereOf_3 rfl hl (by decide) rfl (fun ls hl => ?_)
  exact bX8_thereOf_4 X hret x1 FU 0 0 _ _ _ hP hS (lv_sub hl [2, 3, 1, 0] rfl) h
def fX8_thereOf (x1 : Int32) (w : Mm) : Option (Int32) := fX8_thereOf_E x1 w
theorem ctX8_thereOf (l : Launch) (D : va_G) (c3 : C3) (ad : Nat → Nat) (w : Mm) (sz : Nat) (x1 : Int32) (r : Int32) (h : fX8_thereOf x1 w = some r) : Ci l yX8_thereOf wsX8_thereOf rmX8_thereOf D c3 (encM c3 ad) gM [.ref (ad 0), .int x1] w sz r w := by
  refine Ci.of (cc := cX8_thereOf) (maxL := 4) (encM_ok c3 ad) (by decide) rfl (Nat.le_of_ble_eq_true rfl) ?_
  intro p e s m below meth c A Q ls X hret hP hS hl
  exact bX8_thereOf_E X hret x1 _ _ ls hP hS hl h
theorem iwX8_countOf_X8 : ∀ w ∈ wsX80, w ∈ wsX8_countOf := fun _ h => List.mem_cons_of_mem _ (List.mem_append_right _ h)
theorem lkX8_countOf_7 : Cond.fieldLink RX8 7 "StuckDoorModel" "row" "[I" ∈ wsX8_countOf := by decide +kernel
theorem lkX8_countOf_164 : Cond.fieldLink RX8 164 "StuckDoorModel" "people" "I" ∈ wsX8_countOf := by decide +kernel
theorem lkX8_countOf_167 : Cond.fieldLink RX8 167 "StuckDoorModel" "sayings" "I" ∈ wsX8_countOf := by decide +kernel
def rmX8_countOf : Room := { frames := 2, cells := 0, slots := 0, locals := 45 }
def fX8_countOf_E (x1 : Int32) (w : Mm) : Option (Int32) := (if x1 = 0 then some (w.1 0 3) else (if x1 = 1 then some (w.1 0 1) else (if x1 = 2 then some (w.1 1 1) else (if x1 = 3 then some (w.1 1 0) else (if x1 = 4 then some (w.1 1 2) else (if x1 = 5 then some (w.1 1 3) else (if x1 = 6 then some (w.1 1 4) else (if x1 = 7 then bo (fX8_hints w) (fun r_10 => some r_10) else bo (fX8_thereOf x1 w) (fun r_13 => some r_13)))))))))
set_option maxRecDepth 20000 in
theorem bX8_countOf_E {p : Program} {l : Launch} {e : Env} {s : State} {m : MethodId} {args : Array Value} {below : List Frame} {meth : Method} {c : Code} {Q : State → Prop} {D : va_G} {c3 : C3} {ad : Nat → Nat} {A : Nat → Prop} {r : Int32} {w : Mm} (X : Cx p s m args c cX8_countOf 2 RX8 wsX8_countOf D c3 (encM c3 ad) gM A) (hret : Ri p l e (rmX8_countOf) s m args below meth c Q cX8_countOf D (encM c3 ad) A r w) : ∀ (x1 : Int32) (H : Heap) (locs : List Loc) (ls : Array Slot), va_P D vwCl ((encM c3 ad) w) H → va_S A s.heap H locs → lv_has ls 2 [(0, .ref (ad 0)), (1, .int x1)] → fX8_countOf_E x1 w = some r → W p l e (rmX8_countOf) s m args below meth c H locs 0 0 Q (F0 m 0 ls []) := by
  have hx := X.1
  have hb := X.2.1
  have hml := X.2.2.1
  have hown := X.2.2.2.1
  have hts := X.2.2.2.2.1
  intro x1 H locs ls hP hS hl h
  unfold fX8_countOf_E at h
  refine lv_iload_n hx hb dX8_countOf_0 rfl (lv_at hl 1 rfl) ?_
  by_cases c_1 : x1 = 0
  · replace h := it_p c_1 h
    refine lv_tableIn (off := 47) (tgt := 48) hx hb dX8_countOf_1 (by rw [c_1]; decide) (by rw [c_1]; decide) (by rw [c_1]; decide) (by decide) ?_
    refine lv_aload_n hx hb dX8_countOf_48 rfl (lv_at hl 0 rfl) ?_
    refine x_get (rest := []) X hP (gM0 c3 ad w) rfl iwX8_countOf_X8 3 (by decide) lkX8_countOf_167 rfl dX8_countOf_49 ?_
    obtain rfl := Option.some.inj h
    exact hret _ _ _ _ hP hS dX8_countOf_52
  replace h := it_n c_1 h
  by_cases c_2 : x1 = 1
  · replace h := it_p c_2 h
    refine lv_tableIn (off := 52) (tgt := 53) hx hb dX8_countOf_1 (by rw [c_2]; decide) (by rw [c_2]; decide) (by rw [c_2]; decide) (by decide) ?_
    refine lv_aload_n hx hb dX8_countOf_53 rfl (lv_at hl 0 rfl) ?_
    refine x_get (rest := []) X hP (gM0 c3 ad w) rfl iwX8_countOf_X8 1 (by decide) lkX8_countOf_164 rfl dX8_countOf_54 ?_
    obtain rfl := Option.some.inj h
    exact hret _ _ _ _ hP hS dX8_countOf_57
  replace h := it_n c_2 h
  by_cases c_3 : x1 = 2
  · replace h := it_p c_3 h
    refine lv_tableIn (off := 57) (tgt := 58) hx hb dX8_countOf_1 (by rw [c_3]; decide) (by rw [c_3]; decide) (by rw [c_3]; decide) (by decide) ?_
    refine lv_aload_n hx hb dX8_countOf_58 rfl (lv_at hl 0 rfl) ?_
    refine x_get (rest := []) X hP (gM0 c3 ad w) rfl iwX8_countOf_X8 0 (by decide) lkX8_countOf_7 rfl dX8_countOf_59 ?_
    refine lv_iconst (v := 1) hx hb dX8_countOf_62 (by decide) ?_
    refine x_ialdL (j := 1) X hP (gM1 c3 ad w) (by decide) rfl dX8_countOf_63 ?_
    obtain rfl := Option.some.inj h
    exact hret _ _ _ _ hP hS dX8_countOf_64
  replace h := it_n c_3 h
  by_cases c_4 : x1 = 3
  · replace h := it_p c_4 h
    refine lv_tableIn (off := 64) (tgt := 65) hx hb dX8_countOf_1 (by rw [c_4]; decide) (by rw [c_4]; decide) (by rw [c_4]; decide) (by decide) ?_
    refine lv_aload_n hx hb dX8_countOf_65 rfl (lv_at hl 0 rfl) ?_
    refine x_get (rest := []) X hP (gM0 c3 ad w) rfl iwX8_countOf_X8 0 (by decide) lkX8_countOf_7 rfl dX8_countOf_66 ?_
    refine lv_iconst (v := 0) hx hb dX8_countOf_69 (by decide) ?_
    refine x_ialdL (j := 0) X hP (gM1 c3 ad w) (by decide) rfl dX8_countOf_70 ?_
    obtain rfl := Option.some.inj h
    exact hret _ _ _ _ hP hS dX8_countOf_71
  replace h := it_n c_4 h
  by_cases c_5 : x1 = 4
  · replace h := it_p c_5 h
    refine lv_tableIn (off := 71) (tgt := 72) hx hb dX8_countOf_1 (by rw [c_5]; decide) (by rw [c_5]; decide) (by rw [c_5]; decide) (by decide) ?_
    refine lv_aload_n hx hb dX8_countOf_72 rfl (lv_at hl 0 rfl) ?_
    refine x_get (rest := []) X hP (gM0 c3 ad w) rfl iwX8_countOf_X8 0 (by decide) lkX8_countOf_7 rfl dX8_countOf_73 ?_
    refine lv_iconst (v := 2) hx hb dX8_countOf_76 (by decide) ?_
    refine x_ialdL (j := 2) X hP (gM1 c3 ad w) (by decide) rfl dX8_countOf_77 ?_
    obtain rfl := Option.some.inj h
    exact hret _ _ _ _ hP hS dX8_countOf_78
  replace h := it_n c_5 h
  by_cases c_6 : x1 = 5
  · replace h := it_p c_6 h
    refine lv_tableIn (off := 78) (tgt := 79) hx hb dX8_countOf_1 (by rw [c_6]; decide) (by rw [c_6]; decide) (by rw [c_6]; decide) (by decide) ?_
    refine lv_aload_n hx hb dX8_countOf_79 rfl (lv_at hl 0 rfl) ?_
    refine x_get (rest := []) X hP (gM0 c3 ad w) rfl iwX8_countOf_X8 0 (by decide) lkX8_countOf_7 rfl dX8_countOf_80 ?_
    refine lv_iconst (v := 3) hx hb dX8_countOf_83 (by decide) ?_
    refine x_ialdL (j := 3) X hP (gM1 c3 ad w) (by decide) rfl dX8_countOf_84 ?_
    obtain rfl := Option.some.inj h
    exact hret _ _ _ _ hP hS dX8_countOf_85
  replace h := it_n c_6 h
  by_cases c_7 : x1 = 6
  · replace h := it_p c_7 h
    refine lv_tableIn (off := 85) (tgt := 86) hx hb dX8_countOf_1 (by rw [c_7]; decide) (by rw [c_7]; decide) (by rw [c_7]; decide) (by decide) ?_
    refine lv_aload_n hx hb dX8_countOf_86 rfl (lv_at hl 0 rfl) ?_
    refine x_get (rest := []) X hP (gM0 c3 ad w) rfl iwX8_countOf_X8 0 (by decide) lkX8_countOf_7 rfl dX8_countOf_87 ?_
    refine lv_iconst (v := 4) hx hb dX8_countOf_90 (by decide) ?_
    refine x_ialdL (j := 4) X hP (gM1 c3 ad w) (by decide) rfl dX8_countOf_91 ?_
    obtain rfl := Option.some.inj h
    exact hret _ _ _ _ hP hS dX8_countOf_92
  replace h := it_n c_7 h
  by_cases c_8 : x1 = 7
  · replace h := it_p c_8 h
    refine lv_tableIn (off := 92) (tgt := 93) hx hb dX8_countOf_1 (by rw [c_8]; decide) (by rw [c_8]; decide) (by rw [c_8]; decide) (by decide) ?_
    refine lv_aload_n hx hb dX8_countOf_93 rfl (lv_at hl 0 rfl) ?_
    obtain ⟨r_10, e_9, h⟩ := bo_s h
    refine x_goi X hS (x_runV (As := []) (rest := []) X gM_ok hP hS (ctX8_hints l D c3 ad w _ _ e_9) (cwV 0 hts gX8_countOf_X8_hints rfl rfl rfl (by decide +kernel) ⟨by decide, by decide⟩) (gM0 c3 ad w) rfl rfl rfl hl.1 rfl (Nat.le_of_ble_eq_true rfl) dX8_countOf_94) (fun H locs hP hS => ?_)
    obtain rfl := Option.some.inj h
    exact hret _ _ _ _ hP hS dX8_countOf_97
  replace h := it_n c_8 h
  refine lv_tableOut (tgt := 98) hx hb dX8_countOf_1 (by have := lv_neT c_1 (a := 0) rfl; have := lv_neT c_2 (a := 1) rfl; have := lv_neT c_3 (a := 2) rfl; have := lv_neT c_4 (a := 3) rfl; have := lv_neT c_5 (a := 4) rfl; have := lv_neT c_6 (a := 5) rfl; have := lv_neT c_7 (a := 6) rfl; have := lv_neT c_8 (a := 7) rfl; omega) (by decide) ?_
  refine lv_aload_n hx hb dX8_countOf_98 rfl (lv_at hl 0 rfl) ?_
  refine lv_iload_n hx hb dX8_countOf_99 rfl (lv_at hl 1 rfl) ?_
  obtain ⟨r_13, e_12, h⟩ := bo_s h
  refine x_goi X hS (x_runV (As := [.int x1]) (rest := []) X gM_ok hP hS (ctX8_thereOf l D c3 ad w _ x1 _ e_12) (cwV 1 hts gX8_countOf_X8_thereOf rfl rfl rfl (by decide +kernel) ⟨by decide, by decide⟩) (gM0 c3 ad w) rfl rfl rfl hl.1 rfl (Nat.le_of_ble_eq_true rfl) dX8_countOf_100) (fun H locs hP hS => ?_)
  obtain rfl := Option.some.inj h
  exact hret _ _ _ _ hP hS dX8_countOf_103
def fX8_countOf (x1 : Int32) (w : Mm) : Option (Int32) := fX8_countOf_E x1 w
theorem ctX8_countOf (l : Launch) (D : va_G) (c3 : C3) (ad : Nat → Nat) (w : Mm) (sz : Nat) (x1 : Int32) (r : Int32) (h : fX8_countOf x1 w = some r) : Ci l yX8_countOf wsX8_countOf rmX8_countOf D c3 (encM c3 ad) gM [.ref (ad 0), .int x1] w sz r w := by
  refine Ci.of (cc := cX8_countOf) (maxL := 2) (encM_ok c3 ad) (by decide) rfl (Nat.le_of_ble_eq_true rfl) ?_
  intro p e s m below meth c A Q ls X hret hP hS hl
  exact bX8_countOf_E X hret x1 _ _ ls hP hS hl h
def rmX8_count : Room := { frames := 3, cells := 0, slots := 0, locals := 66 }
def fX8_count_E (x1 : Int32) (w : Mm) : Option (Int32) := bo (fX8_in x1.toInt64 0 10) (fun r_2 => (if r_2 = 0 then some (-1) else bo (fX8_countOf x1 w) (fun r_6 => some r_6)))
set_option maxRecDepth 20000 in
theorem bX8_count_E {p : Program} {l : Launch} {e : Env} {s : State} {m : MethodId} {args : Array Value} {below : List Frame} {meth : Method} {c : Code} {Q : State → Prop} {D : va_G} {c3 : C3} {ad : Nat → Nat} {A : Nat → Prop} {r : Int32} {w : Mm} (X : Cx p s m args c cX8_count 2 RX8 wsX8_count D c3 (encM c3 ad) gM A) (hret : Ri p l e (rmX8_count) s m args below meth c Q cX8_count D (encM c3 ad) A r w) : ∀ (x1 : Int32) (H : Heap) (locs : List Loc) (ls : Array Slot), va_P D vwCl ((encM c3 ad) w) H → va_S A s.heap H locs → lv_has ls 2 [(0, .ref (ad 0)), (1, .int x1)] → fX8_count_E x1 w = some r → W p l e (rmX8_count) s m args below meth c H locs 0 0 Q (F0 m 0 ls []) := by
  have hx := X.1
  have hb := X.2.1
  have hml := X.2.2.1
  have hown := X.2.2.2.1
  have hts := X.2.2.2.2.1
  intro x1 H locs ls hP hS hl h
  unfold fX8_count_E at h
  refine lv_iload_n hx hb dX8_count_0 rfl (lv_at hl 1 rfl) ?_
  refine lv_i2l (v := x1.toInt64) hx hb dX8_count_1 rfl ?_
  refine lv_lconst (v := 0) hx hb dX8_count_2 (by decide) ?_
  refine lv_ldc2 (v := 10) hx hb hown (hts (.constantLong RX8 314 (10)) (by decide +kernel)) dX8_count_3 ?_
  obtain ⟨r_2, e_1, h⟩ := bo_s h
  refine x_goi X hS (x_runS (As := [.long x1.toInt64, .long 0, .long 10]) (rest := []) X gM_ok hP hS (ctX8_in l D c3 ad w _ x1.toInt64 0 10 _ e_1) (va_cwS 3 hts gX8_count_X8_in rfl rfl rfl (by decide +kernel) ⟨by decide, by decide⟩) rfl hl.1 rfl (Nat.le_of_ble_eq_true rfl) dX8_count_6) (fun H locs hP hS => ?_)
  refine lv_if_eq (tgt := 20) hx hb dX8_count_9 (by decide) (fun c_4 => ?_) (fun c_4 => ?_)
  · replace h := it_p c_4 h
    refine lv_iconst (v := (-1)) hx hb dX8_count_20 (by decide) ?_
    obtain rfl := Option.some.inj h
    exact hret _ _ _ _ hP hS dX8_count_21
  · replace h := it_n c_4 h
    refine lv_aload_n hx hb dX8_count_12 rfl (lv_at hl 0 rfl) ?_
    refine lv_iload_n hx hb dX8_count_13 rfl (lv_at hl 1 rfl) ?_
    obtain ⟨r_6, e_5, h⟩ := bo_s h
    refine x_goi X hS (x_runV (As := [.int x1]) (rest := []) X gM_ok hP hS (ctX8_countOf l D c3 ad w _ x1 _ e_5) (cwV 1 hts gX8_count_X8_countOf rfl rfl rfl (by decide +kernel) ⟨by decide, by decide⟩) (gM0 c3 ad w) rfl rfl rfl hl.1 rfl (Nat.le_of_ble_eq_true rfl) dX8_count_14) (fun H locs hP hS => ?_)
    refine lv_goto (tgt := 21) hx hb dX8_count_17 (by decide) ?_
    obtain rfl := Option.some.inj h
    exact hret _ _ _ _ hP hS dX8_count_21
def fX8_count (x1 : Int32) (w : Mm) : Option (Int32) := fX8_count_E x1 w
theorem ctX8_count (l : Launch) (D : va_G) (c3 : C3) (ad : Nat → Nat) (w : Mm) (sz : Nat) (x1 : Int32) (r : Int32) (h : fX8_count x1 w = some r) : Ci l yX8_count wsX8_count rmX8_count D c3 (encM c3 ad) gM [.ref (ad 0), .int x1] w sz r w := by
  refine Ci.of (cc := cX8_count) (maxL := 2) (encM_ok c3 ad) (by decide) rfl (Nat.le_of_ble_eq_true rfl) ?_
  intro p e s m below meth c A Q ls X hret hP hS hl
  exact bX8_count_E X hret x1 _ _ ls hP hS hl h
theorem iwX8_finding_X8 : ∀ w ∈ wsX80, w ∈ wsX8_finding := fun _ h => List.mem_cons_of_mem _ (List.mem_append_right _ h)
theorem lkX8_finding_72 : Cond.fieldLink RX8 72 "StuckDoorModel" "finding" "I" ∈ wsX8_finding := by decide +kernel
def rmX8_finding : Room := { frames := 0, cells := 0, slots := 0, locals := 0 }
def fX8_finding_E (w : Mm) : Option (Int32) := some (w.1 0 15)
set_option maxRecDepth 20000 in
theorem bX8_finding_E {p : Program} {l : Launch} {e : Env} {s : State} {m : MethodId} {args : Array Value} {below : List Frame} {meth : Method} {c : Code} {Q : State → Prop} {D : va_G} {c3 : C3} {ad : Nat → Nat} {A : Nat → Prop} {r : Int32} {w : Mm} (X : Cx p s m args c cX8_finding 1 RX8 wsX8_finding D c3 (encM c3 ad) gM A) (hret : Ri p l e (rmX8_finding) s m args below meth c Q cX8_finding D (encM c3 ad) A r w) : ∀ (H : Heap) (locs : List Loc) (ls : Array Slot), va_P D vwCl ((encM c3 ad) w) H → va_S A s.heap H locs → lv_has ls 1 [(0, .ref (ad 0))] → fX8_finding_E w = some r → W p l e (rmX8_finding) s m args below meth c H locs 0 0 Q (F0 m 0 ls []) := by
  have hx := X.1
  have hb := X.2.1
  have hml := X.2.2.1
  have hown := X.2.2.2.1
  have hts := X.2.2.2.2.1
  intro H locs ls hP hS hl h
  unfold fX8_finding_E at h
  refine lv_aload_n hx hb dX8_finding_0 rfl (lv_at hl 0 rfl) ?_
  refine x_get (rest := []) X hP (gM0 c3 ad w) rfl iwX8_finding_X8 15 (by decide) lkX8_finding_72 rfl dX8_finding_1 ?_
  obtain rfl := Option.some.inj h
  exact hret _ _ _ _ hP hS dX8_finding_4
def fX8_finding (w : Mm) : Option (Int32) := fX8_finding_E w
theorem ctX8_finding (l : Launch) (D : va_G) (c3 : C3) (ad : Nat → Nat) (w : Mm) (sz : Nat) (r : Int32) (h : fX8_finding w = some r) : Ci l yX8_finding wsX8_finding rmX8_finding D c3 (encM c3 ad) gM [.ref (ad 0)] w sz r w := by
  refine Ci.of (cc := cX8_finding) (maxL := 1) (encM_ok c3 ad) (by decide) rfl (Nat.le_of_ble_eq_true rfl) ?_
  intro p e s m below meth c A Q ls X hret hP hS hl
  exact bX8_finding_E X hret _ _ ls hP hS hl h
theorem iwX8_findings_X8 : ∀ w ∈ wsX80, w ∈ wsX8_findings := fun _ h => List.mem_cons_of_mem _ (List.mem_append_right _ h)
theorem lkX8_findings_41 : Cond.fieldLink RX8 41 "StuckDoorModel" "findings" "[I" ∈ wsX8_findings := by decide +kernel
def rmX8_findings : Room := { frames := 1, cells := 0, slots := 0, locals := 25 }
def fX8_findings_E (x1 : Int32) (w : Mm) : Option (Int32) := bo (fX8_in x1.toInt64 1 5) (fun r_2 => (if r_2 = 0 then some (-1) else gd (inb x1 6 = true) (some (w.1 10 x1.toNatClampNeg))))
set_option maxRecDepth 20000 in
theorem bX8_findings_E {p : Program} {l : Launch} {e : Env} {s : State} {m : MethodId} {args : Array Value} {below : List Frame} {meth : Method} {c : Code} {Q : State → Prop} {D : va_G} {c3 : C3} {ad : Nat → Nat} {A : Nat → Prop} {r : Int32} {w : Mm} (X : Cx p s m args c cX8_findings 2 RX8 wsX8_findings D c3 (encM c3 ad) gM A) (hret : Ri p l e (rmX8_findings) s m args below meth c Q cX8_findings D (encM c3 ad) A r w) : ∀ (x1 : Int32) (H : Heap) (locs : List Loc) (ls : Array Slot), va_P D vwCl ((encM c3 ad) w) H → va_S A s.heap H locs → lv_has ls 2 [(0, .ref (ad 0)), (1, .int x1)] → fX8_findings_E x1 w = some r → W p l e (rmX8_findings) s m args below meth c H locs 0 0 Q (F0 m 0 ls []) := by
  have hx := X.1
  have hb := X.2.1
  have hml := X.2.2.1
  have hown := X.2.2.2.1
  have hts := X.2.2.2.2.1
  intro x1 H locs ls hP hS hl h
  unfold fX8_findings_E at h
  refine lv_iload_n hx hb dX8_findings_0 rfl (lv_at hl 1 rfl) ?_
  refine lv_i2l (v := x1.toInt64) hx hb dX8_findings_1 rfl ?_
  refine lv_lconst (v := 1) hx hb dX8_findings_2 (by decide) ?_
  refine lv_ldc2 (v := 5) hx hb hown (hts (.constantLong RX8 79 (5)) (by decide +kernel)) dX8_findings_3 ?_
  obtain ⟨r_2, e_1, h⟩ := bo_s h
  refine x_goi X hS (x_runS (As := [.long x1.toInt64, .long 1, .long 5]) (rest := []) X gM_ok hP hS (ctX8_in l D c3 ad w _ x1.toInt64 1 5 _ e_1) (va_cwS 3 hts gX8_findings_X8_in rfl rfl rfl (by decide +kernel) ⟨by decide, by decide⟩) rfl hl.1 rfl (Nat.le_of_ble_eq_true rfl) dX8_findings_6) (fun H locs hP hS => ?_)
  refine lv_if_eq (tgt := 21) hx hb dX8_findings_9 (by decide) (fun c_4 => ?_) (fun c_4 => ?_)
  · replace h := it_p c_4 h
    refine lv_iconst (v := (-1)) hx hb dX8_findings_21 (by decide) ?_
    obtain rfl := Option.some.inj h
    exact hret _ _ _ _ hP hS dX8_findings_22
  · replace h := it_n c_4 h
    refine lv_aload_n hx hb dX8_findings_12 rfl (lv_at hl 0 rfl) ?_
    refine x_get (rest := []) X hP (gM0 c3 ad w) rfl iwX8_findings_X8 16 (by decide) lkX8_findings_41 rfl dX8_findings_13 ?_
    refine lv_iload_n hx hb dX8_findings_16 rfl (lv_at hl 1 rfl) ?_
    obtain ⟨g_5, h⟩ := gd_s h
    refine x_iald X hP (gM10 c3 ad w) g_5 dX8_findings_17 ?_
    refine lv_goto (tgt := 22) hx hb dX8_findings_18 (by decide) ?_
    obtain rfl := Option.some.inj h
    exact hret _ _ _ _ hP hS dX8_findings_22
def fX8_findings (x1 : Int32) (w : Mm) : Option (Int32) := fX8_findings_E x1 w
theorem ctX8_findings (l : Launch) (D : va_G) (c3 : C3) (ad : Nat → Nat) (w : Mm) (sz : Nat) (x1 : Int32) (r : Int32) (h : fX8_findings x1 w = some r) : Ci l yX8_findings wsX8_findings rmX8_findings D c3 (encM c3 ad) gM [.ref (ad 0), .int x1] w sz r w := by
  refine Ci.of (cc := cX8_findings) (maxL := 2) (encM_ok c3 ad) (by decide) rfl (Nat.le_of_ble_eq_true rfl) ?_
  intro p e s m below meth c A Q ls X hret hP hS hl
  exact bX8_findings_E X hret x1 _ _ ls hP hS hl h

/-! constructors: reader, class -/
def adR (h0 : Nat) (a1 : Nat → Nat) (q : Nat) (k : Nat) : Nat := if k < 1 then h0 else if k < 8 then a1 (k - 1) else q
abbrev wX4_init (c3 : C3) (ad : Nat → Nat) : va_W := [(ad 0, .inr (2, [.ref (ad 1), .ref (ad 8), .int 0])), (ad 1, .inr (1, [.int 0, .ref (ad 2), .int 0, .ref (ad 3), .ref (ad 4), .ref (ad 5), .int 0, .int 0, .int 0, .int (-9), .ref (ad 6), .int 0, .ref (ad 7)])), (ad 2, .inl (c3.1, 4, .inl (fun _ => 0))), (ad 3, .inl (c3.1, 6, .inl (fun _ => 0))), (ad 4, .inl (c3.1, 6, .inl (fun _ => 0))), (ad 5, .inl (c3.1, 6, .inl (fun _ => 0))), (ad 6, .inl (c3.1, 6, .inl (fun _ => 0))), (ad 7, .inl (c3.1, 40, .inl (fun _ => 0))), (ad 8, .inl (c3.1, 0, .inl (fun _ => 0)))]
theorem iwN_X4_init_X2 : ∀ w ∈ u_ws RX2 TX2 13, w ∈ wsX4_init := by decide +kernel
theorem iwN_X7_init_X5 : ∀ w ∈ u_ws RX5 TX5 2, w ∈ wsX7_init := by decide +kernel
theorem iwN_X7_init_X2 : ∀ w ∈ u_ws RX2 TX2 13, w ∈ wsX7_init := by decide +kernel
theorem iwN_X7_init_X4 : ∀ w ∈ u_ws RX4 TX4 3, w ∈ wsX7_init := by decide +kernel
theorem iwN_X7_init_X6 : ∀ w ∈ u_ws RX6 TX6 4, w ∈ wsX7_init := by decide +kernel
theorem iwN_X7_init_X0 : ∀ w ∈ u_ws RX0 TX0 2, w ∈ wsX7_init := by decide +kernel
def EX7 (U : State) : Prop := va_AOA .int U ∧ va_Nw (.methodLinkNest RX4 11 yX2_init "StuckDoor") U ∧ va_Nw (.methodLinkNest RX7 26 yX2_init "StuckDoor") U ∧ va_Nw (.methodLinkNest RX7 33 yX4_init "StuckDoor") U ∧ va_Nw (.methodLinkNest RX7 40 yX6_init "StuckDoor") U ∧ va_Nw (.methodLinkNest RX7 47 yX0_init "StuckDoor") U
theorem EO_7 : EOk EX7 := ⟨fun _ _ h ⟨g1, g2, g3, g4, g5, g6⟩ => ⟨g1.moved h.alike, g2.warmM h, g3.warmM h, g4.warmM h, g5.warmM h, g6.warmM h⟩, fun U g mk a ⟨g1, g2, g3, g4, g5, g6⟩ => ⟨g1.moved (u := U) (U := U.calling g mk a) (Vm.Alike.refl U.vm), g2.same rfl (U := U.calling g mk a) rfl, g3.same rfl (U := U.calling g mk a) rfl, g4.same rfl (U := U.calling g mk a) rfl, g5.same rfl (U := U.calling g mk a) rfl, g6.same rfl (U := U.calling g mk a) rfl⟩⟩
def adC (h0 : Nat) (a1 a2 a3 a4 a5 a6 a7 : Nat → Nat) (q : Nat) (k : Nat) : Nat := if k < 1 then h0 else if k < 10 then a1 (k - 1) else if k < 17 then a2 (k - 10) else if k < 23 then a3 (k - 17) else if k < 30 then a4 (k - 23) else if k < 39 then a5 (k - 30) else if k < 41 then a6 (k - 39) else if k < 43 then a7 (k - 41) else q
/-- the class's memory at the start -/
def wC0 : Mm := (fun p k => if p = 3 then (if k < 6 then -1 else 0) else if p = 12 then (if k < 4 then -1 else 0) else if p = 19 then (if k < 3 then -1 else 0) else if p = 23 ∧ k = 9 then -9 else if p = 31 ∧ k = 9 then -9 else if p = 39 ∧ k = 3 then -9 else 0, fun p k => if p = 0 ∧ k = 11 then 1 else if p = 41 ∧ k = 1 then 1 else 0, 38)
abbrev wX7_init (c3 : C3) (ad : Nat → Nat) : va_W := encC c3 ad wC0
def rmX4_init : Room := { frames := 3, cells := 8, slots := 81, locals := 80 }
theorem iwI_X4_init : ∀ w ∈ u_ws RX4 TX4 3, w ∈ wsX4_init := by decide +kernel
set_option maxHeartbeats 4000000 in
set_option maxRecDepth 100000 in
theorem ctX4_init (l : Launch) (D : va_G) (c3 : C3) (h0 sz : Nat) : Met l yX4_init wsX4_init rmX4_init (PI D c3 [.ref h0] [(h0, .inr (2, [.null, .null, .int 0]))] sz (fun U => va_Nw (.methodLinkNest RX4 11 yX2_init "StuckDoor") U)) (va_Qv (fun ad : Nat → Nat => ad 0 = h0) (BI D (wX4_init c3) (va_A [(h0, .inr (2, [.null, .null, .int 0]))] sz)) (va_A [(h0, .inr (2, [.null, .null, .int 0]))] sz)) 8 81 (va_A [(h0, .inr (2, [.null, .null, .int 0]))] sz) := by
  refine Met.ofW (cc := cX4_init) (maxL := 1) (ret := none) (by decide) rfl ?_
  intro p e s m args below meth c s₁ B hml hv
  obtain ⟨rfl, hsz, hP, hK, hD0, hE⟩ := hv
  have hx := B.exec
  have hb := B.bytes
  have hr := B.returns
  have hts := atoms_spec (ws := wsX4_init) B.pre
  have hown : s.vm.findClass RX4 = some m.cls := findClass_of_methodNamed B.named
  have hlocks := B.notSynchronized
  have hin : meth.name = "<init>" := (name_of_methodNamed B.named B.method).1
  subst hsz
  have hD := hD0.self (sz := s.heap.size)
  generalize hAe : va_A [(h0, .inr (2, [.null, .null, .int 0]))] s.heap.size = A at hD ⊢
  have hA : ∀ q : Nat, s.heap.size ≤ q → A q := fun q h => by rw [← hAe]; exact Or.inr h
  have hS : va_S A s.heap s.heap [] := va_S.rf
  have hl := lv_entry ([.ref h0]) (n := 1) (Nat.le_of_ble_eq_true rfl)
  rw [lg_entry_eq]
  generalize (lg_sl ([.ref h0]) ++ List.replicate (1 - (lg_sl ([.ref h0])).length) Slot.unset).toArray = ls at hl ⊢
  have hl : lv_has ls 1 [(0, .ref h0)] := hl
  have hP : va_P D vwCl ((h0, .inr (2, [.null, .null, .int 0])) :: []) s.heap := hP
  have hD : va_D A ((h0, .inr (2, [.null, .null, .int 0])) :: []) := hD
  refine lv_aload_n hx hb dX4_init_0 rfl (lv_at hl 0 rfl) ?_
  refine W.objInit hx hb hown (hts (.methodLink RX4 3 objectInit) (by decide +kernel)) (hts (.instanceMethod objectInit) (by decide +kernel)) (hts (.code objectInit ⟨#[0xb1]⟩ 1 none) (by decide +kernel)) rfl (by rw [hml]; exact hl.1) rfl dX4_init_1 (Nat.le_of_ble_eq_true rfl) (Nat.le_of_ble_eq_true rfl) ?_
  refine W.eq (g2 := F0 m 4 ls []) rfl ?_
  refine lv_aload_n hx hb dX4_init_4 rfl (lv_at hl 0 rfl) ?_
  refine va_new (ci := 1) (fs := [.int 0, .null, .int 0, .null, .null, .null, .int 0, .int 0, .int 0, .int 0, .null, .int 0, .null]) (C := RX2) (T := TX2) (N := 13) hx hb hts iwN_X4_init_X2 tyX2 tyX2_ok hown (hts (.classLink RX4 9 RX2) (by decide +kernel)) (hts (.instantiable RX2 13) (by decide +kernel)) (hts (.initialized RX2) (by decide +kernel)) hK hP hD hS hA rfl (fun j hj => by rcases (show j = 0 ∨ j = 1 ∨ j = 2 ∨ j = 3 ∨ j = 4 ∨ j = 5 ∨ j = 6 ∨ j = 7 ∨ j = 8 ∨ j = 9 ∨ j = 10 ∨ j = 11 ∨ j = 12 by omega) with rfl | rfl | rfl | rfl | rfl | rfl | rfl | rfl | rfl | rfl | rfl | rfl | rfl <;> rfl) (by show 0 + 1 ≤ 8; omega) (by show 0 + 13 ≤ 81; omega) dX4_init_5 (fun q5 H hP hD hS => ?_)
  refine W.widen (k := 1) (n := 13) (by omega) (by omega) ?_
  have hP : va_P D vwCl (((h0, .inr (2, [.null, .null, .int 0])) :: []) ++ [(q5, .inr (1, [.int 0, .null, .int 0, .null, .null, .null, .int 0, .int 0, .int 0, .int 0, .null, .int 0, .null]))]) H := hP
  have hD : va_D A (((h0, .inr (2, [.null, .null, .int 0])) :: []) ++ [(q5, .inr (1, [.int 0, .null, .int 0, .null, .null, .null, .int 0, .int 0, .int 0, .int 0, .null, .int 0, .null]))]) := hD
  refine lv_dup hx hb dX4_init_8 rfl ?_
  refine y_goI (wf := wX2_init c3) (x := (q5, .inr (1, [.int 0, .null, .int 0, .null, .null, .null, .int 0, .int 0, .int 0, .int 0, .null, .int 0, .null]))) hP hD hS hA (va_runIN (b := q5) (As := []) (rest := [.ref q5, .ref h0]) ⟨hx, hb, hml, hown, hts⟩ (ctX2_init l D c3 q5 H.size) ⟨va_cnB 0 hts gX4_init_X2_init_n11 rfl rfl rfl hE (hts (.initialized RX2) (by decide +kernel)) (by decide +kernel) ⟨Nat.le_of_ble_eq_true rfl, Nat.le_of_ble_eq_true rfl⟩, rfl, hts (.instanceMethod yX2_init) (by decide +kernel)⟩ (y_preI EO_t hK trivial hP hD) rfl rfl hl.1 rfl (lv_room (Nat.le_of_ble_eq_true rfl)) dX4_init_9 ⟨by show 1 + 6 ≤ 8; omega, by show 13 + 68 ≤ 81; omega⟩) (fun a1 H locs ea1 hP hD hS => ?_)
  refine W.widen (k := 7) (n := 81) (by omega) (by omega) ?_
  have hP : va_P D vwCl ((h0, .inr (2, [.null, .null, .int 0])) :: ([] ++ wX2_init c3 a1)) H := hP
  have hD : va_D A ((h0, .inr (2, [.null, .null, .int 0])) :: ([] ++ wX2_init c3 a1)) := hD
  refine va_putF (D := D) (ci := 2) (v := .ref q5) (ty := .object "StuckDoor$Family") (C := RX4) (T := TX4) (N := 3) hx hb hts iwI_X4_init tyX4 tyX4_ok nmX4 hown hK hP hD hS 0 rfl rfl 0 (by decide) (hts (.fieldLink RX4 12 "StuckDoor$Reader" "draft" "LStuckDoor$Family;") (by decide +kernel)) (fun _ h9 => h9) rfl hin rfl (by decide +kernel) rfl rfl (Nat.le_of_ble_eq_true rfl) dX4_init_12 (fun H locs hP hD hS => ?_)
  have hP : va_P D vwCl ((h0, .inr (2, [.ref q5, .null, .int 0])) :: ([] ++ wX2_init c3 a1)) H := hP
  have hD : va_D A ((h0, .inr (2, [.ref q5, .null, .int 0])) :: ([] ++ wX2_init c3 a1)) := hD
  refine lv_aload_n hx hb dX4_init_15 rfl (lv_at hl 0 rfl) ?_
  refine lv_iconst (v := 0) hx hb dX4_init_16 (by decide) ?_
  refine y_newI (N := 0) hx hb (hts (.arrayClass .int) (by decide +kernel)) hK hP hD hS hA rfl (by decide) (by show 7 + 1 ≤ 8; omega) (by show 81 + 0 ≤ 81; omega) dX4_init_17 (fun q17 H hP hD hS => ?_)
  refine W.widen (k := 8) (n := 81) (by omega) (by omega) ?_
  have hP : va_P D vwCl ((h0, .inr (2, [.ref q5, .null, .int 0])) :: (([] ++ wX2_init c3 a1) ++ [(q17, .inl (c3.1, 0, .inl (fun _ => 0)))])) H := hP
  have hD : va_D A ((h0, .inr (2, [.ref q5, .null, .int 0])) :: (([] ++ wX2_init c3 a1) ++ [(q17, .inl (c3.1, 0, .inl (fun _ => 0)))])) := hD
  refine va_put (D := D) (ci := 2) (v := .ref q17) (ty := .array .int) (C := RX4) (T := TX4) (N := 3) hx hb hts iwI_X4_init tyX4 tyX4_ok nmX4 hown hK hP hD hS 0 rfl rfl 1 (by decide) (hts (.fieldLink RX4 18 "StuckDoor$Reader" "bytes" "[I") (by decide +kernel)) (fun _ h9 => h9) rfl (by decide +kernel) rfl rfl (Nat.le_of_ble_eq_true rfl) dX4_init_19 (fun H locs hP hD hS => ?_)
  have hP : va_P D vwCl ((h0, .inr (2, [.ref q5, .ref q17, .int 0])) :: (([] ++ wX2_init c3 a1) ++ [(q17, .inl (c3.1, 0, .inl (fun _ => 0)))])) H := hP
  have hD : va_D A ((h0, .inr (2, [.ref q5, .ref q17, .int 0])) :: (([] ++ wX2_init c3 a1) ++ [(q17, .inl (c3.1, 0, .inl (fun _ => 0)))])) := hD
  refine lv_aload_n hx hb dX4_init_22 rfl (lv_at hl 0 rfl) ?_
  refine lv_iconst (v := 0) hx hb dX4_init_23 (by decide) ?_
  refine va_put (D := D) (ci := 2) (v := .int 0) (ty := .int) (C := RX4) (T := TX4) (N := 3) hx hb hts iwI_X4_init tyX4 tyX4_ok nmX4 hown hK hP hD hS 0 rfl rfl 2 (by decide) (hts (.fieldLink RX4 22 "StuckDoor$Reader" "size" "I") (by decide +kernel)) (fun _ h9 => h9) rfl (by decide +kernel) rfl rfl (Nat.le_of_ble_eq_true rfl) dX4_init_24 (fun H locs hP hD hS => ?_)
  have hP : va_P D vwCl ((h0, .inr (2, [.ref q5, .ref q17, .int 0])) :: (([] ++ wX2_init c3 a1) ++ [(q17, .inl (c3.1, 0, .inl (fun _ => 0)))])) H := hP
  have hD : va_D A ((h0, .inr (2, [.ref q5, .ref q17, .int 0])) :: (([] ++ wX2_init c3 a1) ++ [(q17, .inl (c3.1, 0, .inl (fun _ => 0)))])) := hD
  subst ea1
  have hP : va_P D vwCl (wX4_init c3 (adR h0 a1 q17)) H := hP
  have hD : va_D A (wX4_init c3 (adR h0 a1 q17)) := hD
  refine W.widen (k := 8) (n := 81) (by omega) (by omega) ?_
  exact W.vret hx hb hr (fun t ht hW => ⟨⟨adR h0 a1 q17, rfl, rfl, by rw [ht]; exact hP, hD⟩, hS.F ht⟩) hS.2.2 dX4_init_27

def rmX7_init : Room := { frames := 5, cells := 43, slots := 827, locals := 120 }
theorem iwI_X7_init : ∀ w ∈ u_ws RX7 TX7 12, w ∈ wsX7_init := by decide +kernel
set_option maxHeartbeats 4000000 in
set_option maxRecDepth 100000 in
theorem ctX7_init (l : Launch) (D : va_G) (c3 : C3) (h0 sz : Nat) : Met l yX7_init wsX7_init rmX7_init (PI D c3 [.ref h0] [(h0, .inr (5, [.null, .null, .null, .null, .null, .null, .null, .null, .int 0, .int 0, .long 0, .long 0]))] sz (EX7)) (va_Qv (fun ad : Nat → Nat => ad 0 = h0) (BI D (wX7_init c3) (va_A [(h0, .inr (5, [.null, .null, .null, .null, .null, .null, .null, .null, .int 0, .int 0, .long 0, .long 0]))] sz)) (va_A [(h0, .inr (5, [.null, .null, .null, .null, .null, .null, .null, .null, .int 0, .int 0, .long 0, .long 0]))] sz)) 43 827 (va_A [(h0, .inr (5, [.null, .null, .null, .null, .null, .null, .null, .null, .int 0, .int 0, .long 0, .long 0]))] sz) := by
  refine Met.ofW (cc := cX7_init) (maxL := 1) (ret := none) (by decide) rfl ?_
  intro p e s m args below meth c s₁ B hml hv
  obtain ⟨rfl, hsz, hP, hK, hD0, hE⟩ := hv
  have hx := B.exec
  have hb := B.bytes
  have hr := B.returns
  have hts := atoms_spec (ws := wsX7_init) B.pre
  have hown : s.vm.findClass RX7 = some m.cls := findClass_of_methodNamed B.named
  have hlocks := B.notSynchronized
  have hin : meth.name = "<init>" := (name_of_methodNamed B.named B.method).1
  subst hsz
  have hD := hD0.self (sz := s.heap.size)
  generalize hAe : va_A [(h0, .inr (5, [.null, .null, .null, .null, .null, .null, .null, .null, .int 0, .int 0, .long 0, .long 0]))] s.heap.size = A at hD ⊢
  have hA : ∀ q : Nat, s.heap.size ≤ q → A q := fun q h => by rw [← hAe]; exact Or.inr h
  have hS : va_S A s.heap s.heap [] := va_S.rf
  have hl := lv_entry ([.ref h0]) (n := 1) (Nat.le_of_ble_eq_true rfl)
  rw [lg_entry_eq]
  generalize (lg_sl ([.ref h0]) ++ List.replicate (1 - (lg_sl ([.ref h0])).length) Slot.unset).toArray = ls at hl ⊢
  have hl : lv_has ls 1 [(0, .ref h0)] := hl
  have hP : va_P D vwCl ((h0, .inr (5, [.null, .null, .null, .null, .null, .null, .null, .null, .int 0, .int 0, .long 0, .long 0])) :: []) s.heap := hP
  have hD : va_D A ((h0, .inr (5, [.null, .null, .null, .null, .null, .null, .null, .null, .int 0, .int 0, .long 0, .long 0])) :: []) := hD
  refine lv_aload_n hx hb dX7_init_0 rfl (lv_at hl 0 rfl) ?_
  refine W.objInit hx hb hown (hts (.methodLink RX7 1 objectInit) (by decide +kernel)) (hts (.instanceMethod objectInit) (by decide +kernel)) (hts (.code objectInit ⟨#[0xb1]⟩ 1 none) (by decide +kernel)) rfl (by rw [hml]; exact hl.1) rfl dX7_init_1 (Nat.le_of_ble_eq_true rfl) (Nat.le_of_ble_eq_true rfl) ?_
  refine W.eq (g2 := F0 m 4 ls []) rfl ?_
  refine lv_aload_n hx hb dX7_init_4 rfl (lv_at hl 0 rfl) ?_
  refine va_new (ci := 3) (fs := [.null, .null]) (C := RX5) (T := TX5) (N := 2) hx hb hts iwN_X7_init_X5 tyX5 tyX5_ok hown (hts (.classLink RX7 7 RX5) (by decide +kernel)) (hts (.instantiable RX5 2) (by decide +kernel)) (hts (.initialized RX5) (by decide +kernel)) hK hP hD hS hA rfl (fun j hj => by rcases (show j = 0 ∨ j = 1 by omega) with rfl | rfl <;> rfl) (by show 0 + 1 ≤ 43; omega) (by show 0 + 2 ≤ 827; omega) dX7_init_5 (fun q5 H hP hD hS => ?_)
  refine W.widen (k := 1) (n := 2) (by omega) (by omega) ?_
  have hP : va_P D vwCl (((h0, .inr (5, [.null, .null, .null, .null, .null, .null, .null, .null, .int 0, .int 0, .long 0, .long 0])) :: []) ++ [(q5, .inr (3, [.null, .null]))]) H := hP
  have hD : va_D A (((h0, .inr (5, [.null, .null, .null, .null, .null, .null, .null, .null, .int 0, .int 0, .long 0, .long 0])) :: []) ++ [(q5, .inr (3, [.null, .null]))]) := hD
  refine lv_dup hx hb dX7_init_8 rfl ?_
  refine lv_bipush (v := 6) hx hb dX7_init_9 (by decide) ?_
  refine lv_bipush (v := 40) hx hb dX7_init_11 (by decide) ?_
  refine y_goI (wf := wX5_init_6_40 c3) (x := (q5, .inr (3, [.null, .null]))) hP hD hS hA (va_runI (b := q5) (As := [.int 6, .int 40]) (rest := [.ref q5, .ref h0]) ⟨hx, hb, hml, hown, hts⟩ (ctX5_init_6_40 l D c3 q5 H.size) (cwI 2 hts gX7_init_X5_init rfl rfl rfl (hts (.initialized RX5) (by decide +kernel)) (hts (.methodLink RX7 11 yX5_init) (by decide +kernel)) (hts (.instanceMethod yX5_init) (by decide +kernel)) rfl (by decide +kernel) ⟨Nat.le_of_ble_eq_true rfl, Nat.le_of_ble_eq_true rfl⟩) (y_preI EO_aoa hK hE.1 hP hD) rfl rfl hl.1 rfl (lv_room (Nat.le_of_ble_eq_true rfl)) dX7_init_13 ⟨by show 1 + 8 ≤ 43; omega, by show 2 + 252 ≤ 827; omega⟩) (fun a1 H locs ea1 hP hD hS => ?_)
  refine W.widen (k := 9) (n := 254) (by omega) (by omega) ?_
  have hP : va_P D vwCl ((h0, .inr (5, [.null, .null, .null, .null, .null, .null, .null, .null, .int 0, .int 0, .long 0, .long 0])) :: ([] ++ wX5_init_6_40 c3 a1)) H := hP
  have hD : va_D A ((h0, .inr (5, [.null, .null, .null, .null, .null, .null, .null, .null, .int 0, .int 0, .long 0, .long 0])) :: ([] ++ wX5_init_6_40 c3 a1)) := hD
  refine va_putF (D := D) (ci := 5) (v := .ref q5) (ty := .object "StuckDoor$Rows") (C := RX7) (T := TX7) (N := 12) hx hb hts iwI_X7_init tyX7 tyX7_ok nmX7 hown hK hP hD hS 0 rfl rfl 0 (by decide) (hts (.fieldLink RX7 14 "StuckDoor" "ints" "LStuckDoor$Rows;") (by decide +kernel)) (fun _ h9 => h9) rfl hin rfl (by decide +kernel) rfl rfl (Nat.le_of_ble_eq_true rfl) dX7_init_16 (fun H locs hP hD hS => ?_)
  have hP : va_P D vwCl ((h0, .inr (5, [.ref q5, .null, .null, .null, .null, .null, .null, .null, .int 0, .int 0, .long 0, .long 0])) :: ([] ++ wX5_init_6_40 c3 a1)) H := hP
  have hD : va_D A ((h0, .inr (5, [.ref q5, .null, .null, .null, .null, .null, .null, .null, .int 0, .int 0, .long 0, .long 0])) :: ([] ++ wX5_init_6_40 c3 a1)) := hD
  refine lv_aload_n hx hb dX7_init_19 rfl (lv_at hl 0 rfl) ?_
  refine va_new (ci := 3) (fs := [.null, .null]) (C := RX5) (T := TX5) (N := 2) hx hb hts iwN_X7_init_X5 tyX5 tyX5_ok hown (hts (.classLink RX7 7 RX5) (by decide +kernel)) (hts (.instantiable RX5 2) (by decide +kernel)) (hts (.initialized RX5) (by decide +kernel)) hK hP hD hS hA rfl (fun j hj => by rcases (show j = 0 ∨ j = 1 by omega) with rfl | rfl <;> rfl) (by show 9 + 1 ≤ 43; omega) (by show 254 + 2 ≤ 827; omega) dX7_init_20 (fun q20 H hP hD hS => ?_)
  refine W.widen (k := 10) (n := 256) (by omega) (by omega) ?_
  have hP : va_P D vwCl (((h0, .inr (5, [.ref q5, .null, .null, .null, .null, .null, .null, .null, .int 0, .int 0, .long 0, .long 0])) :: ([] ++ wX5_init_6_40 c3 a1)) ++ [(q20, .inr (3, [.null, .null]))]) H := hP
  have hD : va_D A (((h0, .inr (5, [.ref q5, .null, .null, .null, .null, .null, .null, .null, .int 0, .int 0, .long 0, .long 0])) :: ([] ++ wX5_init_6_40 c3 a1)) ++ [(q20, .inr (3, [.null, .null]))]) := hD
  refine lv_dup hx hb dX7_init_23 rfl ?_
  refine lv_iconst (v := 4) hx hb dX7_init_24 (by decide) ?_
  refine lv_bipush (v := 60) hx hb dX7_init_25 (by decide) ?_
  refine y_goI (wf := wX5_init_4_60 c3) (x := (q20, .inr (3, [.null, .null]))) hP hD hS hA (va_runI (b := q20) (As := [.int 4, .int 60]) (rest := [.ref q20, .ref h0]) ⟨hx, hb, hml, hown, hts⟩ (ctX5_init_4_60 l D c3 q20 H.size) (cwI 2 hts gX7_init_X5_init rfl rfl rfl (hts (.initialized RX5) (by decide +kernel)) (hts (.methodLink RX7 11 yX5_init) (by decide +kernel)) (hts (.instanceMethod yX5_init) (by decide +kernel)) rfl (by decide +kernel) ⟨Nat.le_of_ble_eq_true rfl, Nat.le_of_ble_eq_true rfl⟩) (y_preI EO_aoa hK hE.1 hP hD) rfl rfl hl.1 rfl (lv_room (Nat.le_of_ble_eq_true rfl)) dX7_init_27 ⟨by show 10 + 6 ≤ 43; omega, by show 256 + 248 ≤ 827; omega⟩) (fun a2 H locs ea2 hP hD hS => ?_)
  refine W.widen (k := 16) (n := 504) (by omega) (by omega) ?_
  have hP : va_P D vwCl ((h0, .inr (5, [.ref q5, .null, .null, .null, .null, .null, .null, .null, .int 0, .int 0, .long 0, .long 0])) :: (([] ++ wX5_init_6_40 c3 a1) ++ wX5_init_4_60 c3 a2)) H := hP
  have hD : va_D A ((h0, .inr (5, [.ref q5, .null, .null, .null, .null, .null, .null, .null, .int 0, .int 0, .long 0, .long 0])) :: (([] ++ wX5_init_6_40 c3 a1) ++ wX5_init_4_60 c3 a2)) := hD
  refine va_putF (D := D) (ci := 5) (v := .ref q20) (ty := .object "StuckDoor$Rows") (C := RX7) (T := TX7) (N := 12) hx hb hts iwI_X7_init tyX7 tyX7_ok nmX7 hown hK hP hD hS 0 rfl rfl 1 (by decide) (hts (.fieldLink RX7 18 "StuckDoor" "texts" "LStuckDoor$Rows;") (by decide +kernel)) (fun _ h9 => h9) rfl hin rfl (by decide +kernel) rfl rfl (Nat.le_of_ble_eq_true rfl) dX7_init_30 (fun H locs hP hD hS => ?_)
  have hP : va_P D vwCl ((h0, .inr (5, [.ref q5, .ref q20, .null, .null, .null, .null, .null, .null, .int 0, .int 0, .long 0, .long 0])) :: (([] ++ wX5_init_6_40 c3 a1) ++ wX5_init_4_60 c3 a2)) H := hP
  have hD : va_D A ((h0, .inr (5, [.ref q5, .ref q20, .null, .null, .null, .null, .null, .null, .int 0, .int 0, .long 0, .long 0])) :: (([] ++ wX5_init_6_40 c3 a1) ++ wX5_init_4_60 c3 a2)) := hD
  refine lv_aload_n hx hb dX7_init_33 rfl (lv_at hl 0 rfl) ?_
  refine va_new (ci := 3) (fs := [.null, .null]) (C := RX5) (T := TX5) (N := 2) hx hb hts iwN_X7_init_X5 tyX5 tyX5_ok hown (hts (.classLink RX7 7 RX5) (by decide +kernel)) (hts (.instantiable RX5 2) (by decide +kernel)) (hts (.initialized RX5) (by decide +kernel)) hK hP hD hS hA rfl (fun j hj => by rcases (show j = 0 ∨ j = 1 by omega) with rfl | rfl <;> rfl) (by show 16 + 1 ≤ 43; omega) (by show 504 + 2 ≤ 827; omega) dX7_init_34 (fun q34 H hP hD hS => ?_)
  refine W.widen (k := 17) (n := 506) (by omega) (by omega) ?_
  have hP : va_P D vwCl (((h0, .inr (5, [.ref q5, .ref q20, .null, .null, .null, .null, .null, .null, .int 0, .int 0, .long 0, .long 0])) :: (([] ++ wX5_init_6_40 c3 a1) ++ wX5_init_4_60 c3 a2)) ++ [(q34, .inr (3, [.null, .null]))]) H := hP
  have hD : va_D A (((h0, .inr (5, [.ref q5, .ref q20, .null, .null, .null, .null, .null, .null, .int 0, .int 0, .long 0, .long 0])) :: (([] ++ wX5_init_6_40 c3 a1) ++ wX5_init_4_60 c3 a2)) ++ [(q34, .inr (3, [.null, .null]))]) := hD
  refine lv_dup hx hb dX7_init_37 rfl ?_
  refine lv_iconst (v := 3) hx hb dX7_init_38 (by decide) ?_
  refine lv_bipush (v := 40) hx hb dX7_init_39 (by decide) ?_
  refine y_goI (wf := wX5_init_3_40 c3) (x := (q34, .inr (3, [.null, .null]))) hP hD hS hA (va_runI (b := q34) (As := [.int 3, .int 40]) (rest := [.ref q34, .ref h0]) ⟨hx, hb, hml, hown, hts⟩ (ctX5_init_3_40 l D c3 q34 H.size) (cwI 2 hts gX7_init_X5_init rfl rfl rfl (hts (.initialized RX5) (by decide +kernel)) (hts (.methodLink RX7 11 yX5_init) (by decide +kernel)) (hts (.instanceMethod yX5_init) (by decide +kernel)) rfl (by decide +kernel) ⟨Nat.le_of_ble_eq_true rfl, Nat.le_of_ble_eq_true rfl⟩) (y_preI EO_aoa hK hE.1 hP hD) rfl rfl hl.1 rfl (lv_room (Nat.le_of_ble_eq_true rfl)) dX7_init_41 ⟨by show 17 + 5 ≤ 43; omega, by show 506 + 126 ≤ 827; omega⟩) (fun a3 H locs ea3 hP hD hS => ?_)
  refine W.widen (k := 22) (n := 632) (by omega) (by omega) ?_
  have hP : va_P D vwCl ((h0, .inr (5, [.ref q5, .ref q20, .null, .null, .null, .null, .null, .null, .int 0, .int 0, .long 0, .long 0])) :: ((([] ++ wX5_init_6_40 c3 a1) ++ wX5_init_4_60 c3 a2) ++ wX5_init_3_40 c3 a3)) H := hP
  have hD : va_D A ((h0, .inr (5, [.ref q5, .ref q20, .null, .null, .null, .null, .null, .null, .int 0, .int 0, .long 0, .long 0])) :: ((([] ++ wX5_init_6_40 c3 a1) ++ wX5_init_4_60 c3 a2) ++ wX5_init_3_40 c3 a3)) := hD
  refine va_putF (D := D) (ci := 5) (v := .ref q34) (ty := .object "StuckDoor$Rows") (C := RX7) (T := TX7) (N := 12) hx hb hts iwI_X7_init tyX7 tyX7_ok nmX7 hown hK hP hD hS 0 rfl rfl 2 (by decide) (hts (.fieldLink RX7 21 "StuckDoor" "kept" "LStuckDoor$Rows;") (by decide +kernel)) (fun _ h9 => h9) rfl hin rfl (by decide +kernel) rfl rfl (Nat.le_of_ble_eq_true rfl) dX7_init_44 (fun H locs hP hD hS => ?_)
  have hP : va_P D vwCl ((h0, .inr (5, [.ref q5, .ref q20, .ref q34, .null, .null, .null, .null, .null, .int 0, .int 0, .long 0, .long 0])) :: ((([] ++ wX5_init_6_40 c3 a1) ++ wX5_init_4_60 c3 a2) ++ wX5_init_3_40 c3 a3)) H := hP
  have hD : va_D A ((h0, .inr (5, [.ref q5, .ref q20, .ref q34, .null, .null, .null, .null, .null, .int 0, .int 0, .long 0, .long 0])) :: ((([] ++ wX5_init_6_40 c3 a1) ++ wX5_init_4_60 c3 a2) ++ wX5_init_3_40 c3 a3)) := hD
  refine lv_aload_n hx hb dX7_init_47 rfl (lv_at hl 0 rfl) ?_
  refine va_new (ci := 1) (fs := [.int 0, .null, .int 0, .null, .null, .null, .int 0, .int 0, .int 0, .int 0, .null, .int 0, .null]) (C := RX2) (T := TX2) (N := 13) hx hb hts iwN_X7_init_X2 tyX2 tyX2_ok hown (hts (.classLink RX7 24 RX2) (by decide +kernel)) (hts (.instantiable RX2 13) (by decide +kernel)) (hts (.initialized RX2) (by decide +kernel)) hK hP hD hS hA rfl (fun j hj => by rcases (show j = 0 ∨ j = 1 ∨ j = 2 ∨ j = 3 ∨ j = 4 ∨ j = 5 ∨ j = 6 ∨ j = 7 ∨ j = 8 ∨ j = 9 ∨ j = 10 ∨ j = 11 ∨ j = 12 by omega) with rfl | rfl | rfl | rfl | rfl | rfl | rfl | rfl | rfl | rfl | rfl | rfl | rfl <;> rfl) (by show 22 + 1 ≤ 43; omega) (by show 632 + 13 ≤ 827; omega) dX7_init_48 (fun q48 H hP hD hS => ?_)
  refine W.widen (k := 23) (n := 645) (by omega) (by omega) ?_
  have hP : va_P D vwCl (((h0, .inr (5, [.ref q5, .ref q20, .ref q34, .null, .null, .null, .null, .null, .int 0, .int 0, .long 0, .long 0])) :: ((([] ++ wX5_init_6_40 c3 a1) ++ wX5_init_4_60 c3 a2) ++ wX5_init_3_40 c3 a3)) ++ [(q48, .inr (1, [.int 0, .null, .int 0, .null, .null, .null, .int 0, .int 0, .int 0, .int 0, .null, .int 0, .null]))]) H := hP
  have hD : va_D A (((h0, .inr (5, [.ref q5, .ref q20, .ref q34, .null, .null, .null, .null, .null, .int 0, .int 0, .long 0, .long 0])) :: ((([] ++ wX5_init_6_40 c3 a1) ++ wX5_init_4_60 c3 a2) ++ wX5_init_3_40 c3 a3)) ++ [(q48, .inr (1, [.int 0, .null, .int 0, .null, .null, .null, .int 0, .int 0, .int 0, .int 0, .null, .int 0, .null]))]) := hD
  refine lv_dup hx hb dX7_init_51 rfl ?_
  refine y_goI (wf := wX2_init c3) (x := (q48, .inr (1, [.int 0, .null, .int 0, .null, .null, .null, .int 0, .int 0, .int 0, .int 0, .null, .int 0, .null]))) hP hD hS hA (va_runIN (b := q48) (As := []) (rest := [.ref q48, .ref h0]) ⟨hx, hb, hml, hown, hts⟩ (ctX2_init l D c3 q48 H.size) ⟨va_cnB 0 hts gX7_init_X2_init_n26 rfl rfl rfl hE.2.2.1 (hts (.initialized RX2) (by decide +kernel)) (by decide +kernel) ⟨Nat.le_of_ble_eq_true rfl, Nat.le_of_ble_eq_true rfl⟩, rfl, hts (.instanceMethod yX2_init) (by decide +kernel)⟩ (y_preI EO_t hK trivial hP hD) rfl rfl hl.1 rfl (lv_room (Nat.le_of_ble_eq_true rfl)) dX7_init_52 ⟨by show 23 + 6 ≤ 43; omega, by show 645 + 68 ≤ 827; omega⟩) (fun a4 H locs ea4 hP hD hS => ?_)
  refine W.widen (k := 29) (n := 713) (by omega) (by omega) ?_
  have hP : va_P D vwCl ((h0, .inr (5, [.ref q5, .ref q20, .ref q34, .null, .null, .null, .null, .null, .int 0, .int 0, .long 0, .long 0])) :: (((([] ++ wX5_init_6_40 c3 a1) ++ wX5_init_4_60 c3 a2) ++ wX5_init_3_40 c3 a3) ++ wX2_init c3 a4)) H := hP
  have hD : va_D A ((h0, .inr (5, [.ref q5, .ref q20, .ref q34, .null, .null, .null, .null, .null, .int 0, .int 0, .long 0, .long 0])) :: (((([] ++ wX5_init_6_40 c3 a1) ++ wX5_init_4_60 c3 a2) ++ wX5_init_3_40 c3 a3) ++ wX2_init c3 a4)) := hD
  refine va_putF (D := D) (ci := 5) (v := .ref q48) (ty := .object "StuckDoor$Family") (C := RX7) (T := TX7) (N := 12) hx hb hts iwI_X7_init tyX7 tyX7_ok nmX7 hown hK hP hD hS 0 rfl rfl 3 (by decide) (hts (.fieldLink RX7 27 "StuckDoor" "family" "LStuckDoor$Family;") (by decide +kernel)) (fun _ h9 => h9) rfl hin rfl (by decide +kernel) rfl rfl (Nat.le_of_ble_eq_true rfl) dX7_init_55 (fun H locs hP hD hS => ?_)
  have hP : va_P D vwCl ((h0, .inr (5, [.ref q5, .ref q20, .ref q34, .ref q48, .null, .null, .null, .null, .int 0, .int 0, .long 0, .long 0])) :: (((([] ++ wX5_init_6_40 c3 a1) ++ wX5_init_4_60 c3 a2) ++ wX5_init_3_40 c3 a3) ++ wX2_init c3 a4)) H := hP
  have hD : va_D A ((h0, .inr (5, [.ref q5, .ref q20, .ref q34, .ref q48, .null, .null, .null, .null, .int 0, .int 0, .long 0, .long 0])) :: (((([] ++ wX5_init_6_40 c3 a1) ++ wX5_init_4_60 c3 a2) ++ wX5_init_3_40 c3 a3) ++ wX2_init c3 a4)) := hD
  refine lv_aload_n hx hb dX7_init_58 rfl (lv_at hl 0 rfl) ?_
  refine va_new (ci := 2) (fs := [.null, .null, .int 0]) (C := RX4) (T := TX4) (N := 3) hx hb hts iwN_X7_init_X4 tyX4 tyX4_ok hown (hts (.classLink RX7 31 RX4) (by decide +kernel)) (hts (.instantiable RX4 3) (by decide +kernel)) (hts (.initialized RX4) (by decide +kernel)) hK hP hD hS hA rfl (fun j hj => by rcases (show j = 0 ∨ j = 1 ∨ j = 2 by omega) with rfl | rfl | rfl <;> rfl) (by show 29 + 1 ≤ 43; omega) (by show 713 + 3 ≤ 827; omega) dX7_init_59 (fun q59 H hP hD hS => ?_)
  refine W.widen (k := 30) (n := 716) (by omega) (by omega) ?_
  have hP : va_P D vwCl (((h0, .inr (5, [.ref q5, .ref q20, .ref q34, .ref q48, .null, .null, .null, .null, .int 0, .int 0, .long 0, .long 0])) :: (((([] ++ wX5_init_6_40 c3 a1) ++ wX5_init_4_60 c3 a2) ++ wX5_init_3_40 c3 a3) ++ wX2_init c3 a4)) ++ [(q59, .inr (2, [.null, .null, .int 0]))]) H := hP
  have hD : va_D A (((h0, .inr (5, [.ref q5, .ref q20, .ref q34, .ref q48, .null, .null, .null, .null, .int 0, .int 0, .long 0, .long 0])) :: (((([] ++ wX5_init_6_40 c3 a1) ++ wX5_init_4_60 c3 a2) ++ wX5_init_3_40 c3 a3) ++ wX2_init c3 a4)) ++ [(q59, .inr (2, [.null, .null, .int 0]))]) := hD
  refine lv_dup hx hb dX7_init_62 rfl ?_
  refine y_goI (wf := wX4_init c3) (x := (q59, .inr (2, [.null, .null, .int 0]))) hP hD hS hA (va_runIN (b := q59) (As := []) (rest := [.ref q59, .ref h0]) ⟨hx, hb, hml, hown, hts⟩ (ctX4_init l D c3 q59 H.size) ⟨va_cnB 0 hts gX7_init_X4_init_n33 rfl rfl rfl hE.2.2.2.1 (hts (.initialized RX4) (by decide +kernel)) (by decide +kernel) ⟨Nat.le_of_ble_eq_true rfl, Nat.le_of_ble_eq_true rfl⟩, rfl, hts (.instanceMethod yX4_init) (by decide +kernel)⟩ (y_preI EO_nw hK hE.2.1 hP hD) rfl rfl hl.1 rfl (lv_room (Nat.le_of_ble_eq_true rfl)) dX7_init_63 ⟨by show 30 + 8 ≤ 43; omega, by show 716 + 81 ≤ 827; omega⟩) (fun a5 H locs ea5 hP hD hS => ?_)
  refine W.widen (k := 38) (n := 797) (by omega) (by omega) ?_
  have hP : va_P D vwCl ((h0, .inr (5, [.ref q5, .ref q20, .ref q34, .ref q48, .null, .null, .null, .null, .int 0, .int 0, .long 0, .long 0])) :: ((((([] ++ wX5_init_6_40 c3 a1) ++ wX5_init_4_60 c3 a2) ++ wX5_init_3_40 c3 a3) ++ wX2_init c3 a4) ++ wX4_init c3 a5)) H := hP
  have hD : va_D A ((h0, .inr (5, [.ref q5, .ref q20, .ref q34, .ref q48, .null, .null, .null, .null, .int 0, .int 0, .long 0, .long 0])) :: ((((([] ++ wX5_init_6_40 c3 a1) ++ wX5_init_4_60 c3 a2) ++ wX5_init_3_40 c3 a3) ++ wX2_init c3 a4) ++ wX4_init c3 a5)) := hD
  refine va_putF (D := D) (ci := 5) (v := .ref q59) (ty := .object "StuckDoor$Reader") (C := RX7) (T := TX7) (N := 12) hx hb hts iwI_X7_init tyX7 tyX7_ok nmX7 hown hK hP hD hS 0 rfl rfl 4 (by decide) (hts (.fieldLink RX7 34 "StuckDoor" "reader" "LStuckDoor$Reader;") (by decide +kernel)) (fun _ h9 => h9) rfl hin rfl (by decide +kernel) rfl rfl (Nat.le_of_ble_eq_true rfl) dX7_init_66 (fun H locs hP hD hS => ?_)
  have hP : va_P D vwCl ((h0, .inr (5, [.ref q5, .ref q20, .ref q34, .ref q48, .ref q59, .null, .null, .null, .int 0, .int 0, .long 0, .long 0])) :: ((((([] ++ wX5_init_6_40 c3 a1) ++ wX5_init_4_60 c3 a2) ++ wX5_init_3_40 c3 a3) ++ wX2_init c3 a4) ++ wX4_init c3 a5)) H := hP
  have hD : va_D A ((h0, .inr (5, [.ref q5, .ref q20, .ref q34, .ref q48, .ref q59, .null, .null, .null, .int 0, .int 0, .long 0, .long 0])) :: ((((([] ++ wX5_init_6_40 c3 a1) ++ wX5_init_4_60 c3 a2) ++ wX5_init_3_40 c3 a3) ++ wX2_init c3 a4) ++ wX4_init c3 a5)) := hD
  refine lv_aload_n hx hb dX7_init_69 rfl (lv_at hl 0 rfl) ?_
  refine va_new (ci := 4) (fs := [.null, .long 0, .int 0, .int 0]) (C := RX6) (T := TX6) (N := 4) hx hb hts iwN_X7_init_X6 tyX6 tyX6_ok hown (hts (.classLink RX7 38 RX6) (by decide +kernel)) (hts (.instantiable RX6 4) (by decide +kernel)) (hts (.initialized RX6) (by decide +kernel)) hK hP hD hS hA rfl (fun j hj => by rcases (show j = 0 ∨ j = 1 ∨ j = 2 ∨ j = 3 by omega) with rfl | rfl | rfl | rfl <;> rfl) (by show 38 + 1 ≤ 43; omega) (by show 797 + 4 ≤ 827; omega) dX7_init_70 (fun q70 H hP hD hS => ?_)
  refine W.widen (k := 39) (n := 801) (by omega) (by omega) ?_
  have hP : va_P D vwCl (((h0, .inr (5, [.ref q5, .ref q20, .ref q34, .ref q48, .ref q59, .null, .null, .null, .int 0, .int 0, .long 0, .long 0])) :: ((((([] ++ wX5_init_6_40 c3 a1) ++ wX5_init_4_60 c3 a2) ++ wX5_init_3_40 c3 a3) ++ wX2_init c3 a4) ++ wX4_init c3 a5)) ++ [(q70, .inr (4, [.null, .long 0, .int 0, .int 0]))]) H := hP
  have hD : va_D A (((h0, .inr (5, [.ref q5, .ref q20, .ref q34, .ref q48, .ref q59, .null, .null, .null, .int 0, .int 0, .long 0, .long 0])) :: ((((([] ++ wX5_init_6_40 c3 a1) ++ wX5_init_4_60 c3 a2) ++ wX5_init_3_40 c3 a3) ++ wX2_init c3 a4) ++ wX4_init c3 a5)) ++ [(q70, .inr (4, [.null, .long 0, .int 0, .int 0]))]) := hD
  refine lv_dup hx hb dX7_init_73 rfl ?_
  refine y_goI (wf := wX6_init c3) (x := (q70, .inr (4, [.null, .long 0, .int 0, .int 0]))) hP hD hS hA (va_runIN (b := q70) (As := []) (rest := [.ref q70, .ref h0]) ⟨hx, hb, hml, hown, hts⟩ (ctX6_init l D c3 q70 H.size) ⟨va_cnB 0 hts gX7_init_X6_init_n40 rfl rfl rfl hE.2.2.2.2.1 (hts (.initialized RX6) (by decide +kernel)) (by decide +kernel) ⟨Nat.le_of_ble_eq_true rfl, Nat.le_of_ble_eq_true rfl⟩, rfl, hts (.instanceMethod yX6_init) (by decide +kernel)⟩ (y_preI EO_t hK trivial hP hD) rfl rfl hl.1 rfl (lv_room (Nat.le_of_ble_eq_true rfl)) dX7_init_74 ⟨by show 39 + 1 ≤ 43; omega, by show 801 + 5 ≤ 827; omega⟩) (fun a6 H locs ea6 hP hD hS => ?_)
  refine W.widen (k := 40) (n := 806) (by omega) (by omega) ?_
  have hP : va_P D vwCl ((h0, .inr (5, [.ref q5, .ref q20, .ref q34, .ref q48, .ref q59, .null, .null, .null, .int 0, .int 0, .long 0, .long 0])) :: (((((([] ++ wX5_init_6_40 c3 a1) ++ wX5_init_4_60 c3 a2) ++ wX5_init_3_40 c3 a3) ++ wX2_init c3 a4) ++ wX4_init c3 a5) ++ wX6_init c3 a6)) H := hP
  have hD : va_D A ((h0, .inr (5, [.ref q5, .ref q20, .ref q34, .ref q48, .ref q59, .null, .null, .null, .int 0, .int 0, .long 0, .long 0])) :: (((((([] ++ wX5_init_6_40 c3 a1) ++ wX5_init_4_60 c3 a2) ++ wX5_init_3_40 c3 a3) ++ wX2_init c3 a4) ++ wX4_init c3 a5) ++ wX6_init c3 a6)) := hD
  refine va_putF (D := D) (ci := 5) (v := .ref q70) (ty := .object "StuckDoor$Turns") (C := RX7) (T := TX7) (N := 12) hx hb hts iwI_X7_init tyX7 tyX7_ok nmX7 hown hK hP hD hS 0 rfl rfl 5 (by decide) (hts (.fieldLink RX7 41 "StuckDoor" "turns" "LStuckDoor$Turns;") (by decide +kernel)) (fun _ h9 => h9) rfl hin rfl (by decide +kernel) rfl rfl (Nat.le_of_ble_eq_true rfl) dX7_init_77 (fun H locs hP hD hS => ?_)
  have hP : va_P D vwCl ((h0, .inr (5, [.ref q5, .ref q20, .ref q34, .ref q48, .ref q59, .ref q70, .null, .null, .int 0, .int 0, .long 0, .long 0])) :: (((((([] ++ wX5_init_6_40 c3 a1) ++ wX5_init_4_60 c3 a2) ++ wX5_init_3_40 c3 a3) ++ wX2_init c3 a4) ++ wX4_init c3 a5) ++ wX6_init c3 a6)) H := hP
  have hD : va_D A ((h0, .inr (5, [.ref q5, .ref q20, .ref q34, .ref q48, .ref q59, .ref q70, .null, .null, .int 0, .int 0, .long 0, .long 0])) :: (((((([] ++ wX5_init_6_40 c3 a1) ++ wX5_init_4_60 c3 a2) ++ wX5_init_3_40 c3 a3) ++ wX2_init c3 a4) ++ wX4_init c3 a5) ++ wX6_init c3 a6)) := hD
  refine lv_aload_n hx hb dX7_init_80 rfl (lv_at hl 0 rfl) ?_
  refine va_new (ci := 0) (fs := [.null, .long 0]) (C := RX0) (T := TX0) (N := 2) hx hb hts iwN_X7_init_X0 tyX0 tyX0_ok hown (hts (.classLink RX7 45 RX0) (by decide +kernel)) (hts (.instantiable RX0 2) (by decide +kernel)) (hts (.initialized RX0) (by decide +kernel)) hK hP hD hS hA rfl (fun j hj => by rcases (show j = 0 ∨ j = 1 by omega) with rfl | rfl <;> rfl) (by show 40 + 1 ≤ 43; omega) (by show 806 + 2 ≤ 827; omega) dX7_init_81 (fun q81 H hP hD hS => ?_)
  refine W.widen (k := 41) (n := 808) (by omega) (by omega) ?_
  have hP : va_P D vwCl (((h0, .inr (5, [.ref q5, .ref q20, .ref q34, .ref q48, .ref q59, .ref q70, .null, .null, .int 0, .int 0, .long 0, .long 0])) :: (((((([] ++ wX5_init_6_40 c3 a1) ++ wX5_init_4_60 c3 a2) ++ wX5_init_3_40 c3 a3) ++ wX2_init c3 a4) ++ wX4_init c3 a5) ++ wX6_init c3 a6)) ++ [(q81, .inr (0, [.null, .long 0]))]) H := hP
  have hD : va_D A (((h0, .inr (5, [.ref q5, .ref q20, .ref q34, .ref q48, .ref q59, .ref q70, .null, .null, .int 0, .int 0, .long 0, .long 0])) :: (((((([] ++ wX5_init_6_40 c3 a1) ++ wX5_init_4_60 c3 a2) ++ wX5_init_3_40 c3 a3) ++ wX2_init c3 a4) ++ wX4_init c3 a5) ++ wX6_init c3 a6)) ++ [(q81, .inr (0, [.null, .long 0]))]) := hD
  refine lv_dup hx hb dX7_init_84 rfl ?_
  refine y_goI (wf := wX0_init c3) (x := (q81, .inr (0, [.null, .long 0]))) hP hD hS hA (va_runIN (b := q81) (As := []) (rest := [.ref q81, .ref h0]) ⟨hx, hb, hml, hown, hts⟩ (ctX0_init l D c3 q81 H.size) ⟨va_cnB 0 hts gX7_init_X0_init_n47 rfl rfl rfl hE.2.2.2.2.2 (hts (.initialized RX0) (by decide +kernel)) (by decide +kernel) ⟨Nat.le_of_ble_eq_true rfl, Nat.le_of_ble_eq_true rfl⟩, rfl, hts (.instanceMethod yX0_init) (by decide +kernel)⟩ (y_preI EO_t hK trivial hP hD) rfl rfl hl.1 rfl (lv_room (Nat.le_of_ble_eq_true rfl)) dX7_init_85 ⟨by show 41 + 1 ≤ 43; omega, by show 808 + 13 ≤ 827; omega⟩) (fun a7 H locs ea7 hP hD hS => ?_)
  refine W.widen (k := 42) (n := 821) (by omega) (by omega) ?_
  have hP : va_P D vwCl ((h0, .inr (5, [.ref q5, .ref q20, .ref q34, .ref q48, .ref q59, .ref q70, .null, .null, .int 0, .int 0, .long 0, .long 0])) :: ((((((([] ++ wX5_init_6_40 c3 a1) ++ wX5_init_4_60 c3 a2) ++ wX5_init_3_40 c3 a3) ++ wX2_init c3 a4) ++ wX4_init c3 a5) ++ wX6_init c3 a6) ++ wX0_init c3 a7)) H := hP
  have hD : va_D A ((h0, .inr (5, [.ref q5, .ref q20, .ref q34, .ref q48, .ref q59, .ref q70, .null, .null, .int 0, .int 0, .long 0, .long 0])) :: ((((((([] ++ wX5_init_6_40 c3 a1) ++ wX5_init_4_60 c3 a2) ++ wX5_init_3_40 c3 a3) ++ wX2_init c3 a4) ++ wX4_init c3 a5) ++ wX6_init c3 a6) ++ wX0_init c3 a7)) := hD
  refine va_putF (D := D) (ci := 5) (v := .ref q81) (ty := .object "StuckDoor$Chances") (C := RX7) (T := TX7) (N := 12) hx hb hts iwI_X7_init tyX7 tyX7_ok nmX7 hown hK hP hD hS 0 rfl rfl 6 (by decide) (hts (.fieldLink RX7 48 "StuckDoor" "chances" "LStuckDoor$Chances;") (by decide +kernel)) (fun _ h9 => h9) rfl hin rfl (by decide +kernel) rfl rfl (Nat.le_of_ble_eq_true rfl) dX7_init_88 (fun H locs hP hD hS => ?_)
  have hP : va_P D vwCl ((h0, .inr (5, [.ref q5, .ref q20, .ref q34, .ref q48, .ref q59, .ref q70, .ref q81, .null, .int 0, .int 0, .long 0, .long 0])) :: ((((((([] ++ wX5_init_6_40 c3 a1) ++ wX5_init_4_60 c3 a2) ++ wX5_init_3_40 c3 a3) ++ wX2_init c3 a4) ++ wX4_init c3 a5) ++ wX6_init c3 a6) ++ wX0_init c3 a7)) H := hP
  have hD : va_D A ((h0, .inr (5, [.ref q5, .ref q20, .ref q34, .ref q48, .ref q59, .ref q70, .ref q81, .null, .int 0, .int 0, .long 0, .long 0])) :: ((((((([] ++ wX5_init_6_40 c3 a1) ++ wX5_init_4_60 c3 a2) ++ wX5_init_3_40 c3 a3) ++ wX2_init c3 a4) ++ wX4_init c3 a5) ++ wX6_init c3 a6) ++ wX0_init c3 a7)) := hD
  refine lv_aload_n hx hb dX7_init_91 rfl (lv_at hl 0 rfl) ?_
  refine lv_bipush (v := 6) hx hb dX7_init_92 (by decide) ?_
  refine y_newI (N := 6) hx hb (hts (.arrayClass .int) (by decide +kernel)) hK hP hD hS hA rfl (by decide) (by show 42 + 1 ≤ 43; omega) (by show 821 + 6 ≤ 827; omega) dX7_init_94 (fun q94 H hP hD hS => ?_)
  refine W.widen (k := 43) (n := 827) (by omega) (by omega) ?_
  have hP : va_P D vwCl ((h0, .inr (5, [.ref q5, .ref q20, .ref q34, .ref q48, .ref q59, .ref q70, .ref q81, .null, .int 0, .int 0, .long 0, .long 0])) :: (((((((([] ++ wX5_init_6_40 c3 a1) ++ wX5_init_4_60 c3 a2) ++ wX5_init_3_40 c3 a3) ++ wX2_init c3 a4) ++ wX4_init c3 a5) ++ wX6_init c3 a6) ++ wX0_init c3 a7) ++ [(q94, .inl (c3.1, 6, .inl (fun _ => 0)))])) H := hP
  have hD : va_D A ((h0, .inr (5, [.ref q5, .ref q20, .ref q34, .ref q48, .ref q59, .ref q70, .ref q81, .null, .int 0, .int 0, .long 0, .long 0])) :: (((((((([] ++ wX5_init_6_40 c3 a1) ++ wX5_init_4_60 c3 a2) ++ wX5_init_3_40 c3 a3) ++ wX2_init c3 a4) ++ wX4_init c3 a5) ++ wX6_init c3 a6) ++ wX0_init c3 a7) ++ [(q94, .inl (c3.1, 6, .inl (fun _ => 0)))])) := hD
  refine va_putF (D := D) (ci := 5) (v := .ref q94) (ty := .array .int) (C := RX7) (T := TX7) (N := 12) hx hb hts iwI_X7_init tyX7 tyX7_ok nmX7 hown hK hP hD hS 0 rfl rfl 7 (by decide) (hts (.fieldLink RX7 52 "StuckDoor" "found" "[I") (by decide +kernel)) (fun _ h9 => h9) rfl hin rfl (by decide +kernel) rfl rfl (Nat.le_of_ble_eq_true rfl) dX7_init_96 (fun H locs hP hD hS => ?_)
  have hP : va_P D vwCl ((h0, .inr (5, [.ref q5, .ref q20, .ref q34, .ref q48, .ref q59, .ref q70, .ref q81, .ref q94, .int 0, .int 0, .long 0, .long 0])) :: (((((((([] ++ wX5_init_6_40 c3 a1) ++ wX5_init_4_60 c3 a2) ++ wX5_init_3_40 c3 a3) ++ wX2_init c3 a4) ++ wX4_init c3 a5) ++ wX6_init c3 a6) ++ wX0_init c3 a7) ++ [(q94, .inl (c3.1, 6, .inl (fun _ => 0)))])) H := hP
  have hD : va_D A ((h0, .inr (5, [.ref q5, .ref q20, .ref q34, .ref q48, .ref q59, .ref q70, .ref q81, .ref q94, .int 0, .int 0, .long 0, .long 0])) :: (((((((([] ++ wX5_init_6_40 c3 a1) ++ wX5_init_4_60 c3 a2) ++ wX5_init_3_40 c3 a3) ++ wX2_init c3 a4) ++ wX4_init c3 a5) ++ wX6_init c3 a6) ++ wX0_init c3 a7) ++ [(q94, .inl (c3.1, 6, .inl (fun _ => 0)))])) := hD
  refine lv_aload_n hx hb dX7_init_99 rfl (lv_at hl 0 rfl) ?_
  refine lv_iconst (v := 0) hx hb dX7_init_100 (by decide) ?_
  refine va_put (D := D) (ci := 5) (v := .int 0) (ty := .int) (C := RX7) (T := TX7) (N := 12) hx hb hts iwI_X7_init tyX7 tyX7_ok nmX7 hown hK hP hD hS 0 rfl rfl 8 (by decide) (hts (.fieldLink RX7 56 "StuckDoor" "latest" "I") (by decide +kernel)) (fun _ h9 => h9) rfl (by decide +kernel) rfl rfl (Nat.le_of_ble_eq_true rfl) dX7_init_101 (fun H locs hP hD hS => ?_)
  have hP : va_P D vwCl ((h0, .inr (5, [.ref q5, .ref q20, .ref q34, .ref q48, .ref q59, .ref q70, .ref q81, .ref q94, .int 0, .int 0, .long 0, .long 0])) :: (((((((([] ++ wX5_init_6_40 c3 a1) ++ wX5_init_4_60 c3 a2) ++ wX5_init_3_40 c3 a3) ++ wX2_init c3 a4) ++ wX4_init c3 a5) ++ wX6_init c3 a6) ++ wX0_init c3 a7) ++ [(q94, .inl (c3.1, 6, .inl (fun _ => 0)))])) H := hP
  have hD : va_D A ((h0, .inr (5, [.ref q5, .ref q20, .ref q34, .ref q48, .ref q59, .ref q70, .ref q81, .ref q94, .int 0, .int 0, .long 0, .long 0])) :: (((((((([] ++ wX5_init_6_40 c3 a1) ++ wX5_init_4_60 c3 a2) ++ wX5_init_3_40 c3 a3) ++ wX2_init c3 a4) ++ wX4_init c3 a5) ++ wX6_init c3 a6) ++ wX0_init c3 a7) ++ [(q94, .inl (c3.1, 6, .inl (fun _ => 0)))])) := hD
  refine lv_aload_n hx hb dX7_init_104 rfl (lv_at hl 0 rfl) ?_
  refine lv_iconst (v := 0) hx hb dX7_init_105 (by decide) ?_
  refine va_put (D := D) (ci := 5) (v := .int 0) (ty := .int) (C := RX7) (T := TX7) (N := 12) hx hb hts iwI_X7_init tyX7 tyX7_ok nmX7 hown hK hP hD hS 0 rfl rfl 9 (by decide) (hts (.fieldLink RX7 60 "StuckDoor" "askedLast" "I") (by decide +kernel)) (fun _ h9 => h9) rfl (by decide +kernel) rfl rfl (Nat.le_of_ble_eq_true rfl) dX7_init_106 (fun H locs hP hD hS => ?_)
  have hP : va_P D vwCl ((h0, .inr (5, [.ref q5, .ref q20, .ref q34, .ref q48, .ref q59, .ref q70, .ref q81, .ref q94, .int 0, .int 0, .long 0, .long 0])) :: (((((((([] ++ wX5_init_6_40 c3 a1) ++ wX5_init_4_60 c3 a2) ++ wX5_init_3_40 c3 a3) ++ wX2_init c3 a4) ++ wX4_init c3 a5) ++ wX6_init c3 a6) ++ wX0_init c3 a7) ++ [(q94, .inl (c3.1, 6, .inl (fun _ => 0)))])) H := hP
  have hD : va_D A ((h0, .inr (5, [.ref q5, .ref q20, .ref q34, .ref q48, .ref q59, .ref q70, .ref q81, .ref q94, .int 0, .int 0, .long 0, .long 0])) :: (((((((([] ++ wX5_init_6_40 c3 a1) ++ wX5_init_4_60 c3 a2) ++ wX5_init_3_40 c3 a3) ++ wX2_init c3 a4) ++ wX4_init c3 a5) ++ wX6_init c3 a6) ++ wX0_init c3 a7) ++ [(q94, .inl (c3.1, 6, .inl (fun _ => 0)))])) := hD
  refine lv_aload_n hx hb dX7_init_109 rfl (lv_at hl 0 rfl) ?_
  refine lv_lconst (v := 0) hx hb dX7_init_110 (by decide) ?_
  refine va_put (D := D) (ci := 5) (v := .long 0) (ty := .long) (C := RX7) (T := TX7) (N := 12) hx hb hts iwI_X7_init tyX7 tyX7_ok nmX7 hown hK hP hD hS 0 rfl rfl 10 (by decide) (hts (.fieldLink RX7 63 "StuckDoor" "upperLast" "J") (by decide +kernel)) (fun _ h9 => h9) rfl (by decide +kernel) rfl rfl (Nat.le_of_ble_eq_true rfl) dX7_init_111 (fun H locs hP hD hS => ?_)
  have hP : va_P D vwCl ((h0, .inr (5, [.ref q5, .ref q20, .ref q34, .ref q48, .ref q59, .ref q70, .ref q81, .ref q94, .int 0, .int 0, .long 0, .long 0])) :: (((((((([] ++ wX5_init_6_40 c3 a1) ++ wX5_init_4_60 c3 a2) ++ wX5_init_3_40 c3 a3) ++ wX2_init c3 a4) ++ wX4_init c3 a5) ++ wX6_init c3 a6) ++ wX0_init c3 a7) ++ [(q94, .inl (c3.1, 6, .inl (fun _ => 0)))])) H := hP
  have hD : va_D A ((h0, .inr (5, [.ref q5, .ref q20, .ref q34, .ref q48, .ref q59, .ref q70, .ref q81, .ref q94, .int 0, .int 0, .long 0, .long 0])) :: (((((((([] ++ wX5_init_6_40 c3 a1) ++ wX5_init_4_60 c3 a2) ++ wX5_init_3_40 c3 a3) ++ wX2_init c3 a4) ++ wX4_init c3 a5) ++ wX6_init c3 a6) ++ wX0_init c3 a7) ++ [(q94, .inl (c3.1, 6, .inl (fun _ => 0)))])) := hD
  refine lv_aload_n hx hb dX7_init_114 rfl (lv_at hl 0 rfl) ?_
  refine lv_lconst (v := 1) hx hb dX7_init_115 (by decide) ?_
  refine va_put (D := D) (ci := 5) (v := .long 1) (ty := .long) (C := RX7) (T := TX7) (N := 12) hx hb hts iwI_X7_init tyX7 tyX7_ok nmX7 hown hK hP hD hS 0 rfl rfl 11 (by decide) (hts (.fieldLink RX7 67 "StuckDoor" "lowerLast" "J") (by decide +kernel)) (fun _ h9 => h9) rfl (by decide +kernel) rfl rfl (Nat.le_of_ble_eq_true rfl) dX7_init_116 (fun H locs hP hD hS => ?_)
  have hP : va_P D vwCl ((h0, .inr (5, [.ref q5, .ref q20, .ref q34, .ref q48, .ref q59, .ref q70, .ref q81, .ref q94, .int 0, .int 0, .long 0, .long 1])) :: (((((((([] ++ wX5_init_6_40 c3 a1) ++ wX5_init_4_60 c3 a2) ++ wX5_init_3_40 c3 a3) ++ wX2_init c3 a4) ++ wX4_init c3 a5) ++ wX6_init c3 a6) ++ wX0_init c3 a7) ++ [(q94, .inl (c3.1, 6, .inl (fun _ => 0)))])) H := hP
  have hD : va_D A ((h0, .inr (5, [.ref q5, .ref q20, .ref q34, .ref q48, .ref q59, .ref q70, .ref q81, .ref q94, .int 0, .int 0, .long 0, .long 1])) :: (((((((([] ++ wX5_init_6_40 c3 a1) ++ wX5_init_4_60 c3 a2) ++ wX5_init_3_40 c3 a3) ++ wX2_init c3 a4) ++ wX4_init c3 a5) ++ wX6_init c3 a6) ++ wX0_init c3 a7) ++ [(q94, .inl (c3.1, 6, .inl (fun _ => 0)))])) := hD
  subst ea1 ea2 ea3 ea4 ea5 ea6 ea7
  have hP := va_ren hP (k := 2) rfl (g := fun i => some (adC h0 a1 a2 a3 a4 a5 a6 a7 q94 (4 + i))) (fun i hi => by rcases (show i = 0 ∨ i = 1 ∨ i = 2 ∨ i = 3 ∨ i = 4 ∨ i = 5 by omega) with rfl | rfl | rfl | rfl | rfl | rfl <;> rfl)
  have hP := va_ren hP (k := 11) rfl (g := fun i => some (adC h0 a1 a2 a3 a4 a5 a6 a7 q94 (13 + i))) (fun i hi => by rcases (show i = 0 ∨ i = 1 ∨ i = 2 ∨ i = 3 by omega) with rfl | rfl | rfl | rfl <;> rfl)
  have hP := va_ren hP (k := 18) rfl (g := fun i => some (adC h0 a1 a2 a3 a4 a5 a6 a7 q94 (20 + i))) (fun i hi => by rcases (show i = 0 ∨ i = 1 ∨ i = 2 by omega) with rfl | rfl | rfl <;> rfl)
  have hP : va_P D vwCl (wX7_init c3 (adC h0 a1 a2 a3 a4 a5 a6 a7 q94)) H := hP
  have hD : va_D A (wX7_init c3 (adC h0 a1 a2 a3 a4 a5 a6 a7 q94)) := va_D_same (by exact rfl) hD
  refine W.widen (k := 43) (n := 827) (by omega) (by omega) ?_
  exact W.vret hx hb hr (fun t ht hW => ⟨⟨adC h0 a1 a2 a3 a4 a5 a6 a7 q94, rfl, rfl, by rw [ht]; exact hP, hD⟩, hS.F ht⟩) hS.2.2 dX7_init_119


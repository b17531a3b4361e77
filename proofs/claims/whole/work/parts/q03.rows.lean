/-! constructors: rows -/
abbrev wX5_init_6_40 (c3 : C3) (ad : Nat → Nat) : va_W := [(ad 0, .inr (3, [.ref (ad 1), .ref (ad 2)])), (ad 1, .inl (c3.2.2, 6, .inr (.inr (.inr (.inr (fun i => some (ad (3 + i)))))))), (ad 2, .inl (c3.1, 6, .inl (fun t => if t < 6 then (-1) else 0))), (ad 3, .inl (c3.1, 40, .inl (fun _ => 0))), (ad 4, .inl (c3.1, 40, .inl (fun _ => 0))), (ad 5, .inl (c3.1, 40, .inl (fun _ => 0))), (ad 6, .inl (c3.1, 40, .inl (fun _ => 0))), (ad 7, .inl (c3.1, 40, .inl (fun _ => 0))), (ad 8, .inl (c3.1, 40, .inl (fun _ => 0)))]
abbrev wX5_init_4_60 (c3 : C3) (ad : Nat → Nat) : va_W := [(ad 0, .inr (3, [.ref (ad 1), .ref (ad 2)])), (ad 1, .inl (c3.2.2, 4, .inr (.inr (.inr (.inr (fun i => some (ad (3 + i)))))))), (ad 2, .inl (c3.1, 4, .inl (fun t => if t < 4 then (-1) else 0))), (ad 3, .inl (c3.1, 60, .inl (fun _ => 0))), (ad 4, .inl (c3.1, 60, .inl (fun _ => 0))), (ad 5, .inl (c3.1, 60, .inl (fun _ => 0))), (ad 6, .inl (c3.1, 60, .inl (fun _ => 0)))]
abbrev wX5_init_3_40 (c3 : C3) (ad : Nat → Nat) : va_W := [(ad 0, .inr (3, [.ref (ad 1), .ref (ad 2)])), (ad 1, .inl (c3.2.2, 3, .inr (.inr (.inr (.inr (fun i => some (ad (3 + i)))))))), (ad 2, .inl (c3.1, 3, .inl (fun t => if t < 3 then (-1) else 0))), (ad 3, .inl (c3.1, 40, .inl (fun _ => 0))), (ad 4, .inl (c3.1, 40, .inl (fun _ => 0))), (ad 5, .inl (c3.1, 40, .inl (fun _ => 0)))]
def rmX5_init_6_40 : Room := { frames := 2, cells := 8, slots := 252, locals := 60 }
theorem iwI_X5_init_6_40 : ∀ w ∈ u_ws RX5 TX5 2, w ∈ wsX5_init := by decide +kernel
set_option maxHeartbeats 4000000 in
set_option maxRecDepth 100000 in
theorem ctX5_init_6_40 (l : Launch) (D : va_G) (c3 : C3) (h0 sz : Nat) : Met l yX5_init wsX5_init rmX5_init_6_40 (PI D c3 [.ref h0, .int 6, .int 40] [(h0, .inr (3, [.null, .null]))] sz (fun U => va_AOA .int U)) (va_Qv (fun ad : Nat → Nat => ad 0 = h0) (BI D (wX5_init_6_40 c3) (va_A [(h0, .inr (3, [.null, .null]))] sz)) (va_A [(h0, .inr (3, [.null, .null]))] sz)) 8 252 (va_A [(h0, .inr (3, [.null, .null]))] sz) := by
  refine Met.ofW (cc := cX5_init) (maxL := 3) (ret := none) (by decide) rfl ?_
  intro p e s m args below meth c s₁ B hml hv
  obtain ⟨rfl, hsz, hP, hK, hD0, hE⟩ := hv
  have hx := B.exec
  have hb := B.bytes
  have hr := B.returns
  have hts := atoms_spec (ws := wsX5_init) B.pre
  have hown : s.vm.findClass RX5 = some m.cls := findClass_of_methodNamed B.named
  have hlocks := B.notSynchronized
  have hin : meth.name = "<init>" := (name_of_methodNamed B.named B.method).1
  subst hsz
  have hD := hD0.self (sz := s.heap.size)
  generalize hAe : va_A [(h0, .inr (3, [.null, .null]))] s.heap.size = A at hD ⊢
  have hA : ∀ q : Nat, s.heap.size ≤ q → A q := fun q h => by rw [← hAe]; exact Or.inr h
  have hS : va_S A s.heap s.heap [] := va_S.rf
  have hl := lv_entry ([.ref h0, .int 6, .int 40]) (n := 3) (Nat.le_of_ble_eq_true rfl)
  rw [lg_entry_eq]
  generalize (lg_sl ([.ref h0, .int 6, .int 40]) ++ List.replicate (3 - (lg_sl ([.ref h0, .int 6, .int 40])).length) Slot.unset).toArray = ls at hl ⊢
  have hl : lv_has ls 3 [(0, .ref h0), (1, .int 6), (2, .int 40)] := hl
  have hP : va_P D vwCl ((h0, .inr (3, [.null, .null])) :: []) s.heap := hP
  have hD : va_D A ((h0, .inr (3, [.null, .null])) :: []) := hD
  refine lv_aload_n hx hb dX5_init_0 rfl (lv_at hl 0 rfl) ?_
  refine W.objInit hx hb hown (hts (.methodLink RX5 3 objectInit) (by decide +kernel)) (hts (.instanceMethod objectInit) (by decide +kernel)) (hts (.code objectInit ⟨#[0xb1]⟩ 1 none) (by decide +kernel)) rfl (by rw [hml]; exact hl.1) rfl dX5_init_1 (Nat.le_of_ble_eq_true rfl) (Nat.le_of_ble_eq_true rfl) ?_
  refine W.eq (g2 := F0 m 4 ls []) rfl ?_
  refine lv_aload_n hx hb dX5_init_4 rfl (lv_at hl 0 rfl) ?_
  refine lv_iload_n hx hb dX5_init_5 rfl (lv_at hl 1 rfl) ?_
  refine lv_iload_n hx hb dX5_init_6 rfl (lv_at hl 2 rfl) ?_
  refine va_mna (X := ((h0, .inr (3, [.null, .null])) :: [])) (L := []) (f := fun _ => .inl (c3.1, 0, .inl (fun _ => 0))) (ty := .int) (cy := c3.1) (N' := 6) (K' := 40) (z := (40, .inl (fun _ => 0))) hx hb hown (hts (.classLink RX5 9 "[[I") (by decide +kernel)) hE (hts (.arrayClass .int) (by decide +kernel)) (va_nm_int (hK.2 0 _ rfl).2) hK (by exact hP) (by exact hD) hS hA (by decide) (by decide) rfl rfl (by decide) (by decide) (by decide) rfl rfl (by show 0 + (1 + 6) ≤ 8; omega) (by show 0 + (6 + 6 * 40) ≤ 252; omega) (fun cA => by rw [vp_cell_i, ← arrV_new]; rfl) dX5_init_7 (fun q7 rr cA H hinj hnl hK1 hP hD hS => ?_)
  have ecA : cA = c3.2.2 := va_RA_ints (hK1.2 3 _ rfl).2 (hK.2 2 _ rfl).2
  subst ecA
  rw [← vr_rows (L := []) (fun a _ h => by cases h)] at hP hD
  refine W.widen (k := 7) (n := 246) (by omega) (by omega) ?_
  have hP : va_P D vwCl ((h0, .inr (3, [.null, .null])) :: [(q7, .inl (c3.2.2, 6, .inr (.inr (.inr (.inr (fun i => if i < 6 then some (rr i) else none)))))), (rr 0, .inl (c3.1, 40, .inl (fun _ => 0))), (rr 1, .inl (c3.1, 40, .inl (fun _ => 0))), (rr 2, .inl (c3.1, 40, .inl (fun _ => 0))), (rr 3, .inl (c3.1, 40, .inl (fun _ => 0))), (rr 4, .inl (c3.1, 40, .inl (fun _ => 0))), (rr 5, .inl (c3.1, 40, .inl (fun _ => 0)))]) H := hP
  have hD : va_D A ((h0, .inr (3, [.null, .null])) :: [(q7, .inl (c3.2.2, 6, .inr (.inr (.inr (.inr (fun i => if i < 6 then some (rr i) else none)))))), (rr 0, .inl (c3.1, 40, .inl (fun _ => 0))), (rr 1, .inl (c3.1, 40, .inl (fun _ => 0))), (rr 2, .inl (c3.1, 40, .inl (fun _ => 0))), (rr 3, .inl (c3.1, 40, .inl (fun _ => 0))), (rr 4, .inl (c3.1, 40, .inl (fun _ => 0))), (rr 5, .inl (c3.1, 40, .inl (fun _ => 0)))]) := hD
  refine va_putF (D := D) (ci := 3) (v := .ref q7) (ty := .array (.array .int)) (C := RX5) (T := TX5) (N := 2) hx hb hts iwI_X5_init_6_40 tyX5 tyX5_ok nmX5 hown hK hP hD hS 0 rfl rfl 0 (by decide) (hts (.fieldLink RX5 11 "StuckDoor$Rows" "places" "[[I") (by decide +kernel)) (fun _ h9 => h9) rfl hin rfl (by decide +kernel) rfl rfl (Nat.le_of_ble_eq_true rfl) dX5_init_11 (fun H locs hP hD hS => ?_)
  have hP : va_P D vwCl ((h0, .inr (3, [.ref q7, .null])) :: [(q7, .inl (c3.2.2, 6, .inr (.inr (.inr (.inr (fun i => if i < 6 then some (rr i) else none)))))), (rr 0, .inl (c3.1, 40, .inl (fun _ => 0))), (rr 1, .inl (c3.1, 40, .inl (fun _ => 0))), (rr 2, .inl (c3.1, 40, .inl (fun _ => 0))), (rr 3, .inl (c3.1, 40, .inl (fun _ => 0))), (rr 4, .inl (c3.1, 40, .inl (fun _ => 0))), (rr 5, .inl (c3.1, 40, .inl (fun _ => 0)))]) H := hP
  have hD : va_D A ((h0, .inr (3, [.ref q7, .null])) :: [(q7, .inl (c3.2.2, 6, .inr (.inr (.inr (.inr (fun i => if i < 6 then some (rr i) else none)))))), (rr 0, .inl (c3.1, 40, .inl (fun _ => 0))), (rr 1, .inl (c3.1, 40, .inl (fun _ => 0))), (rr 2, .inl (c3.1, 40, .inl (fun _ => 0))), (rr 3, .inl (c3.1, 40, .inl (fun _ => 0))), (rr 4, .inl (c3.1, 40, .inl (fun _ => 0))), (rr 5, .inl (c3.1, 40, .inl (fun _ => 0)))]) := hD
  refine lv_aload_n hx hb dX5_init_14 rfl (lv_at hl 0 rfl) ?_
  refine lv_iload_n hx hb dX5_init_15 rfl (lv_at hl 1 rfl) ?_
  refine y_newI (N := 6) hx hb (hts (.arrayClass .int) (by decide +kernel)) hK hP hD hS hA rfl (by decide) (by show 7 + 1 ≤ 8; omega) (by show 246 + 6 ≤ 252; omega) dX5_init_16 (fun q16 H hP hD hS => ?_)
  refine W.widen (k := 8) (n := 252) (by omega) (by omega) ?_
  have hP : va_P D vwCl ((h0, .inr (3, [.ref q7, .null])) :: [(q7, .inl (c3.2.2, 6, .inr (.inr (.inr (.inr (fun i => if i < 6 then some (rr i) else none)))))), (rr 0, .inl (c3.1, 40, .inl (fun _ => 0))), (rr 1, .inl (c3.1, 40, .inl (fun _ => 0))), (rr 2, .inl (c3.1, 40, .inl (fun _ => 0))), (rr 3, .inl (c3.1, 40, .inl (fun _ => 0))), (rr 4, .inl (c3.1, 40, .inl (fun _ => 0))), (rr 5, .inl (c3.1, 40, .inl (fun _ => 0))), (q16, .inl (c3.1, 6, .inl (fun _ => 0)))]) H := hP
  have hD : va_D A ((h0, .inr (3, [.ref q7, .null])) :: [(q7, .inl (c3.2.2, 6, .inr (.inr (.inr (.inr (fun i => if i < 6 then some (rr i) else none)))))), (rr 0, .inl (c3.1, 40, .inl (fun _ => 0))), (rr 1, .inl (c3.1, 40, .inl (fun _ => 0))), (rr 2, .inl (c3.1, 40, .inl (fun _ => 0))), (rr 3, .inl (c3.1, 40, .inl (fun _ => 0))), (rr 4, .inl (c3.1, 40, .inl (fun _ => 0))), (rr 5, .inl (c3.1, 40, .inl (fun _ => 0))), (q16, .inl (c3.1, 6, .inl (fun _ => 0)))]) := hD
  refine va_putF (D := D) (ci := 3) (v := .ref q16) (ty := .array .int) (C := RX5) (T := TX5) (N := 2) hx hb hts iwI_X5_init_6_40 tyX5 tyX5_ok nmX5 hown hK hP hD hS 0 rfl rfl 1 (by decide) (hts (.fieldLink RX5 16 "StuckDoor$Rows" "sizes" "[I") (by decide +kernel)) (fun _ h9 => h9) rfl hin rfl (by decide +kernel) rfl rfl (Nat.le_of_ble_eq_true rfl) dX5_init_18 (fun H locs hP hD hS => ?_)
  have hP : va_P D vwCl ((h0, .inr (3, [.ref q7, .ref q16])) :: [(q7, .inl (c3.2.2, 6, .inr (.inr (.inr (.inr (fun i => if i < 6 then some (rr i) else none)))))), (rr 0, .inl (c3.1, 40, .inl (fun _ => 0))), (rr 1, .inl (c3.1, 40, .inl (fun _ => 0))), (rr 2, .inl (c3.1, 40, .inl (fun _ => 0))), (rr 3, .inl (c3.1, 40, .inl (fun _ => 0))), (rr 4, .inl (c3.1, 40, .inl (fun _ => 0))), (rr 5, .inl (c3.1, 40, .inl (fun _ => 0))), (q16, .inl (c3.1, 6, .inl (fun _ => 0)))]) H := hP
  have hD : va_D A ((h0, .inr (3, [.ref q7, .ref q16])) :: [(q7, .inl (c3.2.2, 6, .inr (.inr (.inr (.inr (fun i => if i < 6 then some (rr i) else none)))))), (rr 0, .inl (c3.1, 40, .inl (fun _ => 0))), (rr 1, .inl (c3.1, 40, .inl (fun _ => 0))), (rr 2, .inl (c3.1, 40, .inl (fun _ => 0))), (rr 3, .inl (c3.1, 40, .inl (fun _ => 0))), (rr 4, .inl (c3.1, 40, .inl (fun _ => 0))), (rr 5, .inl (c3.1, 40, .inl (fun _ => 0))), (q16, .inl (c3.1, 6, .inl (fun _ => 0)))]) := hD
  refine lv_aload_n hx hb dX5_init_21 rfl (lv_at hl 0 rfl) ?_
  refine va_get (D := D) (ci := 3) (v := .ref q16) (C := RX5) (T := TX5) (N := 2) hx hb hts iwI_X5_init_6_40 hown hK hP 0 rfl rfl 1 (by decide) (hts (.fieldLink RX5 16 "StuckDoor$Rows" "sizes" "[I") (by decide +kernel)) (fun _ h9 => h9) rfl dX5_init_22 ?_
  refine lv_iconst (v := (-1)) hx hb dX5_init_25 (by decide) ?_
  have hPc := hP.sub (ws' := [(q16, .inl (c3.1, 6, .inl (fun _ => 0)))]) [8] rfl
  have hDc := hD.sub (ws' := [(q16, .inl (c3.1, 6, .inl (fun _ => 0)))]) [8] (by decide) rfl
  have hFc := va_free (wc := [(q16, .inl (c3.1, 6, .inl (fun _ => 0)))]) hD hS hA [8] rfl
  have hMf := ctFS l D c3 q16 6 wZ H.size (-1) _ (fFS_eq 6 (by decide) (-1) wZ)
  refine va_callv (va_runS (As := [.ref q16, .int (-1)]) (rest := []) ⟨hx, hb, hml, hown, hts⟩ hMf (va_cwS 2 hts gX5_init_J7_fill_53178 rfl rfl rfl (by decide +kernel) ⟨Nat.le_of_ble_eq_true rfl, Nat.le_of_ble_eq_true rfl⟩) ⟨PB_blind gM_ok, fun U hU hW => ⟨rfl, by rw [hU], by rw [hU]; exact hPc, KK.moved hW.alike hK, fun v => va_D_same (encS_ok c3 q16 6 wZ v) (D_to hDc), trivial⟩⟩ rfl rfl hl.1 rfl (lv_room (Nat.le_of_ble_eq_true rfl)) dX5_init_26 ⟨Nat.le_of_ble_eq_true rfl, Nat.le_of_ble_eq_true rfl⟩) hS (fun q _ h => hFc q h) hFc (fun u t H1 locs ht hvm hw hB hz1 hk1 hS => ?_)
  cases hw
  have hP1 : va_P D vwCl _ t.heap := hB
  rw [ht] at hP1
  have hD1 : va_D (va_A [(q16, .inl (c3.1, 6, .inl (fun _ => 0)))] H.size) [(q16, .inl (c3.1, 6, .inl (fun t => if t < 6 then (-1) else 0)))] := va_D_same (by exact rfl) hDc.self
  obtain ⟨hP, hD⟩ := va_join (wr := [(h0, .inr (3, [.ref q7, .ref q16])), (q7, .inl (c3.2.2, 6, .inr (.inr (.inr (.inr (fun i => if i < 6 then some (rr i) else none)))))), (rr 0, .inl (c3.1, 40, .inl (fun _ => 0))), (rr 1, .inl (c3.1, 40, .inl (fun _ => 0))), (rr 2, .inl (c3.1, 40, .inl (fun _ => 0))), (rr 3, .inl (c3.1, 40, .inl (fun _ => 0))), (rr 4, .inl (c3.1, 40, .inl (fun _ => 0))), (rr 5, .inl (c3.1, 40, .inl (fun _ => 0)))]) (w1 := [(q16, .inl (c3.1, 6, .inl (fun t => if t < 6 then (-1) else 0)))]) hP hD [8] [0, 1, 2, 3, 4, 5, 6, 7] rfl rfl (by decide) (by decide) hk1 hFc hP1 hD1
  generalize H1 = H at hP hS ⊢
  have hP : va_P D vwCl ((h0, .inr (3, [.ref q7, .ref q16])) :: [(q7, .inl (c3.2.2, 6, .inr (.inr (.inr (.inr (fun i => if i < 6 then some (rr i) else none)))))), (rr 0, .inl (c3.1, 40, .inl (fun _ => 0))), (rr 1, .inl (c3.1, 40, .inl (fun _ => 0))), (rr 2, .inl (c3.1, 40, .inl (fun _ => 0))), (rr 3, .inl (c3.1, 40, .inl (fun _ => 0))), (rr 4, .inl (c3.1, 40, .inl (fun _ => 0))), (rr 5, .inl (c3.1, 40, .inl (fun _ => 0))), (q16, .inl (c3.1, 6, .inl (fun t => if t < 6 then (-1) else 0)))]) H := hP
  have hD : va_D A ((h0, .inr (3, [.ref q7, .ref q16])) :: [(q7, .inl (c3.2.2, 6, .inr (.inr (.inr (.inr (fun i => if i < 6 then some (rr i) else none)))))), (rr 0, .inl (c3.1, 40, .inl (fun _ => 0))), (rr 1, .inl (c3.1, 40, .inl (fun _ => 0))), (rr 2, .inl (c3.1, 40, .inl (fun _ => 0))), (rr 3, .inl (c3.1, 40, .inl (fun _ => 0))), (rr 4, .inl (c3.1, 40, .inl (fun _ => 0))), (rr 5, .inl (c3.1, 40, .inl (fun _ => 0))), (q16, .inl (c3.1, 6, .inl (fun t => if t < 6 then (-1) else 0)))]) := hD
  have hP := hP.sub (ws' := [(h0, .inr (3, [.ref q7, .ref q16])), (q7, .inl (c3.2.2, 6, .inr (.inr (.inr (.inr (fun i => if i < 6 then some (rr i) else none)))))), (q16, .inl (c3.1, 6, .inl (fun t => if t < 6 then (-1) else 0))), (rr 0, .inl (c3.1, 40, .inl (fun _ => 0))), (rr 1, .inl (c3.1, 40, .inl (fun _ => 0))), (rr 2, .inl (c3.1, 40, .inl (fun _ => 0))), (rr 3, .inl (c3.1, 40, .inl (fun _ => 0))), (rr 4, .inl (c3.1, 40, .inl (fun _ => 0))), (rr 5, .inl (c3.1, 40, .inl (fun _ => 0)))]) [0, 1, 8, 2, 3, 4, 5, 6, 7] rfl
  have hD := hD.sub (ws' := [(h0, .inr (3, [.ref q7, .ref q16])), (q7, .inl (c3.2.2, 6, .inr (.inr (.inr (.inr (fun i => if i < 6 then some (rr i) else none)))))), (q16, .inl (c3.1, 6, .inl (fun t => if t < 6 then (-1) else 0))), (rr 0, .inl (c3.1, 40, .inl (fun _ => 0))), (rr 1, .inl (c3.1, 40, .inl (fun _ => 0))), (rr 2, .inl (c3.1, 40, .inl (fun _ => 0))), (rr 3, .inl (c3.1, 40, .inl (fun _ => 0))), (rr 4, .inl (c3.1, 40, .inl (fun _ => 0))), (rr 5, .inl (c3.1, 40, .inl (fun _ => 0)))]) [0, 1, 8, 2, 3, 4, 5, 6, 7] (by decide) rfl
  have hP : va_P D vwCl (wX5_init_6_40 c3 (lkA [h0, q7, q16, rr 0, rr 1, rr 2, rr 3, rr 4, rr 5])) H := va_ren hP (k := 1) rfl (g := fun i => some (lkA [h0, q7, q16, rr 0, rr 1, rr 2, rr 3, rr 4, rr 5] (3 + i))) (fun i hi => by rcases (show i = 0 ∨ i = 1 ∨ i = 2 ∨ i = 3 ∨ i = 4 ∨ i = 5 by omega) with rfl | rfl | rfl | rfl | rfl | rfl <;> rfl)
  have hD : va_D A (wX5_init_6_40 c3 (lkA [h0, q7, q16, rr 0, rr 1, rr 2, rr 3, rr 4, rr 5])) := va_D_same (by exact rfl) hD
  refine W.widen (k := 8) (n := 252) (by omega) (by omega) ?_
  exact W.vret hx hb hr (fun t ht hW => ⟨⟨lkA [h0, q7, q16, rr 0, rr 1, rr 2, rr 3, rr 4, rr 5], rfl, rfl, by rw [ht]; exact hP, hD⟩, hS.F ht⟩) hS.2.2 dX5_init_29
def rmX5_init_4_60 : Room := { frames := 2, cells := 6, slots := 248, locals := 60 }
set_option maxHeartbeats 4000000 in
set_option maxRecDepth 100000 in
theorem ctX5_init_4_60 (l : Launch) (D : va_G) (c3 : C3) (h0 sz : Nat) : Met l yX5_init wsX5_init rmX5_init_4_60 (PI D c3 [.ref h0, .int 4, .int 60] [(h0, .inr (3, [.null, .null]))] sz (fun U => va_AOA .int U)) (va_Qv (fun ad : Nat → Nat => ad 0 = h0) (BI D (wX5_init_4_60 c3) (va_A [(h0, .inr (3, [.null, .null]))] sz)) (va_A [(h0, .inr (3, [.null, .null]))] sz)) 6 248 (va_A [(h0, .inr (3, [.null, .null]))] sz) := by
  refine Met.ofW (cc := cX5_init) (maxL := 3) (ret := none) (by decide) rfl ?_
  intro p e s m args below meth c s₁ B hml hv
  obtain ⟨rfl, hsz, hP, hK, hD0, hE⟩ := hv
  have hx := B.exec
  have hb := B.bytes
  have hr := B.returns
  have hts := atoms_spec (ws := wsX5_init) B.pre
  have hown : s.vm.findClass RX5 = some m.cls := findClass_of_methodNamed B.named
  have hlocks := B.notSynchronized
  have hin : meth.name = "<init>" := (name_of_methodNamed B.named B.method).1
  subst hsz
  have hD := hD0.self (sz := s.heap.size)
  generalize hAe : va_A [(h0, .inr (3, [.null, .null]))] s.heap.size = A at hD ⊢
  have hA : ∀ q : Nat, s.heap.size ≤ q → A q := fun q h => by rw [← hAe]; exact Or.inr h
  have hS : va_S A s.heap s.heap [] := va_S.rf
  have hl := lv_entry ([.ref h0, .int 4, .int 60]) (n := 3) (Nat.le_of_ble_eq_true rfl)
  rw [lg_entry_eq]
  generalize (lg_sl ([.ref h0, .int 4, .int 60]) ++ List.replicate (3 - (lg_sl ([.ref h0, .int 4, .int 60])).length) Slot.unset).toArray = ls at hl ⊢
  have hl : lv_has ls 3 [(0, .ref h0), (1, .int 4), (2, .int 60)] := hl
  have hP : va_P D vwCl ((h0, .inr (3, [.null, .null])) :: []) s.heap := hP
  have hD : va_D A ((h0, .inr (3, [.null, .null])) :: []) := hD
  refine lv_aload_n hx hb dX5_init_0 rfl (lv_at hl 0 rfl) ?_
  refine W.objInit hx hb hown (hts (.methodLink RX5 3 objectInit) (by decide +kernel)) (hts (.instanceMethod objectInit) (by decide +kernel)) (hts (.code objectInit ⟨#[0xb1]⟩ 1 none) (by decide +kernel)) rfl (by rw [hml]; exact hl.1) rfl dX5_init_1 (Nat.le_of_ble_eq_true rfl) (Nat.le_of_ble_eq_true rfl) ?_
  refine W.eq (g2 := F0 m 4 ls []) rfl ?_
  refine lv_aload_n hx hb dX5_init_4 rfl (lv_at hl 0 rfl) ?_
  refine lv_iload_n hx hb dX5_init_5 rfl (lv_at hl 1 rfl) ?_
  refine lv_iload_n hx hb dX5_init_6 rfl (lv_at hl 2 rfl) ?_
  refine va_mna (X := ((h0, .inr (3, [.null, .null])) :: [])) (L := []) (f := fun _ => .inl (c3.1, 0, .inl (fun _ => 0))) (ty := .int) (cy := c3.1) (N' := 4) (K' := 60) (z := (60, .inl (fun _ => 0))) hx hb hown (hts (.classLink RX5 9 "[[I") (by decide +kernel)) hE (hts (.arrayClass .int) (by decide +kernel)) (va_nm_int (hK.2 0 _ rfl).2) hK (by exact hP) (by exact hD) hS hA (by decide) (by decide) rfl rfl (by decide) (by decide) (by decide) rfl rfl (by show 0 + (1 + 4) ≤ 6; omega) (by show 0 + (4 + 4 * 60) ≤ 248; omega) (fun cA => by rw [vp_cell_i, ← arrV_new]; rfl) dX5_init_7 (fun q7 rr cA H hinj hnl hK1 hP hD hS => ?_)
  have ecA : cA = c3.2.2 := va_RA_ints (hK1.2 3 _ rfl).2 (hK.2 2 _ rfl).2
  subst ecA
  rw [← vr_rows (L := []) (fun a _ h => by cases h)] at hP hD
  refine W.widen (k := 5) (n := 244) (by omega) (by omega) ?_
  have hP : va_P D vwCl ((h0, .inr (3, [.null, .null])) :: [(q7, .inl (c3.2.2, 4, .inr (.inr (.inr (.inr (fun i => if i < 4 then some (rr i) else none)))))), (rr 0, .inl (c3.1, 60, .inl (fun _ => 0))), (rr 1, .inl (c3.1, 60, .inl (fun _ => 0))), (rr 2, .inl (c3.1, 60, .inl (fun _ => 0))), (rr 3, .inl (c3.1, 60, .inl (fun _ => 0)))]) H := hP
  have hD : va_D A ((h0, .inr (3, [.null, .null])) :: [(q7, .inl (c3.2.2, 4, .inr (.inr (.inr (.inr (fun i => if i < 4 then some (rr i) else none)))))), (rr 0, .inl (c3.1, 60, .inl (fun _ => 0))), (rr 1, .inl (c3.1, 60, .inl (fun _ => 0))), (rr 2, .inl (c3.1, 60, .inl (fun _ => 0))), (rr 3, .inl (c3.1, 60, .inl (fun _ => 0)))]) := hD
  refine va_putF (D := D) (ci := 3) (v := .ref q7) (ty := .array (.array .int)) (C := RX5) (T := TX5) (N := 2) hx hb hts iwI_X5_init_6_40 tyX5 tyX5_ok nmX5 hown hK hP hD hS 0 rfl rfl 0 (by decide) (hts (.fieldLink RX5 11 "StuckDoor$Rows" "places" "[[I") (by decide +kernel)) (fun _ h9 => h9) rfl hin rfl (by decide +kernel) rfl rfl (Nat.le_of_ble_eq_true rfl) dX5_init_11 (fun H locs hP hD hS => ?_)
  have hP : va_P D vwCl ((h0, .inr (3, [.ref q7, .null])) :: [(q7, .inl (c3.2.2, 4, .inr (.inr (.inr (.inr (fun i => if i < 4 then some (rr i) else none)))))), (rr 0, .inl (c3.1, 60, .inl (fun _ => 0))), (rr 1, .inl (c3.1, 60, .inl (fun _ => 0))), (rr 2, .inl (c3.1, 60, .inl (fun _ => 0))), (rr 3, .inl (c3.1, 60, .inl (fun _ => 0)))]) H := hP
  have hD : va_D A ((h0, .inr (3, [.ref q7, .null])) :: [(q7, .inl (c3.2.2, 4, .inr (.inr (.inr (.inr (fun i => if i < 4 then some (rr i) else none)))))), (rr 0, .inl (c3.1, 60, .inl (fun _ => 0))), (rr 1, .inl (c3.1, 60, .inl (fun _ => 0))), (rr 2, .inl (c3.1, 60, .inl (fun _ => 0))), (rr 3, .inl (c3.1, 60, .inl (fun _ => 0)))]) := hD
  refine lv_aload_n hx hb dX5_init_14 rfl (lv_at hl 0 rfl) ?_
  refine lv_iload_n hx hb dX5_init_15 rfl (lv_at hl 1 rfl) ?_
  refine y_newI (N := 4) hx hb (hts (.arrayClass .int) (by decide +kernel)) hK hP hD hS hA rfl (by decide) (by show 5 + 1 ≤ 6; omega) (by show 244 + 4 ≤ 248; omega) dX5_init_16 (fun q16 H hP hD hS => ?_)
  refine W.widen (k := 6) (n := 248) (by omega) (by omega) ?_
  have hP : va_P D vwCl ((h0, .inr (3, [.ref q7, .null])) :: [(q7, .inl (c3.2.2, 4, .inr (.inr (.inr (.inr (fun i => if i < 4 then some (rr i) else none)))))), (rr 0, .inl (c3.1, 60, .inl (fun _ => 0))), (rr 1, .inl (c3.1, 60, .inl (fun _ => 0))), (rr 2, .inl (c3.1, 60, .inl (fun _ => 0))), (rr 3, .inl (c3.1, 60, .inl (fun _ => 0))), (q16, .inl (c3.1, 4, .inl (fun _ => 0)))]) H := hP
  have hD : va_D A ((h0, .inr (3, [.ref q7, .null])) :: [(q7, .inl (c3.2.2, 4, .inr (.inr (.inr (.inr (fun i => if i < 4 then some (rr i) else none)))))), (rr 0, .inl (c3.1, 60, .inl (fun _ => 0))), (rr 1, .inl (c3.1, 60, .inl (fun _ => 0))), (rr 2, .inl (c3.1, 60, .inl (fun _ => 0))), (rr 3, .inl (c3.1, 60, .inl (fun _ => 0))), (q16, .inl (c3.1, 4, .inl (fun _ => 0)))]) := hD
  refine va_putF (D := D) (ci := 3) (v := .ref q16) (ty := .array .int) (C := RX5) (T := TX5) (N := 2) hx hb hts iwI_X5_init_6_40 tyX5 tyX5_ok nmX5 hown hK hP hD hS 0 rfl rfl 1 (by decide) (hts (.fieldLink RX5 16 "StuckDoor$Rows" "sizes" "[I") (by decide +kernel)) (fun _ h9 => h9) rfl hin rfl (by decide +kernel) rfl rfl (Nat.le_of_ble_eq_true rfl) dX5_init_18 (fun H locs hP hD hS => ?_)
  have hP : va_P D vwCl ((h0, .inr (3, [.ref q7, .ref q16])) :: [(q7, .inl (c3.2.2, 4, .inr (.inr (.inr (.inr (fun i => if i < 4 then some (rr i) else none)))))), (rr 0, .inl (c3.1, 60, .inl (fun _ => 0))), (rr 1, .inl (c3.1, 60, .inl (fun _ => 0))), (rr 2, .inl (c3.1, 60, .inl (fun _ => 0))), (rr 3, .inl (c3.1, 60, .inl (fun _ => 0))), (q16, .inl (c3.1, 4, .inl (fun _ => 0)))]) H := hP
  have hD : va_D A ((h0, .inr (3, [.ref q7, .ref q16])) :: [(q7, .inl (c3.2.2, 4, .inr (.inr (.inr (.inr (fun i => if i < 4 then some (rr i) else none)))))), (rr 0, .inl (c3.1, 60, .inl (fun _ => 0))), (rr 1, .inl (c3.1, 60, .inl (fun _ => 0))), (rr 2, .inl (c3.1, 60, .inl (fun _ => 0))), (rr 3, .inl (c3.1, 60, .inl (fun _ => 0))), (q16, .inl (c3.1, 4, .inl (fun _ => 0)))]) := hD
  refine lv_aload_n hx hb dX5_init_21 rfl (lv_at hl 0 rfl) ?_
  refine va_get (D := D) (ci := 3) (v := .ref q16) (C := RX5) (T := TX5) (N := 2) hx hb hts iwI_X5_init_6_40 hown hK hP 0 rfl rfl 1 (by decide) (hts (.fieldLink RX5 16 "StuckDoor$Rows" "sizes" "[I") (by decide +kernel)) (fun _ h9 => h9) rfl dX5_init_22 ?_
  refine lv_iconst (v := (-1)) hx hb dX5_init_25 (by decide) ?_
  have hPc := hP.sub (ws' := [(q16, .inl (c3.1, 4, .inl (fun _ => 0)))]) [6] rfl
  have hDc := hD.sub (ws' := [(q16, .inl (c3.1, 4, .inl (fun _ => 0)))]) [6] (by decide) rfl
  have hFc := va_free (wc := [(q16, .inl (c3.1, 4, .inl (fun _ => 0)))]) hD hS hA [6] rfl
  have hMf := ctFS l D c3 q16 4 wZ H.size (-1) _ (fFS_eq 4 (by decide) (-1) wZ)
  refine va_callv (va_runS (As := [.ref q16, .int (-1)]) (rest := []) ⟨hx, hb, hml, hown, hts⟩ hMf (va_cwS 2 hts gX5_init_J7_fill_53178 rfl rfl rfl (by decide +kernel) ⟨Nat.le_of_ble_eq_true rfl, Nat.le_of_ble_eq_true rfl⟩) ⟨PB_blind gM_ok, fun U hU hW => ⟨rfl, by rw [hU], by rw [hU]; exact hPc, KK.moved hW.alike hK, fun v => va_D_same (encS_ok c3 q16 4 wZ v) (D_to hDc), trivial⟩⟩ rfl rfl hl.1 rfl (lv_room (Nat.le_of_ble_eq_true rfl)) dX5_init_26 ⟨Nat.le_of_ble_eq_true rfl, Nat.le_of_ble_eq_true rfl⟩) hS (fun q _ h => hFc q h) hFc (fun u t H1 locs ht hvm hw hB hz1 hk1 hS => ?_)
  cases hw
  have hP1 : va_P D vwCl _ t.heap := hB
  rw [ht] at hP1
  have hD1 : va_D (va_A [(q16, .inl (c3.1, 4, .inl (fun _ => 0)))] H.size) [(q16, .inl (c3.1, 4, .inl (fun t => if t < 4 then (-1) else 0)))] := va_D_same (by exact rfl) hDc.self
  obtain ⟨hP, hD⟩ := va_join (wr := [(h0, .inr (3, [.ref q7, .ref q16])), (q7, .inl (c3.2.2, 4, .inr (.inr (.inr (.inr (fun i => if i < 4 then some (rr i) else none)))))), (rr 0, .inl (c3.1, 60, .inl (fun _ => 0))), (rr 1, .inl (c3.1, 60, .inl (fun _ => 0))), (rr 2, .inl (c3.1, 60, .inl (fun _ => 0))), (rr 3, .inl (c3.1, 60, .inl (fun _ => 0)))]) (w1 := [(q16, .inl (c3.1, 4, .inl (fun t => if t < 4 then (-1) else 0)))]) hP hD [6] [0, 1, 2, 3, 4, 5] rfl rfl (by decide) (by decide) hk1 hFc hP1 hD1
  generalize H1 = H at hP hS ⊢
  have hP : va_P D vwCl ((h0, .inr (3, [.ref q7, .ref q16])) :: [(q7, .inl (c3.2.2, 4, .inr (.inr (.inr (.inr (fun i => if i < 4 then some (rr i) else none)))))), (rr 0, .inl (c3.1, 60, .inl (fun _ => 0))), (rr 1, .inl (c3.1, 60, .inl (fun _ => 0))), (rr 2, .inl (c3.1, 60, .inl (fun _ => 0))), (rr 3, .inl (c3.1, 60, .inl (fun _ => 0))), (q16, .inl (c3.1, 4, .inl (fun t => if t < 4 then (-1) else 0)))]) H := hP
  have hD : va_D A ((h0, .inr (3, [.ref q7, .ref q16])) :: [(q7, .inl (c3.2.2, 4, .inr (.inr (.inr (.inr (fun i => if i < 4 then some (rr i) else none)))))), (rr 0, .inl (c3.1, 60, .inl (fun _ => 0))), (rr 1, .inl (c3.1, 60, .inl (fun _ => 0))), (rr 2, .inl (c3.1, 60, .inl (fun _ => 0))), (rr 3, .inl (c3.1, 60, .inl (fun _ => 0))), (q16, .inl (c3.1, 4, .inl (fun t => if t < 4 then (-1) else 0)))]) := hD
  have hP := hP.sub (ws' := [(h0, .inr (3, [.ref q7, .ref q16])), (q7, .inl (c3.2.2, 4, .inr (.inr (.inr (.inr (fun i => if i < 4 then some (rr i) else none)))))), (q16, .inl (c3.1, 4, .inl (fun t => if t < 4 then (-1) else 0))), (rr 0, .inl (c3.1, 60, .inl (fun _ => 0))), (rr 1, .inl (c3.1, 60, .inl (fun _ => 0))), (rr 2, .inl (c3.1, 60, .inl (fun _ => 0))), (rr 3, .inl (c3.1, 60, .inl (fun _ => 0)))]) [0, 1, 6, 2, 3, 4, 5] rfl
  have hD := hD.sub (ws' := [(h0, .inr (3, [.ref q7, .ref q16])), (q7, .inl (c3.2.2, 4, .inr (.inr (.inr (.inr (fun i => if i < 4 then some (rr i) else none)))))), (q16, .inl (c3.1, 4, .inl (fun t => if t < 4 then (-1) else 0))), (rr 0, .inl (c3.1, 60, .inl (fun _ => 0))), (rr 1, .inl (c3.1, 60, .inl (fun _ => 0))), (rr 2, .inl (c3.1, 60, .inl (fun _ => 0))), (rr 3, .inl (c3.1, 60, .inl (fun _ => 0)))]) [0, 1, 6, 2, 3, 4, 5] (by decide) rfl
  have hP : va_P D vwCl (wX5_init_4_60 c3 (lkA [h0, q7, q16, rr 0, rr 1, rr 2, rr 3])) H := va_ren hP (k := 1) rfl (g := fun i => some (lkA [h0, q7, q16, rr 0, rr 1, rr 2, rr 3] (3 + i))) (fun i hi => by rcases (show i = 0 ∨ i = 1 ∨ i = 2 ∨ i = 3 by omega) with rfl | rfl | rfl | rfl <;> rfl)
  have hD : va_D A (wX5_init_4_60 c3 (lkA [h0, q7, q16, rr 0, rr 1, rr 2, rr 3])) := va_D_same (by exact rfl) hD
  refine W.widen (k := 6) (n := 248) (by omega) (by omega) ?_
  exact W.vret hx hb hr (fun t ht hW => ⟨⟨lkA [h0, q7, q16, rr 0, rr 1, rr 2, rr 3], rfl, rfl, by rw [ht]; exact hP, hD⟩, hS.F ht⟩) hS.2.2 dX5_init_29
def rmX5_init_3_40 : Room := { frames := 2, cells := 5, slots := 126, locals := 60 }
set_option maxHeartbeats 4000000 in
set_option maxRecDepth 100000 in
theorem ctX5_init_3_40 (l : Launch) (D : va_G) (c3 : C3) (h0 sz : Nat) : Met l yX5_init wsX5_init rmX5_init_3_40 (PI D c3 [.ref h0, .int 3, .int 40] [(h0, .inr (3, [.null, .null]))] sz (fun U => va_AOA .int U)) (va_Qv (fun ad : Nat → Nat => ad 0 = h0) (BI D (wX5_init_3_40 c3) (va_A [(h0, .inr (3, [.null, .null]))] sz)) (va_A [(h0, .inr (3, [.null, .null]))] sz)) 5 126 (va_A [(h0, .inr (3, [.null, .null]))] sz) := by
  refine Met.ofW (cc := cX5_init) (maxL := 3) (ret := none) (by decide) rfl ?_
  intro p e s m args below meth c s₁ B hml hv
  obtain ⟨rfl, hsz, hP, hK, hD0, hE⟩ := hv
  have hx := B.exec
  have hb := B.bytes
  have hr := B.returns
  have hts := atoms_spec (ws := wsX5_init) B.pre
  have hown : s.vm.findClass RX5 = some m.cls := findClass_of_methodNamed B.named
  have hlocks := B.notSynchronized
  have hin : meth.name = "<init>" := (name_of_methodNamed B.named B.method).1
  subst hsz
  have hD := hD0.self (sz := s.heap.size)
  generalize hAe : va_A [(h0, .inr (3, [.null, .null]))] s.heap.size = A at hD ⊢
  have hA : ∀ q : Nat, s.heap.size ≤ q → A q := fun q h => by rw [← hAe]; exact Or.inr h
  have hS : va_S A s.heap s.heap [] := va_S.rf
  have hl := lv_entry ([.ref h0, .int 3, .int 40]) (n := 3) (Nat.le_of_ble_eq_true rfl)
  rw [lg_entry_eq]
  generalize (lg_sl ([.ref h0, .int 3, .int 40]) ++ List.replicate (3 - (lg_sl ([.ref h0, .int 3, .int 40])).length) Slot.unset).toArray = ls at hl ⊢
  have hl : lv_has ls 3 [(0, .ref h0), (1, .int 3), (2, .int 40)] := hl
  have hP : va_P D vwCl ((h0, .inr (3, [.null, .null])) :: []) s.heap := hP
  have hD : va_D A ((h0, .inr (3, [.null, .null])) :: []) := hD
  refine lv_aload_n hx hb dX5_init_0 rfl (lv_at hl 0 rfl) ?_
  refine W.objInit hx hb hown (hts (.methodLink RX5 3 objectInit) (by decide +kernel)) (hts (.instanceMethod objectInit) (by decide +kernel)) (hts (.code objectInit ⟨#[0xb1]⟩ 1 none) (by decide +kernel)) rfl (by rw [hml]; exact hl.1) rfl dX5_init_1 (Nat.le_of_ble_eq_true rfl) (Nat.le_of_ble_eq_true rfl) ?_
  refine W.eq (g2 := F0 m 4 ls []) rfl ?_
  refine lv_aload_n hx hb dX5_init_4 rfl (lv_at hl 0 rfl) ?_
  refine lv_iload_n hx hb dX5_init_5 rfl (lv_at hl 1 rfl) ?_
  refine lv_iload_n hx hb dX5_init_6 rfl (lv_at hl 2 rfl) ?_
  refine va_mna (X := ((h0, .inr (3, [.null, .null])) :: [])) (L := []) (f := fun _ => .inl (c3.1, 0, .inl (fun _ => 0))) (ty := .int) (cy := c3.1) (N' := 3) (K' := 40) (z := (40, .inl (fun _ => 0))) hx hb hown (hts (.classLink RX5 9 "[[I") (by decide +kernel)) hE (hts (.arrayClass .int) (by decide +kernel)) (va_nm_int (hK.2 0 _ rfl).2) hK (by exact hP) (by exact hD) hS hA (by decide) (by decide) rfl rfl (by decide) (by decide) (by decide) rfl rfl (by show 0 + (1 + 3) ≤ 5; omega) (by show 0 + (3 + 3 * 40) ≤ 126; omega) (fun cA => by rw [vp_cell_i, ← arrV_new]; rfl) dX5_init_7 (fun q7 rr cA H hinj hnl hK1 hP hD hS => ?_)
  have ecA : cA = c3.2.2 := va_RA_ints (hK1.2 3 _ rfl).2 (hK.2 2 _ rfl).2
  subst ecA
  rw [← vr_rows (L := []) (fun a _ h => by cases h)] at hP hD
  refine W.widen (k := 4) (n := 123) (by omega) (by omega) ?_
  have hP : va_P D vwCl ((h0, .inr (3, [.null, .null])) :: [(q7, .inl (c3.2.2, 3, .inr (.inr (.inr (.inr (fun i => if i < 3 then some (rr i) else none)))))), (rr 0, .inl (c3.1, 40, .inl (fun _ => 0))), (rr 1, .inl (c3.1, 40, .inl (fun _ => 0))), (rr 2, .inl (c3.1, 40, .inl (fun _ => 0)))]) H := hP
  have hD : va_D A ((h0, .inr (3, [.null, .null])) :: [(q7, .inl (c3.2.2, 3, .inr (.inr (.inr (.inr (fun i => if i < 3 then some (rr i) else none)))))), (rr 0, .inl (c3.1, 40, .inl (fun _ => 0))), (rr 1, .inl (c3.1, 40, .inl (fun _ => 0))), (rr 2, .inl (c3.1, 40, .inl (fun _ => 0)))]) := hD
  refine va_putF (D := D) (ci := 3) (v := .ref q7) (ty := .array (.array .int)) (C := RX5) (T := TX5) (N := 2) hx hb hts iwI_X5_init_6_40 tyX5 tyX5_ok nmX5 hown hK hP hD hS 0 rfl rfl 0 (by decide) (hts (.fieldLink RX5 11 "StuckDoor$Rows" "places" "[[I") (by decide +kernel)) (fun _ h9 => h9) rfl hin rfl (by decide +kernel) rfl rfl (Nat.le_of_ble_eq_true rfl) dX5_init_11 (fun H locs hP hD hS => ?_)
  have hP : va_P D vwCl ((h0, .inr (3, [.ref q7, .null])) :: [(q7, .inl (c3.2.2, 3, .inr (.inr (.inr (.inr (fun i => if i < 3 then some (rr i) else none)))))), (rr 0, .inl (c3.1, 40, .inl (fun _ => 0))), (rr 1, .inl (c3.1, 40, .inl (fun _ => 0))), (rr 2, .inl (c3.1, 40, .inl (fun _ => 0)))]) H := hP
  have hD : va_D A ((h0, .inr (3, [.ref q7, .null])) :: [(q7, .inl (c3.2.2, 3, .inr (.inr (.inr (.inr (fun i => if i < 3 then some (rr i) else none)))))), (rr 0, .inl (c3.1, 40, .inl (fun _ => 0))), (rr 1, .inl (c3.1, 40, .inl (fun _ => 0))), (rr 2, .inl (c3.1, 40, .inl (fun _ => 0)))]) := hD
  refine lv_aload_n hx hb dX5_init_14 rfl (lv_at hl 0 rfl) ?_
  refine lv_iload_n hx hb dX5_init_15 rfl (lv_at hl 1 rfl) ?_
  refine y_newI (N := 3) hx hb (hts (.arrayClass .int) (by decide +kernel)) hK hP hD hS hA rfl (by decide) (by show 4 + 1 ≤ 5; omega) (by show 123 + 3 ≤ 126; omega) dX5_init_16 (fun q16 H hP hD hS => ?_)
  refine W.widen (k := 5) (n := 126) (by omega) (by omega) ?_
  have hP : va_P D vwCl ((h0, .inr (3, [.ref q7, .null])) :: [(q7, .inl (c3.2.2, 3, .inr (.inr (.inr (.inr (fun i => if i < 3 then some (rr i) else none)))))), (rr 0, .inl (c3.1, 40, .inl (fun _ => 0))), (rr 1, .inl (c3.1, 40, .inl (fun _ => 0))), (rr 2, .inl (c3.1, 40, .inl (fun _ => 0))), (q16, .inl (c3.1, 3, .inl (fun _ => 0)))]) H := hP
  have hD : va_D A ((h0, .inr (3, [.ref q7, .null])) :: [(q7, .inl (c3.2.2, 3, .inr (.inr (.inr (.inr (fun i => if i < 3 then some (rr i) else none)))))), (rr 0, .inl (c3.1, 40, .inl (fun _ => 0))), (rr 1, .inl (c3.1, 40, .inl (fun _ => 0))), (rr 2, .inl (c3.1, 40, .inl (fun _ => 0))), (q16, .inl (c3.1, 3, .inl (fun _ => 0)))]) := hD
  refine va_putF (D := D) (ci := 3) (v := .ref q16) (ty := .array .int) (C := RX5) (T := TX5) (N := 2) hx hb hts iwI_X5_init_6_40 tyX5 tyX5_ok nmX5 hown hK hP hD hS 0 rfl rfl 1 (by decide) (hts (.fieldLink RX5 16 "StuckDoor$Rows" "sizes" "[I") (by decide +kernel)) (fun _ h9 => h9) rfl hin rfl (by decide +kernel) rfl rfl (Nat.le_of_ble_eq_true rfl) dX5_init_18 (fun H locs hP hD hS => ?_)
  have hP : va_P D vwCl ((h0, .inr (3, [.ref q7, .ref q16])) :: [(q7, .inl (c3.2.2, 3, .inr (.inr (.inr (.inr (fun i => if i < 3 then some (rr i) else none)))))), (rr 0, .inl (c3.1, 40, .inl (fun _ => 0))), (rr 1, .inl (c3.1, 40, .inl (fun _ => 0))), (rr 2, .inl (c3.1, 40, .inl (fun _ => 0))), (q16, .inl (c3.1, 3, .inl (fun _ => 0)))]) H := hP
  have hD : va_D A ((h0, .inr (3, [.ref q7, .ref q16])) :: [(q7, .inl (c3.2.2, 3, .inr (.inr (.inr (.inr (fun i => if i < 3 then some (rr i) else none)))))), (rr 0, .inl (c3.1, 40, .inl (fun _ => 0))), (rr 1, .inl (c3.1, 40, .inl (fun _ => 0))), (rr 2, .inl (c3.1, 40, .inl (fun _ => 0))), (q16, .inl (c3.1, 3, .inl (fun _ => 0)))]) := hD
  refine lv_aload_n hx hb dX5_init_21 rfl (lv_at hl 0 rfl) ?_
  refine va_get (D := D) (ci := 3) (v := .ref q16) (C := RX5) (T := TX5) (N := 2) hx hb hts iwI_X5_init_6_40 hown hK hP 0 rfl rfl 1 (by decide) (hts (.fieldLink RX5 16 "StuckDoor$Rows" "sizes" "[I") (by decide +kernel)) (fun _ h9 => h9) rfl dX5_init_22 ?_
  refine lv_iconst (v := (-1)) hx hb dX5_init_25 (by decide) ?_
  have hPc := hP.sub (ws' := [(q16, .inl (c3.1, 3, .inl (fun _ => 0)))]) [5] rfl
  have hDc := hD.sub (ws' := [(q16, .inl (c3.1, 3, .inl (fun _ => 0)))]) [5] (by decide) rfl
  have hFc := va_free (wc := [(q16, .inl (c3.1, 3, .inl (fun _ => 0)))]) hD hS hA [5] rfl
  have hMf := ctFS l D c3 q16 3 wZ H.size (-1) _ (fFS_eq 3 (by decide) (-1) wZ)
  refine va_callv (va_runS (As := [.ref q16, .int (-1)]) (rest := []) ⟨hx, hb, hml, hown, hts⟩ hMf (va_cwS 2 hts gX5_init_J7_fill_53178 rfl rfl rfl (by decide +kernel) ⟨Nat.le_of_ble_eq_true rfl, Nat.le_of_ble_eq_true rfl⟩) ⟨PB_blind gM_ok, fun U hU hW => ⟨rfl, by rw [hU], by rw [hU]; exact hPc, KK.moved hW.alike hK, fun v => va_D_same (encS_ok c3 q16 3 wZ v) (D_to hDc), trivial⟩⟩ rfl rfl hl.1 rfl (lv_room (Nat.le_of_ble_eq_true rfl)) dX5_init_26 ⟨Nat.le_of_ble_eq_true rfl, Nat.le_of_ble_eq_true rfl⟩) hS (fun q _ h => hFc q h) hFc (fun u t H1 locs ht hvm hw hB hz1 hk1 hS => ?_)
  cases hw
  have hP1 : va_P D vwCl _ t.heap := hB
  rw [ht] at hP1
  have hD1 : va_D (va_A [(q16, .inl (c3.1, 3, .inl (fun _ => 0)))] H.size) [(q16, .inl (c3.1, 3, .inl (fun t => if t < 3 then (-1) else 0)))] := va_D_same (by exact rfl) hDc.self
  obtain ⟨hP, hD⟩ := va_join (wr := [(h0, .inr (3, [.ref q7, .ref q16])), (q7, .inl (c3.2.2, 3, .inr (.inr (.inr (.inr (fun i => if i < 3 then some (rr i) else none)))))), (rr 0, .inl (c3.1, 40, .inl (fun _ => 0))), (rr 1, .inl (c3.1, 40, .inl (fun _ => 0))), (rr 2, .inl (c3.1, 40, .inl (fun _ => 0)))]) (w1 := [(q16, .inl (c3.1, 3, .inl (fun t => if t < 3 then (-1) else 0)))]) hP hD [5] [0, 1, 2, 3, 4] rfl rfl (by decide) (by decide) hk1 hFc hP1 hD1
  generalize H1 = H at hP hS ⊢
  have hP : va_P D vwCl ((h0, .inr (3, [.ref q7, .ref q16])) :: [(q7, .inl (c3.2.2, 3, .inr (.inr (.inr (.inr (fun i => if i < 3 then some (rr i) else none)))))), (rr 0, .inl (c3.1, 40, .inl (fun _ => 0))), (rr 1, .inl (c3.1, 40, .inl (fun _ => 0))), (rr 2, .inl (c3.1, 40, .inl (fun _ => 0))), (q16, .inl (c3.1, 3, .inl (fun t => if t < 3 then (-1) else 0)))]) H := hP
  have hD : va_D A ((h0, .inr (3, [.ref q7, .ref q16])) :: [(q7, .inl (c3.2.2, 3, .inr (.inr (.inr (.inr (fun i => if i < 3 then some (rr i) else none)))))), (rr 0, .inl (c3.1, 40, .inl (fun _ => 0))), (rr 1, .inl (c3.1, 40, .inl (fun _ => 0))), (rr 2, .inl (c3.1, 40, .inl (fun _ => 0))), (q16, .inl (c3.1, 3, .inl (fun t => if t < 3 then (-1) else 0)))]) := hD
  have hP := hP.sub (ws' := [(h0, .inr (3, [.ref q7, .ref q16])), (q7, .inl (c3.2.2, 3, .inr (.inr (.inr (.inr (fun i => if i < 3 then some (rr i) else none)))))), (q16, .inl (c3.1, 3, .inl (fun t => if t < 3 then (-1) else 0))), (rr 0, .inl (c3.1, 40, .inl (fun _ => 0))), (rr 1, .inl (c3.1, 40, .inl (fun _ => 0))), (rr 2, .inl (c3.1, 40, .inl (fun _ => 0)))]) [0, 1, 5, 2, 3, 4] rfl
  have hD := hD.sub (ws' := [(h0, .inr (3, [.ref q7, .ref q16])), (q7, .inl (c3.2.2, 3, .inr (.inr (.inr (.inr (fun i => if i < 3 then some (rr i) else none)))))), (q16, .inl (c3.1, 3, .inl (fun t => if t < 3 then (-1) else 0))), (rr 0, .inl (c3.1, 40, .inl (fun _ => 0))), (rr 1, .inl (c3.1, 40, .inl (fun _ => 0))), (rr 2, .inl (c3.1, 40, .inl (fun _ => 0)))]) [0, 1, 5, 2, 3, 4] (by decide) rfl
  have hP : va_P D vwCl (wX5_init_3_40 c3 (lkA [h0, q7, q16, rr 0, rr 1, rr 2])) H := va_ren hP (k := 1) rfl (g := fun i => some (lkA [h0, q7, q16, rr 0, rr 1, rr 2] (3 + i))) (fun i hi => by rcases (show i = 0 ∨ i = 1 ∨ i = 2 by omega) with rfl | rfl | rfl <;> rfl)
  have hD : va_D A (wX5_init_3_40 c3 (lkA [h0, q7, q16, rr 0, rr 1, rr 2])) := va_D_same (by exact rfl) hD
  refine W.widen (k := 5) (n := 126) (by omega) (by omega) ?_
  exact W.vret hx hb hr (fun t ht hW => ⟨⟨lkA [h0, q7, q16, rr 0, rr 1, rr 2], rfl, rfl, by rw [ht]; exact hP, hD⟩, hS.F ht⟩) hS.2.2 dX5_init_29


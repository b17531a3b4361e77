/-! the law: what the Statement's words give at the start -/
def z_ws0 : List Cond := [.arrayOver (.array .int), .methodLinkNest RX4 11 yX2_init "StuckDoor", .methodLinkNest RX7 26 yX2_init "StuckDoor", .methodLinkNest RX7 33 yX4_init "StuckDoor", .methodLinkNest RX7 40 yX6_init "StuckDoor", .methodLinkNest RX7 47 yX0_init "StuckDoor", .fieldLinkNest "StuckDoor$Reader" 81 "StuckDoor" "LETTERS" "[I" "StuckDoor", .fieldLinkNest "StuckDoor$Family" 67 "StuckDoor" "PARENTS" "[I" "StuckDoor", .methodLinkNest "StuckDoor" 257 yX1_worth "StuckDoor", .laysStatic "StuckDoor" "LETTERS" "[I", .laysStatic "StuckDoor" "PARENTS" "[I", .initialized "StuckDoor", .arrayClass .int, .arrayClass .long, .instantiable RX0 2, .instantiable RX2 13, .instantiable RX4 3, .instantiable RX5 2, .instantiable RX6 4, .instantiable RX7 12, .instantiable RX8 33, .initialized RX7, .initialized RX8, .classLink RL 7 RX7, .classLink RL 10 RX8, .methodLink RL 9 yX7_init, .instanceMethod yX7_init, .methodLink RL 12 yX8_init, .instanceMethod yX8_init]
set_option maxRecDepth 20000 in
theorem z_in0 : ∀ w ∈ z_ws0, w ∈ lw_tbl := y_in _ [91, 184, 107, 179, 198, 221, 385, 441, 641, 386, 442, 63, 104, 233, 220, 106, 178, 85, 197, 77, 752, 63, 70, 76, 751, 78, 79, 753, 754] (by decide +kernel)
theorem z_w0 {args : Array Value} {s : State} (hts : ∀ w ∈ lw_tbl, w.before args s = true) (k : Nat) {w : Cond} (h : z_ws0[k]? = some w) : w.before args s = true := hts w (z_in0 w (List.mem_of_getElem? h))
theorem z_arr {args : Array Value} {s : State} {ty : FieldType} (h : (Cond.arrayClass ty).before args s = true) : ∃ cA : ClassId, ArrOfT s cA ty ∧ s.vm.findClass ("[" ++ ty.toString) = some cA := by
  obtain ⟨c, k, comp, h1, h2, h3⟩ := Cond.arrayClass_spec h
  exact ⟨c, fun n z => ⟨fun k h => (by cases h), k, h2, comp, h3⟩, h1⟩
theorem z_aoa {s : State} (h : va_AOA .int s) : ∃ cA : ClassId, ArrOfT s cA (.array .int) ∧ s.vm.findClass ("[" ++ (FieldType.array .int).toString) = some cA := by
  obtain ⟨comp, c, k, h1, h2, h3, h4, h5⟩ := arrayOverA_spec h
  exact ⟨c, fun n z => ⟨fun k h => (by cases h), k, h3, comp, h4⟩, h5⟩
theorem z_EX7 {args : Array Value} {s : State} (hts : ∀ w ∈ lw_tbl, w.before args s = true) : EX7 s := ⟨va_AOA.of (z_w0 hts 0 rfl), va_Nw.of rfl (z_w0 hts 1 rfl), va_Nw.of rfl (z_w0 hts 2 rfl), va_Nw.of rfl (z_w0 hts 3 rfl), va_Nw.of rfl (z_w0 hts 4 rfl), va_Nw.of rfl (z_w0 hts 5 rfl)⟩
theorem z_K {args : Array Value} {s : State} (hts : ∀ w ∈ lw_tbl, w.before args s = true) : ∃ (D : va_G) (c3 : C3), KK D c3 s := by
  obtain ⟨c0, i0, k0⟩ := u_known (C := RX0) (T := TX0) (N := 2) (n := 2) hts inX0 (z_w0 hts 14 rfl)
  obtain ⟨c1, i1, k1⟩ := u_known (C := RX2) (T := TX2) (N := 13) (n := 13) hts inX2 (z_w0 hts 15 rfl)
  obtain ⟨c2, i2, k2⟩ := u_known (C := RX4) (T := TX4) (N := 3) (n := 3) hts inX4 (z_w0 hts 16 rfl)
  obtain ⟨c3, i3, k3⟩ := u_known (C := RX5) (T := TX5) (N := 2) (n := 2) hts inX5 (z_w0 hts 17 rfl)
  obtain ⟨c4, i4, k4⟩ := u_known (C := RX6) (T := TX6) (N := 4) (n := 4) hts inX6 (z_w0 hts 18 rfl)
  obtain ⟨c5, i5, k5⟩ := u_known (C := RX7) (T := TX7) (N := 12) (n := 12) hts inX7 (z_w0 hts 19 rfl)
  obtain ⟨c6, i6, k6⟩ := u_known (C := RX8) (T := TX8) (N := 33) (n := 33) hts inX8 (z_w0 hts 20 rfl)
  obtain ⟨cI, gI, fI⟩ := z_arr (z_w0 hts 12 rfl)
  obtain ⟨cL, gL, fL⟩ := z_arr (z_w0 hts 13 rfl)
  obtain ⟨cQ, gQ, fQ⟩ := z_aoa (z_EX7 hts).1
  refine ⟨(fun k => match k with | 0 => c0 | 1 => c1 | 2 => c2 | 3 => c3 | 4 => c4 | 5 => c5 | _ => c6, fun k => match k with | 0 => i0 | 1 => i1 | 2 => i2 | 3 => i3 | 4 => i4 | 5 => i5 | _ => i6), (cI, cL, cQ), fun k q hq => ?_, fun k q hq => ?_⟩
  · match k, hq with
    | 0, hq =>
      have hq : some (RX0, TX0, 2) = some q := hq
      cases hq
      exact k0
    | 1, hq =>
      have hq : some (RX2, TX2, 13) = some q := hq
      cases hq
      exact k1
    | 2, hq =>
      have hq : some (RX4, TX4, 3) = some q := hq
      cases hq
      exact k2
    | 3, hq =>
      have hq : some (RX5, TX5, 2) = some q := hq
      cases hq
      exact k3
    | 4, hq =>
      have hq : some (RX6, TX6, 4) = some q := hq
      cases hq
      exact k4
    | 5, hq =>
      have hq : some (RX7, TX7, 12) = some q := hq
      cases hq
      exact k5
    | 6, hq =>
      have hq : some (RX8, TX8, 33) = some q := hq
      cases hq
      exact k6
    | k + 7, hq =>
      have hq : ([] : List vw_C)[k]? = some q := hq
      simp at hq
  · match k, hq with
    | 0, hq =>
      have hq : some (cI, FieldType.int) = some q := hq
      cases hq
      exact ⟨gI, fI⟩
    | 1, hq =>
      have hq : some (cL, FieldType.long) = some q := hq
      cases hq
      exact ⟨gL, fL⟩
    | 2, hq =>
      have hq : some (cQ, FieldType.array .int) = some q := hq
      cases hq
      exact ⟨gQ, fQ⟩
    | k + 3, hq =>
      have hq : ([] : List (ClassId × FieldType))[k]? = some q := hq
      simp at hq
theorem z_stL {b : Nat} {s : State} (hgv : (Jvm.Cond.and given_1 narrow_1).before #[Value.ref b] s = true) : ∃ t : Nat, (Term.static "StuckDoor" "LETTERS" "[I").eval #[Value.ref b] s none [] s = some (.ref t) ∧ va_T .int t 6 (fun j => .int (stL j)) (fun q : Nat => s.heap.size ≤ q) s s.heap := by
  have hs := flat_of_before _ hgv
  refine va_Tof (tm := .static "StuckDoor" "LETTERS" "[I") (by decide) (hs (.arrayOf (.static "StuckDoor" "LETTERS" "[I") .int) (by decide +kernel)) (va_eqt (z := 6) (hs (.eq (.length (.static "StuckDoor" "LETTERS" "[I")) (.int 6)) (by decide +kernel))) (fun j hj => ?_) (fun a ha => Nat.not_le.mpr ha)
  match j, hj with
  | 0, _ => exact va_eqt (t := .elem (.static "StuckDoor" "LETTERS" "[I") (.int 0)) (z := 115) (hs (.eq (.elem (.static "StuckDoor" "LETTERS" "[I") (.int 0)) (.int 115)) (by decide +kernel))
  | 1, _ => exact va_eqt (t := .elem (.static "StuckDoor" "LETTERS" "[I") (.int 1)) (z := 104) (hs (.eq (.elem (.static "StuckDoor" "LETTERS" "[I") (.int 1)) (.int 104)) (by decide +kernel))
  | 2, _ => exact va_eqt (t := .elem (.static "StuckDoor" "LETTERS" "[I") (.int 2)) (z := 103) (hs (.eq (.elem (.static "StuckDoor" "LETTERS" "[I") (.int 2)) (.int 103)) (by decide +kernel))
  | 3, _ => exact va_eqt (t := .elem (.static "StuckDoor" "LETTERS" "[I") (.int 3)) (z := 106) (hs (.eq (.elem (.static "StuckDoor" "LETTERS" "[I") (.int 3)) (.int 106)) (by decide +kernel))
  | 4, _ => exact va_eqt (t := .elem (.static "StuckDoor" "LETTERS" "[I") (.int 4)) (z := 119) (hs (.eq (.elem (.static "StuckDoor" "LETTERS" "[I") (.int 4)) (.int 119)) (by decide +kernel))
  | 5, _ => exact va_eqt (t := .elem (.static "StuckDoor" "LETTERS" "[I") (.int 5)) (z := 112) (hs (.eq (.elem (.static "StuckDoor" "LETTERS" "[I") (.int 5)) (.int 112)) (by decide +kernel))
  | j + 6, hj => exact absurd hj (by omega)
theorem z_stP {b : Nat} {s : State} (hgv : (Jvm.Cond.and given_1 narrow_1).before #[Value.ref b] s = true) : ∃ t : Nat, (Term.static "StuckDoor" "PARENTS" "[I").eval #[Value.ref b] s none [] s = some (.ref t) ∧ va_T .int t 6 (fun j => .int (stP j)) (fun q : Nat => s.heap.size ≤ q) s s.heap := by
  have hs := flat_of_before _ hgv
  refine va_Tof (tm := .static "StuckDoor" "PARENTS" "[I") (by decide) (hs (.arrayOf (.static "StuckDoor" "PARENTS" "[I") .int) (by decide +kernel)) (va_eqt (z := 6) (hs (.eq (.length (.static "StuckDoor" "PARENTS" "[I")) (.int 6)) (by decide +kernel))) (fun j hj => ?_) (fun a ha => Nat.not_le.mpr ha)
  match j, hj with
  | 0, _ => exact va_eqt (t := .elem (.static "StuckDoor" "PARENTS" "[I") (.int 0)) (z := 0) (hs (.eq (.elem (.static "StuckDoor" "PARENTS" "[I") (.int 0)) (.int 0)) (by decide +kernel))
  | 1, _ => exact va_eqt (t := .elem (.static "StuckDoor" "PARENTS" "[I") (.int 1)) (z := 0) (hs (.eq (.elem (.static "StuckDoor" "PARENTS" "[I") (.int 1)) (.int 0)) (by decide +kernel))
  | 2, _ => exact va_eqt (t := .elem (.static "StuckDoor" "PARENTS" "[I") (.int 2)) (z := 0) (hs (.eq (.elem (.static "StuckDoor" "PARENTS" "[I") (.int 2)) (.int 0)) (by decide +kernel))
  | 3, _ => exact va_eqt (t := .elem (.static "StuckDoor" "PARENTS" "[I") (.int 3)) (z := 1) (hs (.eq (.elem (.static "StuckDoor" "PARENTS" "[I") (.int 3)) (.int 1)) (by decide +kernel))
  | 4, _ => exact va_eqt (t := .elem (.static "StuckDoor" "PARENTS" "[I") (.int 4)) (z := 2) (hs (.eq (.elem (.static "StuckDoor" "PARENTS" "[I") (.int 4)) (.int 2)) (by decide +kernel))
  | 5, _ => exact va_eqt (t := .elem (.static "StuckDoor" "PARENTS" "[I") (.int 5)) (z := 1) (hs (.eq (.elem (.static "StuckDoor" "PARENTS" "[I") (.int 5)) (.int 1)) (by decide +kernel))
  | j + 6, hj => exact absurd hj (by omega)
theorem z_gC {b : Nat} {s : State} (hts : ∀ w ∈ lw_tbl, w.before #[Value.ref b] s = true) (hgv : (Jvm.Cond.and given_1 narrow_1).before #[Value.ref b] s = true) : gC (fun q : Nat => s.heap.size ≤ q) s := by
  obtain ⟨tl, e1, h1⟩ := z_stL hgv
  obtain ⟨tp, e2, h2⟩ := z_stP hgv
  exact ⟨tl, tp, va_Zof (z_w0 hts 9 rfl) (z_w0 hts 11 rfl) e1 (fun a ha => Nat.not_le.mpr ha), h1, va_Zof (z_w0 hts 10 rfl) (z_w0 hts 11 rfl) e2 (fun a ha => Nat.not_le.mpr ha), h2, va_Nw.of rfl (z_w0 hts 6 rfl), va_Nw.of rfl (z_w0 hts 7 rfl), va_Nw.of rfl (z_w0 hts 8 rfl)⟩
theorem z_L {D : va_G} {H : Heap} {X Y : va_W} (h : va_P D vwCl (X ++ Y) H) : va_P D vwCl X H := fun k q hk => h k q (by rw [List.getElem?_append_left (List.getElem?_eq_some_iff.mp hk).1]; exact hk)
theorem z_R {D : va_G} {H : Heap} {X Y : va_W} (h : va_P D vwCl (X ++ Y) H) : va_P D vwCl Y H := fun k q hk => h (X.length + k) q (by rw [List.getElem?_append_right (by omega), Nat.add_sub_cancel_left]; exact hk)
theorem z_DL {A : Nat → Prop} {X Y : va_W} (h : va_D A (X ++ Y)) : va_D A X := by
  have key : ∀ (k : Nat) (q : Nat × va_E), X[k]? = some q → (X ++ Y)[k]? = some q := fun k q hk => by rw [List.getElem?_append_left (List.getElem?_eq_some_iff.mp hk).1]; exact hk
  exact ⟨fun i j p q hi hj => h.1 i j p q (key i p hi) (key j q hj), fun k q hk => h.2 k q (key k q hk)⟩
theorem z_DR {A : Nat → Prop} {X Y : va_W} (h : va_D A (X ++ Y)) : va_D A Y := by
  have key : ∀ (k : Nat) (q : Nat × va_E), Y[k]? = some q → (X ++ Y)[X.length + k]? = some q := fun k q hk => by rw [List.getElem?_append_right (by omega), Nat.add_sub_cancel_left]; exact hk
  refine ⟨fun i j p q hi hj hpq => ?_, fun k q hk => h.2 _ q (key k q hk)⟩
  have := h.1 _ _ p q (key i p hi) (key j q hj) hpq
  omega
theorem z_ap {A : Nat → Prop} {X Y : va_W} (h : va_D A (X ++ Y)) : Apart X Y ∧ Apart Y X := by
  have kL : ∀ (k : Nat) (q : Nat × va_E), X[k]? = some q → (X ++ Y)[k]? = some q := fun k q hk => by rw [List.getElem?_append_left (List.getElem?_eq_some_iff.mp hk).1]; exact hk
  have kR : ∀ (k : Nat) (q : Nat × va_E), Y[k]? = some q → (X ++ Y)[X.length + k]? = some q := fun k q hk => by rw [List.getElem?_append_right (by omega), Nat.add_sub_cancel_left]; exact hk
  refine ⟨fun k q hq j e hj => ?_, fun k q hq j e hj => ?_⟩
  · have h1 := (List.getElem?_eq_some_iff.mp hj).1
    have h2 := h.1 _ _ _ _ (kL j _ hj) (kR k q hq) rfl
    omega
  · have h1 := (List.getElem?_eq_some_iff.mp hq).1
    have h2 := h.1 _ _ _ _ (kL k q hq) (kR j _ hj) rfl
    omega
theorem z_Dsame {A : Nat → Prop} {X Y X1 Y1 : va_W} (ex : X.map Prod.fst = X1.map Prod.fst) (ey : Y.map Prod.fst = Y1.map Prod.fst) (h : va_D A (X ++ Y)) : va_D A (X1 ++ Y1) := va_D_same (by rw [List.map_append, List.map_append, ex, ey]) h

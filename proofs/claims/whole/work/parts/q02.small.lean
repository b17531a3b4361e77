/-! constructors: contracts -/
def PI (D : va_G) (c3 : C3) (av : List Value) (ws0 : va_W) (sz : Nat) (E : State → Prop) : Array Value → State → Prop := va_Pc av (fun U => U.heap.size = sz ∧ va_P D vwCl ws0 U.heap ∧ KK D c3 U ∧ va_D (fun _ => True) ws0 ∧ E U)
def BI (D : va_G) (wf : (Nat → Nat) → va_W) (A : Nat → Prop) : (Nat → Nat) → State → Prop := fun ad t => va_P D vwCl (wf ad) t.heap ∧ va_D A (wf ad)
def EOk (E : State → Prop) : Prop := (∀ s U : State, s.WarmedH U.vm → E s → E U) ∧ ∀ (U : State) (g : JFrame) (mk : MethodId) (a : Array Value), E U → E (U.calling g mk a)
theorem EO_t : EOk (fun _ => True) := ⟨fun _ _ _ _ => trivial, fun _ _ _ _ _ => trivial⟩
theorem EO_aoa : EOk (fun U => va_AOA .int U) := ⟨fun _ _ h g => g.moved h.alike, fun U g mk a h => h.moved (u := U) (U := U.calling g mk a) (Vm.Alike.refl U.vm)⟩
theorem EO_nw : EOk (fun U => va_Nw (.methodLinkNest RX4 11 yX2_init "StuckDoor") U) := ⟨fun _ _ h g => g.warmM h, fun U g mk a h => h.same rfl (U := U.calling g mk a) rfl⟩
theorem PI_blind {D : va_G} {c3 : C3} {av : List Value} {ws0 : va_W} {sz : Nat} {E : State → Prop} (hE : EOk E) : FrameBlind (PI D c3 av ws0 sz E) := by
  intro a U g mk h
  obtain ⟨h1, h2, h3, h4, h5, h6⟩ := h
  exact ⟨h1, h2, h3, KK.moved (u := U) (U := U.calling g mk a) (Vm.Alike.refl U.vm) h4, h5, hE.2 U g mk a h6⟩
theorem y_preI {D : va_G} {c3 : C3} {av : List Value} {W1 : va_W} {x : Nat × va_E} {E : State → Prop} {s : State} {H : Heap} {A : Nat → Prop} (hE : EOk E) (hK : KK D c3 s) (h : E s) (hP : va_P D vwCl (W1 ++ [x]) H) (hD : va_D A (W1 ++ [x])) : PreS s H (PI D c3 av [x] H.size E) av := by
  have hx : (W1 ++ [x])[W1.length]? = some x := by rw [List.getElem?_append_right (Nat.le_refl _), Nat.sub_self]; rfl
  have hP1 : va_P D vwCl [x] H := fun k q hq => by
    have hk : k < 1 := (List.getElem?_eq_some_iff.mp hq).1
    rw [show k = 0 by omega] at hq
    have hq : some x = some q := hq
    injection hq with hq
    subst hq
    exact hP _ _ hx
  have hD1 : va_D (fun _ => True) [x] := ⟨fun i j a b hi hj _ => by
    have h1 : i < 1 := (List.getElem?_eq_some_iff.mp hi).1
    have h2 : j < 1 := (List.getElem?_eq_some_iff.mp hj).1
    omega, fun _ _ _ => trivial⟩
  exact ⟨PI_blind hE, fun U hU hW => ⟨rfl, by rw [hU], by rw [hU]; exact hP1, KK.moved hW.alike hK, hD1, hE.1 s U hW h⟩⟩
section YG
variable {p : Program} {l : Launch} {e : Env} {R : Room} {s : State} {m : MethodId} {args : Array Value} {below : List Frame} {meth : Method} {c : Code} {H : Heap} {locs : List Loc} {cells slots mc ms : Nat} {Q : State → Prop}
variable {pc : Nat} {ls : Array Slot} {rest st : List Value} {D : va_G} {A : Nat → Prop} {W1 : va_W} {x : Nat × va_E} {a : Array Value} {wf : (Nat → Nat) → va_W}
theorem y_goI (hP : va_P D vwCl (W1 ++ [x]) H) (hD : va_D A (W1 ++ [x])) (hS : va_S A s.heap H locs) (hA : ∀ q, s.heap.size ≤ q → A q) (hr : va_Run p l e R s m args below meth c H locs cells slots mc ms (F0 m pc ls st) rest (va_Qv (fun ad : Nat → Nat => ad 0 = x.1) (BI D wf (va_A [x] H.size)) (va_A [x] H.size) a) (va_A [x] H.size))
    (kk : ∀ (ad : Nat → Nat) (H1 : Heap) (locs1 : List Loc), ad 0 = x.1 → va_P D vwCl (W1 ++ wf ad) H1 → va_D A (W1 ++ wf ad) → va_S A s.heap H1 locs1 → W p l e R s m args below meth c H1 locs1 (cells + mc) (slots + ms) Q (F0 m (pc + 3) ls rest)) : W p l e R s m args below meth c H locs cells slots Q (F0 m pc ls st) := by
  have hx : (W1 ++ [x])[W1.length]? = some x := by rw [List.getElem?_append_right (Nat.le_refl _), Nat.sub_self]; rfl
  have hf : ∀ q, va_A [x] H.size q → A q := fun q h => by
    rcases h with ⟨j, e, hj⟩ | h
    · have hj0 : j < 1 := (List.getElem?_eq_some_iff.mp hj).1
      rw [show j = 0 by omega] at hj
      have hj : some x = some (q, e) := hj
      injection hj with hj
      have := hD.2 _ _ hx
      rw [hj] at this
      exact this
    · exact hA q (Nat.le_trans hS.1 h)
  refine va_callv hr hS (fun q _ h => hf q h) hf (fun u t H1 locs1 ht hvm hp hB hz hk1 hS1 => ?_)
  obtain ⟨hP1, hD1⟩ := hB
  rw [ht] at hP1
  obtain ⟨hP2, hD2⟩ := vz_J hP hD hk1 hf hP1 hD1
  exact kk u H1 locs1 hp hP2 hD2 hS1
end YG
/-- addresses by a list -/
def lkA (l : List Nat) (k : Nat) : Nat := l.getD k 0
def wZ : Mm := (fun _ _ => 0, fun _ _ => 0, 0)
abbrev wX0_init (c3 : C3) (ad : Nat → Nat) : va_W := [(ad 0, .inr (0, [.ref (ad 1), .long 1])), (ad 1, .inl (c3.2.1, 13, .inr (.inl (fun _ => 0))))]
abbrev wX2_init (c3 : C3) (ad : Nat → Nat) : va_W := [(ad 0, .inr (1, [.int 0, .ref (ad 1), .int 0, .ref (ad 2), .ref (ad 3), .ref (ad 4), .int 0, .int 0, .int 0, .int (-9), .ref (ad 5), .int 0, .ref (ad 6)])), (ad 1, .inl (c3.1, 4, .inl (fun _ => 0))), (ad 2, .inl (c3.1, 6, .inl (fun _ => 0))), (ad 3, .inl (c3.1, 6, .inl (fun _ => 0))), (ad 4, .inl (c3.1, 6, .inl (fun _ => 0))), (ad 5, .inl (c3.1, 6, .inl (fun _ => 0))), (ad 6, .inl (c3.1, 40, .inl (fun _ => 0)))]
abbrev wX6_init (c3 : C3) (ad : Nat → Nat) : va_W := [(ad 0, .inr (4, [.ref (ad 1), .long 0, .int 0, .int (-9)])), (ad 1, .inl (c3.1, 5, .inl (fun _ => 0)))]
def rmX0_init : Room := { frames := 1, cells := 1, slots := 13, locals := 20 }
theorem iwI_X0_init : ∀ w ∈ u_ws RX0 TX0 2, w ∈ wsX0_init := by decide +kernel
set_option maxHeartbeats 4000000 in
set_option maxRecDepth 100000 in
theorem ctX0_init (l : Launch) (D : va_G) (c3 : C3) (h0 sz : Nat) : Met l yX0_init wsX0_init rmX0_init (PI D c3 [.ref h0] [(h0, .inr (0, [.null, .long 0]))] sz (fun _ => True)) (va_Qv (fun ad : Nat → Nat => ad 0 = h0) (BI D (wX0_init c3) (va_A [(h0, .inr (0, [.null, .long 0]))] sz)) (va_A [(h0, .inr (0, [.null, .long 0]))] sz)) 1 13 (va_A [(h0, .inr (0, [.null, .long 0]))] sz) := by
  refine Met.ofW (cc := cX0_init) (maxL := 1) (ret := none) (by decide) rfl ?_
  intro p e s m args below meth c s₁ B hml hv
  obtain ⟨rfl, hsz, hP, hK, hD0, hE⟩ := hv
  have hx := B.exec
  have hb := B.bytes
  have hr := B.returns
  have hts := atoms_spec (ws := wsX0_init) B.pre
  have hown : s.vm.findClass RX0 = some m.cls := findClass_of_methodNamed B.named
  have hlocks := B.notSynchronized
  have hin : meth.name = "<init>" := (name_of_methodNamed B.named B.method).1
  subst hsz
  have hD := hD0.self (sz := s.heap.size)
  generalize hAe : va_A [(h0, .inr (0, [.null, .long 0]))] s.heap.size = A at hD ⊢
  have hA : ∀ q : Nat, s.heap.size ≤ q → A q := fun q h => by rw [← hAe]; exact Or.inr h
  have hS : va_S A s.heap s.heap [] := va_S.rf
  have hl := lv_entry ([.ref h0]) (n := 1) (Nat.le_of_ble_eq_true rfl)
  rw [lg_entry_eq]
  generalize (lg_sl ([.ref h0]) ++ List.replicate (1 - (lg_sl ([.ref h0])).length) Slot.unset).toArray = ls at hl ⊢
  have hl : lv_has ls 1 [(0, .ref h0)] := hl
  have hP : va_P D vwCl ((h0, .inr (0, [.null, .long 0])) :: []) s.heap := hP
  have hD : va_D A ((h0, .inr (0, [.null, .long 0])) :: []) := hD
  refine lv_aload_n hx hb dX0_init_0 rfl (lv_at hl 0 rfl) ?_
  refine W.objInit hx hb hown (hts (.methodLink RX0 3 objectInit) (by decide +kernel)) (hts (.instanceMethod objectInit) (by decide +kernel)) (hts (.code objectInit ⟨#[0xb1]⟩ 1 none) (by decide +kernel)) rfl (by rw [hml]; exact hl.1) rfl dX0_init_1 (Nat.le_of_ble_eq_true rfl) (Nat.le_of_ble_eq_true rfl) ?_
  refine W.eq (g2 := F0 m 4 ls []) rfl ?_
  refine lv_aload_n hx hb dX0_init_4 rfl (lv_at hl 0 rfl) ?_
  refine lv_bipush (v := 13) hx hb dX0_init_5 (by decide) ?_
  refine y_newL (N := 13) hx hb (hts (.arrayClass .long) (by decide +kernel)) hK hP hD hS hA rfl (by decide) (by show 0 + 1 ≤ 1; omega) (by show 0 + 13 ≤ 13; omega) dX0_init_7 (fun q7 H hP hD hS => ?_)
  refine W.widen (k := 1) (n := 13) (by omega) (by omega) ?_
  have hP : va_P D vwCl ((h0, .inr (0, [.null, .long 0])) :: [(q7, .inl (c3.2.1, 13, .inr (.inl (fun _ => 0))))]) H := hP
  have hD : va_D A ((h0, .inr (0, [.null, .long 0])) :: [(q7, .inl (c3.2.1, 13, .inr (.inl (fun _ => 0))))]) := hD
  refine va_putF (D := D) (ci := 0) (v := .ref q7) (ty := .array .long) (C := RX0) (T := TX0) (N := 2) hx hb hts iwI_X0_init tyX0 tyX0_ok nmX0 hown hK hP hD hS 0 rfl rfl 0 (by decide) (hts (.fieldLink RX0 9 "StuckDoor$Chances" "weights" "[J") (by decide +kernel)) (fun _ h9 => h9) rfl hin rfl (by decide +kernel) rfl rfl (Nat.le_of_ble_eq_true rfl) dX0_init_9 (fun H locs hP hD hS => ?_)
  have hP : va_P D vwCl ((h0, .inr (0, [.ref q7, .long 0])) :: [(q7, .inl (c3.2.1, 13, .inr (.inl (fun _ => 0))))]) H := hP
  have hD : va_D A ((h0, .inr (0, [.ref q7, .long 0])) :: [(q7, .inl (c3.2.1, 13, .inr (.inl (fun _ => 0))))]) := hD
  refine lv_aload_n hx hb dX0_init_12 rfl (lv_at hl 0 rfl) ?_
  refine lv_lconst (v := 1) hx hb dX0_init_13 (by decide) ?_
  refine va_put (D := D) (ci := 0) (v := .long 1) (ty := .long) (C := RX0) (T := TX0) (N := 2) hx hb hts iwI_X0_init tyX0 tyX0_ok nmX0 hown hK hP hD hS 0 rfl rfl 1 (by decide) (hts (.fieldLink RX0 15 "StuckDoor$Chances" "total" "J") (by decide +kernel)) (fun _ h9 => h9) rfl (by decide +kernel) rfl rfl (Nat.le_of_ble_eq_true rfl) dX0_init_14 (fun H locs hP hD hS => ?_)
  have hP : va_P D vwCl ((h0, .inr (0, [.ref q7, .long 1])) :: [(q7, .inl (c3.2.1, 13, .inr (.inl (fun _ => 0))))]) H := hP
  have hD : va_D A ((h0, .inr (0, [.ref q7, .long 1])) :: [(q7, .inl (c3.2.1, 13, .inr (.inl (fun _ => 0))))]) := hD
  have hP : va_P D vwCl (wX0_init c3 (lkA [h0, q7])) H := hP
  have hD : va_D A (wX0_init c3 (lkA [h0, q7])) := hD
  refine W.widen (k := 1) (n := 13) (by omega) (by omega) ?_
  exact W.vret hx hb hr (fun t ht hW => ⟨⟨lkA [h0, q7], rfl, rfl, by rw [ht]; exact hP, hD⟩, hS.F ht⟩) hS.2.2 dX0_init_17
def rmX2_init : Room := { frames := 1, cells := 6, slots := 68, locals := 20 }
theorem iwI_X2_init : ∀ w ∈ u_ws RX2 TX2 13, w ∈ wsX2_init := by decide +kernel
set_option maxHeartbeats 4000000 in
set_option maxRecDepth 100000 in
theorem ctX2_init (l : Launch) (D : va_G) (c3 : C3) (h0 sz : Nat) : Met l yX2_init wsX2_init rmX2_init (PI D c3 [.ref h0] [(h0, .inr (1, [.int 0, .null, .int 0, .null, .null, .null, .int 0, .int 0, .int 0, .int 0, .null, .int 0, .null]))] sz (fun _ => True)) (va_Qv (fun ad : Nat → Nat => ad 0 = h0) (BI D (wX2_init c3) (va_A [(h0, .inr (1, [.int 0, .null, .int 0, .null, .null, .null, .int 0, .int 0, .int 0, .int 0, .null, .int 0, .null]))] sz)) (va_A [(h0, .inr (1, [.int 0, .null, .int 0, .null, .null, .null, .int 0, .int 0, .int 0, .int 0, .null, .int 0, .null]))] sz)) 6 68 (va_A [(h0, .inr (1, [.int 0, .null, .int 0, .null, .null, .null, .int 0, .int 0, .int 0, .int 0, .null, .int 0, .null]))] sz) := by
  refine Met.ofW (cc := cX2_init) (maxL := 1) (ret := none) (by decide) rfl ?_
  intro p e s m args below meth c s₁ B hml hv
  obtain ⟨rfl, hsz, hP, hK, hD0, hE⟩ := hv
  have hx := B.exec
  have hb := B.bytes
  have hr := B.returns
  have hts := atoms_spec (ws := wsX2_init) B.pre
  have hown : s.vm.findClass RX2 = some m.cls := findClass_of_methodNamed B.named
  have hlocks := B.notSynchronized
  have hin : meth.name = "<init>" := (name_of_methodNamed B.named B.method).1
  subst hsz
  have hD := hD0.self (sz := s.heap.size)
  generalize hAe : va_A [(h0, .inr (1, [.int 0, .null, .int 0, .null, .null, .null, .int 0, .int 0, .int 0, .int 0, .null, .int 0, .null]))] s.heap.size = A at hD ⊢
  have hA : ∀ q : Nat, s.heap.size ≤ q → A q := fun q h => by rw [← hAe]; exact Or.inr h
  have hS : va_S A s.heap s.heap [] := va_S.rf
  have hl := lv_entry ([.ref h0]) (n := 1) (Nat.le_of_ble_eq_true rfl)
  rw [lg_entry_eq]
  generalize (lg_sl ([.ref h0]) ++ List.replicate (1 - (lg_sl ([.ref h0])).length) Slot.unset).toArray = ls at hl ⊢
  have hl : lv_has ls 1 [(0, .ref h0)] := hl
  have hP : va_P D vwCl ((h0, .inr (1, [.int 0, .null, .int 0, .null, .null, .null, .int 0, .int 0, .int 0, .int 0, .null, .int 0, .null])) :: []) s.heap := hP
  have hD : va_D A ((h0, .inr (1, [.int 0, .null, .int 0, .null, .null, .null, .int 0, .int 0, .int 0, .int 0, .null, .int 0, .null])) :: []) := hD
  refine lv_aload_n hx hb dX2_init_0 rfl (lv_at hl 0 rfl) ?_
  refine W.objInit hx hb hown (hts (.methodLink RX2 3 objectInit) (by decide +kernel)) (hts (.instanceMethod objectInit) (by decide +kernel)) (hts (.code objectInit ⟨#[0xb1]⟩ 1 none) (by decide +kernel)) rfl (by rw [hml]; exact hl.1) rfl dX2_init_1 (Nat.le_of_ble_eq_true rfl) (Nat.le_of_ble_eq_true rfl) ?_
  refine W.eq (g2 := F0 m 4 ls []) rfl ?_
  refine lv_aload_n hx hb dX2_init_4 rfl (lv_at hl 0 rfl) ?_
  refine lv_iconst (v := 0) hx hb dX2_init_5 (by decide) ?_
  refine va_put (D := D) (ci := 1) (v := .int 0) (ty := .int) (C := RX2) (T := TX2) (N := 13) hx hb hts iwI_X2_init tyX2 tyX2_ok nmX2 hown hK hP hD hS 0 rfl rfl 0 (by decide) (hts (.fieldLink RX2 9 "StuckDoor$Family" "people" "I") (by decide +kernel)) (fun _ h9 => h9) rfl (by decide +kernel) rfl rfl (Nat.le_of_ble_eq_true rfl) dX2_init_6 (fun H locs hP hD hS => ?_)
  have hP : va_P D vwCl ((h0, .inr (1, [.int 0, .null, .int 0, .null, .null, .null, .int 0, .int 0, .int 0, .int 0, .null, .int 0, .null])) :: []) H := hP
  have hD : va_D A ((h0, .inr (1, [.int 0, .null, .int 0, .null, .null, .null, .int 0, .int 0, .int 0, .int 0, .null, .int 0, .null])) :: []) := hD
  refine lv_aload_n hx hb dX2_init_9 rfl (lv_at hl 0 rfl) ?_
  refine lv_iconst (v := 4) hx hb dX2_init_10 (by decide) ?_
  refine y_newI (N := 4) hx hb (hts (.arrayClass .int) (by decide +kernel)) hK hP hD hS hA rfl (by decide) (by show 0 + 1 ≤ 6; omega) (by show 0 + 4 ≤ 68; omega) dX2_init_11 (fun q11 H hP hD hS => ?_)
  refine W.widen (k := 1) (n := 4) (by omega) (by omega) ?_
  have hP : va_P D vwCl ((h0, .inr (1, [.int 0, .null, .int 0, .null, .null, .null, .int 0, .int 0, .int 0, .int 0, .null, .int 0, .null])) :: [(q11, .inl (c3.1, 4, .inl (fun _ => 0)))]) H := hP
  have hD : va_D A ((h0, .inr (1, [.int 0, .null, .int 0, .null, .null, .null, .int 0, .int 0, .int 0, .int 0, .null, .int 0, .null])) :: [(q11, .inl (c3.1, 4, .inl (fun _ => 0)))]) := hD
  refine va_putF (D := D) (ci := 1) (v := .ref q11) (ty := .array .int) (C := RX2) (T := TX2) (N := 13) hx hb hts iwI_X2_init tyX2 tyX2_ok nmX2 hown hK hP hD hS 0 rfl rfl 1 (by decide) (hts (.fieldLink RX2 15 "StuckDoor$Family" "bearing" "[I") (by decide +kernel)) (fun _ h9 => h9) rfl hin rfl (by decide +kernel) rfl rfl (Nat.le_of_ble_eq_true rfl) dX2_init_13 (fun H locs hP hD hS => ?_)
  have hP : va_P D vwCl ((h0, .inr (1, [.int 0, .ref q11, .int 0, .null, .null, .null, .int 0, .int 0, .int 0, .int 0, .null, .int 0, .null])) :: [(q11, .inl (c3.1, 4, .inl (fun _ => 0)))]) H := hP
  have hD : va_D A ((h0, .inr (1, [.int 0, .ref q11, .int 0, .null, .null, .null, .int 0, .int 0, .int 0, .int 0, .null, .int 0, .null])) :: [(q11, .inl (c3.1, 4, .inl (fun _ => 0)))]) := hD
  refine lv_aload_n hx hb dX2_init_16 rfl (lv_at hl 0 rfl) ?_
  refine lv_iconst (v := 0) hx hb dX2_init_17 (by decide) ?_
  refine va_put (D := D) (ci := 1) (v := .int 0) (ty := .int) (C := RX2) (T := TX2) (N := 13) hx hb hts iwI_X2_init tyX2 tyX2_ok nmX2 hown hK hP hD hS 0 rfl rfl 2 (by decide) (hts (.fieldLink RX2 19 "StuckDoor$Family" "sayings" "I") (by decide +kernel)) (fun _ h9 => h9) rfl (by decide +kernel) rfl rfl (Nat.le_of_ble_eq_true rfl) dX2_init_18 (fun H locs hP hD hS => ?_)
  have hP : va_P D vwCl ((h0, .inr (1, [.int 0, .ref q11, .int 0, .null, .null, .null, .int 0, .int 0, .int 0, .int 0, .null, .int 0, .null])) :: [(q11, .inl (c3.1, 4, .inl (fun _ => 0)))]) H := hP
  have hD : va_D A ((h0, .inr (1, [.int 0, .ref q11, .int 0, .null, .null, .null, .int 0, .int 0, .int 0, .int 0, .null, .int 0, .null])) :: [(q11, .inl (c3.1, 4, .inl (fun _ => 0)))]) := hD
  refine lv_aload_n hx hb dX2_init_21 rfl (lv_at hl 0 rfl) ?_
  refine lv_bipush (v := 6) hx hb dX2_init_22 (by decide) ?_
  refine y_newI (N := 6) hx hb (hts (.arrayClass .int) (by decide +kernel)) hK hP hD hS hA rfl (by decide) (by show 1 + 1 ≤ 6; omega) (by show 4 + 6 ≤ 68; omega) dX2_init_24 (fun q24 H hP hD hS => ?_)
  refine W.widen (k := 2) (n := 10) (by omega) (by omega) ?_
  have hP : va_P D vwCl ((h0, .inr (1, [.int 0, .ref q11, .int 0, .null, .null, .null, .int 0, .int 0, .int 0, .int 0, .null, .int 0, .null])) :: [(q11, .inl (c3.1, 4, .inl (fun _ => 0))), (q24, .inl (c3.1, 6, .inl (fun _ => 0)))]) H := hP
  have hD : va_D A ((h0, .inr (1, [.int 0, .ref q11, .int 0, .null, .null, .null, .int 0, .int 0, .int 0, .int 0, .null, .int 0, .null])) :: [(q11, .inl (c3.1, 4, .inl (fun _ => 0))), (q24, .inl (c3.1, 6, .inl (fun _ => 0)))]) := hD
  refine va_putF (D := D) (ci := 1) (v := .ref q24) (ty := .array .int) (C := RX2) (T := TX2) (N := 13) hx hb hts iwI_X2_init tyX2 tyX2_ok nmX2 hown hK hP hD hS 0 rfl rfl 3 (by decide) (hts (.fieldLink RX2 22 "StuckDoor$Family" "kind" "[I") (by decide +kernel)) (fun _ h9 => h9) rfl hin rfl (by decide +kernel) rfl rfl (Nat.le_of_ble_eq_true rfl) dX2_init_26 (fun H locs hP hD hS => ?_)
  have hP : va_P D vwCl ((h0, .inr (1, [.int 0, .ref q11, .int 0, .ref q24, .null, .null, .int 0, .int 0, .int 0, .int 0, .null, .int 0, .null])) :: [(q11, .inl (c3.1, 4, .inl (fun _ => 0))), (q24, .inl (c3.1, 6, .inl (fun _ => 0)))]) H := hP
  have hD : va_D A ((h0, .inr (1, [.int 0, .ref q11, .int 0, .ref q24, .null, .null, .int 0, .int 0, .int 0, .int 0, .null, .int 0, .null])) :: [(q11, .inl (c3.1, 4, .inl (fun _ => 0))), (q24, .inl (c3.1, 6, .inl (fun _ => 0)))]) := hD
  refine lv_aload_n hx hb dX2_init_29 rfl (lv_at hl 0 rfl) ?_
  refine lv_bipush (v := 6) hx hb dX2_init_30 (by decide) ?_
  refine y_newI (N := 6) hx hb (hts (.arrayClass .int) (by decide +kernel)) hK hP hD hS hA rfl (by decide) (by show 2 + 1 ≤ 6; omega) (by show 10 + 6 ≤ 68; omega) dX2_init_32 (fun q32 H hP hD hS => ?_)
  refine W.widen (k := 3) (n := 16) (by omega) (by omega) ?_
  have hP : va_P D vwCl ((h0, .inr (1, [.int 0, .ref q11, .int 0, .ref q24, .null, .null, .int 0, .int 0, .int 0, .int 0, .null, .int 0, .null])) :: [(q11, .inl (c3.1, 4, .inl (fun _ => 0))), (q24, .inl (c3.1, 6, .inl (fun _ => 0))), (q32, .inl (c3.1, 6, .inl (fun _ => 0)))]) H := hP
  have hD : va_D A ((h0, .inr (1, [.int 0, .ref q11, .int 0, .ref q24, .null, .null, .int 0, .int 0, .int 0, .int 0, .null, .int 0, .null])) :: [(q11, .inl (c3.1, 4, .inl (fun _ => 0))), (q24, .inl (c3.1, 6, .inl (fun _ => 0))), (q32, .inl (c3.1, 6, .inl (fun _ => 0)))]) := hD
  refine va_putF (D := D) (ci := 1) (v := .ref q32) (ty := .array .int) (C := RX2) (T := TX2) (N := 13) hx hb hts iwI_X2_init tyX2 tyX2_ok nmX2 hown hK hP hD hS 0 rfl rfl 4 (by decide) (hts (.fieldLink RX2 25 "StuckDoor$Family" "told" "[I") (by decide +kernel)) (fun _ h9 => h9) rfl hin rfl (by decide +kernel) rfl rfl (Nat.le_of_ble_eq_true rfl) dX2_init_34 (fun H locs hP hD hS => ?_)
  have hP : va_P D vwCl ((h0, .inr (1, [.int 0, .ref q11, .int 0, .ref q24, .ref q32, .null, .int 0, .int 0, .int 0, .int 0, .null, .int 0, .null])) :: [(q11, .inl (c3.1, 4, .inl (fun _ => 0))), (q24, .inl (c3.1, 6, .inl (fun _ => 0))), (q32, .inl (c3.1, 6, .inl (fun _ => 0)))]) H := hP
  have hD : va_D A ((h0, .inr (1, [.int 0, .ref q11, .int 0, .ref q24, .ref q32, .null, .int 0, .int 0, .int 0, .int 0, .null, .int 0, .null])) :: [(q11, .inl (c3.1, 4, .inl (fun _ => 0))), (q24, .inl (c3.1, 6, .inl (fun _ => 0))), (q32, .inl (c3.1, 6, .inl (fun _ => 0)))]) := hD
  refine lv_aload_n hx hb dX2_init_37 rfl (lv_at hl 0 rfl) ?_
  refine lv_bipush (v := 6) hx hb dX2_init_38 (by decide) ?_
  refine y_newI (N := 6) hx hb (hts (.arrayClass .int) (by decide +kernel)) hK hP hD hS hA rfl (by decide) (by show 3 + 1 ≤ 6; omega) (by show 16 + 6 ≤ 68; omega) dX2_init_40 (fun q40 H hP hD hS => ?_)
  refine W.widen (k := 4) (n := 22) (by omega) (by omega) ?_
  have hP : va_P D vwCl ((h0, .inr (1, [.int 0, .ref q11, .int 0, .ref q24, .ref q32, .null, .int 0, .int 0, .int 0, .int 0, .null, .int 0, .null])) :: [(q11, .inl (c3.1, 4, .inl (fun _ => 0))), (q24, .inl (c3.1, 6, .inl (fun _ => 0))), (q32, .inl (c3.1, 6, .inl (fun _ => 0))), (q40, .inl (c3.1, 6, .inl (fun _ => 0)))]) H := hP
  have hD : va_D A ((h0, .inr (1, [.int 0, .ref q11, .int 0, .ref q24, .ref q32, .null, .int 0, .int 0, .int 0, .int 0, .null, .int 0, .null])) :: [(q11, .inl (c3.1, 4, .inl (fun _ => 0))), (q24, .inl (c3.1, 6, .inl (fun _ => 0))), (q32, .inl (c3.1, 6, .inl (fun _ => 0))), (q40, .inl (c3.1, 6, .inl (fun _ => 0)))]) := hD
  refine va_putF (D := D) (ci := 1) (v := .ref q40) (ty := .array .int) (C := RX2) (T := TX2) (N := 13) hx hb hts iwI_X2_init tyX2 tyX2_ok nmX2 hown hK hP hD hS 0 rfl rfl 5 (by decide) (hts (.fieldLink RX2 28 "StuckDoor$Family" "topics" "[I") (by decide +kernel)) (fun _ h9 => h9) rfl hin rfl (by decide +kernel) rfl rfl (Nat.le_of_ble_eq_true rfl) dX2_init_42 (fun H locs hP hD hS => ?_)
  have hP : va_P D vwCl ((h0, .inr (1, [.int 0, .ref q11, .int 0, .ref q24, .ref q32, .ref q40, .int 0, .int 0, .int 0, .int 0, .null, .int 0, .null])) :: [(q11, .inl (c3.1, 4, .inl (fun _ => 0))), (q24, .inl (c3.1, 6, .inl (fun _ => 0))), (q32, .inl (c3.1, 6, .inl (fun _ => 0))), (q40, .inl (c3.1, 6, .inl (fun _ => 0)))]) H := hP
  have hD : va_D A ((h0, .inr (1, [.int 0, .ref q11, .int 0, .ref q24, .ref q32, .ref q40, .int 0, .int 0, .int 0, .int 0, .null, .int 0, .null])) :: [(q11, .inl (c3.1, 4, .inl (fun _ => 0))), (q24, .inl (c3.1, 6, .inl (fun _ => 0))), (q32, .inl (c3.1, 6, .inl (fun _ => 0))), (q40, .inl (c3.1, 6, .inl (fun _ => 0)))]) := hD
  refine lv_aload_n hx hb dX2_init_45 rfl (lv_at hl 0 rfl) ?_
  refine lv_iconst (v := 0) hx hb dX2_init_46 (by decide) ?_
  refine va_put (D := D) (ci := 1) (v := .int 0) (ty := .int) (C := RX2) (T := TX2) (N := 13) hx hb hts iwI_X2_init tyX2 tyX2_ok nmX2 hown hK hP hD hS 0 rfl rfl 6 (by decide) (hts (.fieldLink RX2 31 "StuckDoor$Family" "stuckRooms" "I") (by decide +kernel)) (fun _ h9 => h9) rfl (by decide +kernel) rfl rfl (Nat.le_of_ble_eq_true rfl) dX2_init_47 (fun H locs hP hD hS => ?_)
  have hP : va_P D vwCl ((h0, .inr (1, [.int 0, .ref q11, .int 0, .ref q24, .ref q32, .ref q40, .int 0, .int 0, .int 0, .int 0, .null, .int 0, .null])) :: [(q11, .inl (c3.1, 4, .inl (fun _ => 0))), (q24, .inl (c3.1, 6, .inl (fun _ => 0))), (q32, .inl (c3.1, 6, .inl (fun _ => 0))), (q40, .inl (c3.1, 6, .inl (fun _ => 0)))]) H := hP
  have hD : va_D A ((h0, .inr (1, [.int 0, .ref q11, .int 0, .ref q24, .ref q32, .ref q40, .int 0, .int 0, .int 0, .int 0, .null, .int 0, .null])) :: [(q11, .inl (c3.1, 4, .inl (fun _ => 0))), (q24, .inl (c3.1, 6, .inl (fun _ => 0))), (q32, .inl (c3.1, 6, .inl (fun _ => 0))), (q40, .inl (c3.1, 6, .inl (fun _ => 0)))]) := hD
  refine lv_aload_n hx hb dX2_init_50 rfl (lv_at hl 0 rfl) ?_
  refine lv_iconst (v := 0) hx hb dX2_init_51 (by decide) ?_
  refine va_put (D := D) (ci := 1) (v := .int 0) (ty := .int) (C := RX2) (T := TX2) (N := 13) hx hb hts iwI_X2_init tyX2 tyX2_ok nmX2 hown hK hP hD hS 0 rfl rfl 7 (by decide) (hts (.fieldLink RX2 34 "StuckDoor$Family" "strain" "I") (by decide +kernel)) (fun _ h9 => h9) rfl (by decide +kernel) rfl rfl (Nat.le_of_ble_eq_true rfl) dX2_init_52 (fun H locs hP hD hS => ?_)
  have hP : va_P D vwCl ((h0, .inr (1, [.int 0, .ref q11, .int 0, .ref q24, .ref q32, .ref q40, .int 0, .int 0, .int 0, .int 0, .null, .int 0, .null])) :: [(q11, .inl (c3.1, 4, .inl (fun _ => 0))), (q24, .inl (c3.1, 6, .inl (fun _ => 0))), (q32, .inl (c3.1, 6, .inl (fun _ => 0))), (q40, .inl (c3.1, 6, .inl (fun _ => 0)))]) H := hP
  have hD : va_D A ((h0, .inr (1, [.int 0, .ref q11, .int 0, .ref q24, .ref q32, .ref q40, .int 0, .int 0, .int 0, .int 0, .null, .int 0, .null])) :: [(q11, .inl (c3.1, 4, .inl (fun _ => 0))), (q24, .inl (c3.1, 6, .inl (fun _ => 0))), (q32, .inl (c3.1, 6, .inl (fun _ => 0))), (q40, .inl (c3.1, 6, .inl (fun _ => 0)))]) := hD
  refine lv_aload_n hx hb dX2_init_55 rfl (lv_at hl 0 rfl) ?_
  refine lv_iconst (v := 0) hx hb dX2_init_56 (by decide) ?_
  refine va_put (D := D) (ci := 1) (v := .int 0) (ty := .int) (C := RX2) (T := TX2) (N := 13) hx hb hts iwI_X2_init tyX2 tyX2_ok nmX2 hown hK hP hD hS 0 rfl rfl 8 (by decide) (hts (.fieldLink RX2 37 "StuckDoor$Family" "settled" "I") (by decide +kernel)) (fun _ h9 => h9) rfl (by decide +kernel) rfl rfl (Nat.le_of_ble_eq_true rfl) dX2_init_57 (fun H locs hP hD hS => ?_)
  have hP : va_P D vwCl ((h0, .inr (1, [.int 0, .ref q11, .int 0, .ref q24, .ref q32, .ref q40, .int 0, .int 0, .int 0, .int 0, .null, .int 0, .null])) :: [(q11, .inl (c3.1, 4, .inl (fun _ => 0))), (q24, .inl (c3.1, 6, .inl (fun _ => 0))), (q32, .inl (c3.1, 6, .inl (fun _ => 0))), (q40, .inl (c3.1, 6, .inl (fun _ => 0)))]) H := hP
  have hD : va_D A ((h0, .inr (1, [.int 0, .ref q11, .int 0, .ref q24, .ref q32, .ref q40, .int 0, .int 0, .int 0, .int 0, .null, .int 0, .null])) :: [(q11, .inl (c3.1, 4, .inl (fun _ => 0))), (q24, .inl (c3.1, 6, .inl (fun _ => 0))), (q32, .inl (c3.1, 6, .inl (fun _ => 0))), (q40, .inl (c3.1, 6, .inl (fun _ => 0)))]) := hD
  refine lv_aload_n hx hb dX2_init_60 rfl (lv_at hl 0 rfl) ?_
  refine lv_bipush (v := (-9)) hx hb dX2_init_61 (by decide) ?_
  refine va_put (D := D) (ci := 1) (v := .int (-9)) (ty := .int) (C := RX2) (T := TX2) (N := 13) hx hb hts iwI_X2_init tyX2 tyX2_ok nmX2 hown hK hP hD hS 0 rfl rfl 9 (by decide) (hts (.fieldLink RX2 40 "StuckDoor$Family" "whoIsOver" "I") (by decide +kernel)) (fun _ h9 => h9) rfl (by decide +kernel) rfl rfl (Nat.le_of_ble_eq_true rfl) dX2_init_63 (fun H locs hP hD hS => ?_)
  have hP : va_P D vwCl ((h0, .inr (1, [.int 0, .ref q11, .int 0, .ref q24, .ref q32, .ref q40, .int 0, .int 0, .int 0, .int (-9), .null, .int 0, .null])) :: [(q11, .inl (c3.1, 4, .inl (fun _ => 0))), (q24, .inl (c3.1, 6, .inl (fun _ => 0))), (q32, .inl (c3.1, 6, .inl (fun _ => 0))), (q40, .inl (c3.1, 6, .inl (fun _ => 0)))]) H := hP
  have hD : va_D A ((h0, .inr (1, [.int 0, .ref q11, .int 0, .ref q24, .ref q32, .ref q40, .int 0, .int 0, .int 0, .int (-9), .null, .int 0, .null])) :: [(q11, .inl (c3.1, 4, .inl (fun _ => 0))), (q24, .inl (c3.1, 6, .inl (fun _ => 0))), (q32, .inl (c3.1, 6, .inl (fun _ => 0))), (q40, .inl (c3.1, 6, .inl (fun _ => 0)))]) := hD
  refine lv_aload_n hx hb dX2_init_66 rfl (lv_at hl 0 rfl) ?_
  refine lv_bipush (v := 6) hx hb dX2_init_67 (by decide) ?_
  refine y_newI (N := 6) hx hb (hts (.arrayClass .int) (by decide +kernel)) hK hP hD hS hA rfl (by decide) (by show 4 + 1 ≤ 6; omega) (by show 22 + 6 ≤ 68; omega) dX2_init_69 (fun q69 H hP hD hS => ?_)
  refine W.widen (k := 5) (n := 28) (by omega) (by omega) ?_
  have hP : va_P D vwCl ((h0, .inr (1, [.int 0, .ref q11, .int 0, .ref q24, .ref q32, .ref q40, .int 0, .int 0, .int 0, .int (-9), .null, .int 0, .null])) :: [(q11, .inl (c3.1, 4, .inl (fun _ => 0))), (q24, .inl (c3.1, 6, .inl (fun _ => 0))), (q32, .inl (c3.1, 6, .inl (fun _ => 0))), (q40, .inl (c3.1, 6, .inl (fun _ => 0))), (q69, .inl (c3.1, 6, .inl (fun _ => 0)))]) H := hP
  have hD : va_D A ((h0, .inr (1, [.int 0, .ref q11, .int 0, .ref q24, .ref q32, .ref q40, .int 0, .int 0, .int 0, .int (-9), .null, .int 0, .null])) :: [(q11, .inl (c3.1, 4, .inl (fun _ => 0))), (q24, .inl (c3.1, 6, .inl (fun _ => 0))), (q32, .inl (c3.1, 6, .inl (fun _ => 0))), (q40, .inl (c3.1, 6, .inl (fun _ => 0))), (q69, .inl (c3.1, 6, .inl (fun _ => 0)))]) := hD
  refine va_putF (D := D) (ci := 1) (v := .ref q69) (ty := .array .int) (C := RX2) (T := TX2) (N := 13) hx hb hts iwI_X2_init tyX2 tyX2_ok nmX2 hown hK hP hD hS 0 rfl rfl 10 (by decide) (hts (.fieldLink RX2 43 "StuckDoor$Family" "said" "[I") (by decide +kernel)) (fun _ h9 => h9) rfl hin rfl (by decide +kernel) rfl rfl (Nat.le_of_ble_eq_true rfl) dX2_init_71 (fun H locs hP hD hS => ?_)
  have hP : va_P D vwCl ((h0, .inr (1, [.int 0, .ref q11, .int 0, .ref q24, .ref q32, .ref q40, .int 0, .int 0, .int 0, .int (-9), .ref q69, .int 0, .null])) :: [(q11, .inl (c3.1, 4, .inl (fun _ => 0))), (q24, .inl (c3.1, 6, .inl (fun _ => 0))), (q32, .inl (c3.1, 6, .inl (fun _ => 0))), (q40, .inl (c3.1, 6, .inl (fun _ => 0))), (q69, .inl (c3.1, 6, .inl (fun _ => 0)))]) H := hP
  have hD : va_D A ((h0, .inr (1, [.int 0, .ref q11, .int 0, .ref q24, .ref q32, .ref q40, .int 0, .int 0, .int 0, .int (-9), .ref q69, .int 0, .null])) :: [(q11, .inl (c3.1, 4, .inl (fun _ => 0))), (q24, .inl (c3.1, 6, .inl (fun _ => 0))), (q32, .inl (c3.1, 6, .inl (fun _ => 0))), (q40, .inl (c3.1, 6, .inl (fun _ => 0))), (q69, .inl (c3.1, 6, .inl (fun _ => 0)))]) := hD
  refine lv_aload_n hx hb dX2_init_74 rfl (lv_at hl 0 rfl) ?_
  refine lv_iconst (v := 0) hx hb dX2_init_75 (by decide) ?_
  refine va_put (D := D) (ci := 1) (v := .int 0) (ty := .int) (C := RX2) (T := TX2) (N := 13) hx hb hts iwI_X2_init tyX2 tyX2_ok nmX2 hown hK hP hD hS 0 rfl rfl 11 (by decide) (hts (.fieldLink RX2 46 "StuckDoor$Family" "deeds" "I") (by decide +kernel)) (fun _ h9 => h9) rfl (by decide +kernel) rfl rfl (Nat.le_of_ble_eq_true rfl) dX2_init_76 (fun H locs hP hD hS => ?_)
  have hP : va_P D vwCl ((h0, .inr (1, [.int 0, .ref q11, .int 0, .ref q24, .ref q32, .ref q40, .int 0, .int 0, .int 0, .int (-9), .ref q69, .int 0, .null])) :: [(q11, .inl (c3.1, 4, .inl (fun _ => 0))), (q24, .inl (c3.1, 6, .inl (fun _ => 0))), (q32, .inl (c3.1, 6, .inl (fun _ => 0))), (q40, .inl (c3.1, 6, .inl (fun _ => 0))), (q69, .inl (c3.1, 6, .inl (fun _ => 0)))]) H := hP
  have hD : va_D A ((h0, .inr (1, [.int 0, .ref q11, .int 0, .ref q24, .ref q32, .ref q40, .int 0, .int 0, .int 0, .int (-9), .ref q69, .int 0, .null])) :: [(q11, .inl (c3.1, 4, .inl (fun _ => 0))), (q24, .inl (c3.1, 6, .inl (fun _ => 0))), (q32, .inl (c3.1, 6, .inl (fun _ => 0))), (q40, .inl (c3.1, 6, .inl (fun _ => 0))), (q69, .inl (c3.1, 6, .inl (fun _ => 0)))]) := hD
  refine lv_aload_n hx hb dX2_init_79 rfl (lv_at hl 0 rfl) ?_
  refine lv_bipush (v := 40) hx hb dX2_init_80 (by decide) ?_
  refine y_newI (N := 40) hx hb (hts (.arrayClass .int) (by decide +kernel)) hK hP hD hS hA rfl (by decide) (by show 5 + 1 ≤ 6; omega) (by show 28 + 40 ≤ 68; omega) dX2_init_82 (fun q82 H hP hD hS => ?_)
  refine W.widen (k := 6) (n := 68) (by omega) (by omega) ?_
  have hP : va_P D vwCl ((h0, .inr (1, [.int 0, .ref q11, .int 0, .ref q24, .ref q32, .ref q40, .int 0, .int 0, .int 0, .int (-9), .ref q69, .int 0, .null])) :: [(q11, .inl (c3.1, 4, .inl (fun _ => 0))), (q24, .inl (c3.1, 6, .inl (fun _ => 0))), (q32, .inl (c3.1, 6, .inl (fun _ => 0))), (q40, .inl (c3.1, 6, .inl (fun _ => 0))), (q69, .inl (c3.1, 6, .inl (fun _ => 0))), (q82, .inl (c3.1, 40, .inl (fun _ => 0)))]) H := hP
  have hD : va_D A ((h0, .inr (1, [.int 0, .ref q11, .int 0, .ref q24, .ref q32, .ref q40, .int 0, .int 0, .int 0, .int (-9), .ref q69, .int 0, .null])) :: [(q11, .inl (c3.1, 4, .inl (fun _ => 0))), (q24, .inl (c3.1, 6, .inl (fun _ => 0))), (q32, .inl (c3.1, 6, .inl (fun _ => 0))), (q40, .inl (c3.1, 6, .inl (fun _ => 0))), (q69, .inl (c3.1, 6, .inl (fun _ => 0))), (q82, .inl (c3.1, 40, .inl (fun _ => 0)))]) := hD
  refine va_putF (D := D) (ci := 1) (v := .ref q82) (ty := .array .int) (C := RX2) (T := TX2) (N := 13) hx hb hts iwI_X2_init tyX2 tyX2_ok nmX2 hown hK hP hD hS 0 rfl rfl 12 (by decide) (hts (.fieldLink RX2 49 "StuckDoor$Family" "deed" "[I") (by decide +kernel)) (fun _ h9 => h9) rfl hin rfl (by decide +kernel) rfl rfl (Nat.le_of_ble_eq_true rfl) dX2_init_84 (fun H locs hP hD hS => ?_)
  have hP : va_P D vwCl ((h0, .inr (1, [.int 0, .ref q11, .int 0, .ref q24, .ref q32, .ref q40, .int 0, .int 0, .int 0, .int (-9), .ref q69, .int 0, .ref q82])) :: [(q11, .inl (c3.1, 4, .inl (fun _ => 0))), (q24, .inl (c3.1, 6, .inl (fun _ => 0))), (q32, .inl (c3.1, 6, .inl (fun _ => 0))), (q40, .inl (c3.1, 6, .inl (fun _ => 0))), (q69, .inl (c3.1, 6, .inl (fun _ => 0))), (q82, .inl (c3.1, 40, .inl (fun _ => 0)))]) H := hP
  have hD : va_D A ((h0, .inr (1, [.int 0, .ref q11, .int 0, .ref q24, .ref q32, .ref q40, .int 0, .int 0, .int 0, .int (-9), .ref q69, .int 0, .ref q82])) :: [(q11, .inl (c3.1, 4, .inl (fun _ => 0))), (q24, .inl (c3.1, 6, .inl (fun _ => 0))), (q32, .inl (c3.1, 6, .inl (fun _ => 0))), (q40, .inl (c3.1, 6, .inl (fun _ => 0))), (q69, .inl (c3.1, 6, .inl (fun _ => 0))), (q82, .inl (c3.1, 40, .inl (fun _ => 0)))]) := hD
  have hP : va_P D vwCl (wX2_init c3 (lkA [h0, q11, q24, q32, q40, q69, q82])) H := hP
  have hD : va_D A (wX2_init c3 (lkA [h0, q11, q24, q32, q40, q69, q82])) := hD
  refine W.widen (k := 6) (n := 68) (by omega) (by omega) ?_
  exact W.vret hx hb hr (fun t ht hW => ⟨⟨lkA [h0, q11, q24, q32, q40, q69, q82], rfl, rfl, by rw [ht]; exact hP, hD⟩, hS.F ht⟩) hS.2.2 dX2_init_87
def rmX6_init : Room := { frames := 1, cells := 1, slots := 5, locals := 20 }
theorem iwI_X6_init : ∀ w ∈ u_ws RX6 TX6 4, w ∈ wsX6_init := by decide +kernel
set_option maxHeartbeats 4000000 in
set_option maxRecDepth 100000 in
theorem ctX6_init (l : Launch) (D : va_G) (c3 : C3) (h0 sz : Nat) : Met l yX6_init wsX6_init rmX6_init (PI D c3 [.ref h0] [(h0, .inr (4, [.null, .long 0, .int 0, .int 0]))] sz (fun _ => True)) (va_Qv (fun ad : Nat → Nat => ad 0 = h0) (BI D (wX6_init c3) (va_A [(h0, .inr (4, [.null, .long 0, .int 0, .int 0]))] sz)) (va_A [(h0, .inr (4, [.null, .long 0, .int 0, .int 0]))] sz)) 1 5 (va_A [(h0, .inr (4, [.null, .long 0, .int 0, .int 0]))] sz) := by
  refine Met.ofW (cc := cX6_init) (maxL := 1) (ret := none) (by decide) rfl ?_
  intro p e s m args below meth c s₁ B hml hv
  obtain ⟨rfl, hsz, hP, hK, hD0, hE⟩ := hv
  have hx := B.exec
  have hb := B.bytes
  have hr := B.returns
  have hts := atoms_spec (ws := wsX6_init) B.pre
  have hown : s.vm.findClass RX6 = some m.cls := findClass_of_methodNamed B.named
  have hlocks := B.notSynchronized
  have hin : meth.name = "<init>" := (name_of_methodNamed B.named B.method).1
  subst hsz
  have hD := hD0.self (sz := s.heap.size)
  generalize hAe : va_A [(h0, .inr (4, [.null, .long 0, .int 0, .int 0]))] s.heap.size = A at hD ⊢
  have hA : ∀ q : Nat, s.heap.size ≤ q → A q := fun q h => by rw [← hAe]; exact Or.inr h
  have hS : va_S A s.heap s.heap [] := va_S.rf
  have hl := lv_entry ([.ref h0]) (n := 1) (Nat.le_of_ble_eq_true rfl)
  rw [lg_entry_eq]
  generalize (lg_sl ([.ref h0]) ++ List.replicate (1 - (lg_sl ([.ref h0])).length) Slot.unset).toArray = ls at hl ⊢
  have hl : lv_has ls 1 [(0, .ref h0)] := hl
  have hP : va_P D vwCl ((h0, .inr (4, [.null, .long 0, .int 0, .int 0])) :: []) s.heap := hP
  have hD : va_D A ((h0, .inr (4, [.null, .long 0, .int 0, .int 0])) :: []) := hD
  refine lv_aload_n hx hb dX6_init_0 rfl (lv_at hl 0 rfl) ?_
  refine W.objInit hx hb hown (hts (.methodLink RX6 3 objectInit) (by decide +kernel)) (hts (.instanceMethod objectInit) (by decide +kernel)) (hts (.code objectInit ⟨#[0xb1]⟩ 1 none) (by decide +kernel)) rfl (by rw [hml]; exact hl.1) rfl dX6_init_1 (Nat.le_of_ble_eq_true rfl) (Nat.le_of_ble_eq_true rfl) ?_
  refine W.eq (g2 := F0 m 4 ls []) rfl ?_
  refine lv_aload_n hx hb dX6_init_4 rfl (lv_at hl 0 rfl) ?_
  refine lv_iconst (v := 5) hx hb dX6_init_5 (by decide) ?_
  refine y_newI (N := 5) hx hb (hts (.arrayClass .int) (by decide +kernel)) hK hP hD hS hA rfl (by decide) (by show 0 + 1 ≤ 1; omega) (by show 0 + 5 ≤ 5; omega) dX6_init_6 (fun q6 H hP hD hS => ?_)
  refine W.widen (k := 1) (n := 5) (by omega) (by omega) ?_
  have hP : va_P D vwCl ((h0, .inr (4, [.null, .long 0, .int 0, .int 0])) :: [(q6, .inl (c3.1, 5, .inl (fun _ => 0)))]) H := hP
  have hD : va_D A ((h0, .inr (4, [.null, .long 0, .int 0, .int 0])) :: [(q6, .inl (c3.1, 5, .inl (fun _ => 0)))]) := hD
  refine va_putF (D := D) (ci := 4) (v := .ref q6) (ty := .array .int) (C := RX6) (T := TX6) (N := 4) hx hb hts iwI_X6_init tyX6 tyX6_ok nmX6 hown hK hP hD hS 0 rfl rfl 0 (by decide) (hts (.fieldLink RX6 9 "StuckDoor$Turns" "trial" "[I") (by decide +kernel)) (fun _ h9 => h9) rfl hin rfl (by decide +kernel) rfl rfl (Nat.le_of_ble_eq_true rfl) dX6_init_8 (fun H locs hP hD hS => ?_)
  have hP : va_P D vwCl ((h0, .inr (4, [.ref q6, .long 0, .int 0, .int 0])) :: [(q6, .inl (c3.1, 5, .inl (fun _ => 0)))]) H := hP
  have hD : va_D A ((h0, .inr (4, [.ref q6, .long 0, .int 0, .int 0])) :: [(q6, .inl (c3.1, 5, .inl (fun _ => 0)))]) := hD
  refine lv_aload_n hx hb dX6_init_11 rfl (lv_at hl 0 rfl) ?_
  refine lv_lconst (v := 0) hx hb dX6_init_12 (by decide) ?_
  refine va_put (D := D) (ci := 4) (v := .long 0) (ty := .long) (C := RX6) (T := TX6) (N := 4) hx hb hts iwI_X6_init tyX6 tyX6_ok nmX6 hown hK hP hD hS 0 rfl rfl 1 (by decide) (hts (.fieldLink RX6 15 "StuckDoor$Turns" "number" "J") (by decide +kernel)) (fun _ h9 => h9) rfl (by decide +kernel) rfl rfl (Nat.le_of_ble_eq_true rfl) dX6_init_13 (fun H locs hP hD hS => ?_)
  have hP : va_P D vwCl ((h0, .inr (4, [.ref q6, .long 0, .int 0, .int 0])) :: [(q6, .inl (c3.1, 5, .inl (fun _ => 0)))]) H := hP
  have hD : va_D A ((h0, .inr (4, [.ref q6, .long 0, .int 0, .int 0])) :: [(q6, .inl (c3.1, 5, .inl (fun _ => 0)))]) := hD
  refine lv_aload_n hx hb dX6_init_16 rfl (lv_at hl 0 rfl) ?_
  refine lv_iconst (v := 0) hx hb dX6_init_17 (by decide) ?_
  refine va_put (D := D) (ci := 4) (v := .int 0) (ty := .int) (C := RX6) (T := TX6) (N := 4) hx hb hts iwI_X6_init tyX6 tyX6_ok nmX6 hown hK hP hD hS 0 rfl rfl 2 (by decide) (hts (.fieldLink RX6 19 "StuckDoor$Turns" "settleable" "I") (by decide +kernel)) (fun _ h9 => h9) rfl (by decide +kernel) rfl rfl (Nat.le_of_ble_eq_true rfl) dX6_init_18 (fun H locs hP hD hS => ?_)
  have hP : va_P D vwCl ((h0, .inr (4, [.ref q6, .long 0, .int 0, .int 0])) :: [(q6, .inl (c3.1, 5, .inl (fun _ => 0)))]) H := hP
  have hD : va_D A ((h0, .inr (4, [.ref q6, .long 0, .int 0, .int 0])) :: [(q6, .inl (c3.1, 5, .inl (fun _ => 0)))]) := hD
  refine lv_aload_n hx hb dX6_init_21 rfl (lv_at hl 0 rfl) ?_
  refine lv_bipush (v := (-9)) hx hb dX6_init_22 (by decide) ?_
  refine va_put (D := D) (ci := 4) (v := .int (-9)) (ty := .int) (C := RX6) (T := TX6) (N := 4) hx hb hts iwI_X6_init tyX6 tyX6_ok nmX6 hown hK hP hD hS 0 rfl rfl 3 (by decide) (hts (.fieldLink RX6 23 "StuckDoor$Turns" "leastStrain" "I") (by decide +kernel)) (fun _ h9 => h9) rfl (by decide +kernel) rfl rfl (Nat.le_of_ble_eq_true rfl) dX6_init_24 (fun H locs hP hD hS => ?_)
  have hP : va_P D vwCl ((h0, .inr (4, [.ref q6, .long 0, .int 0, .int (-9)])) :: [(q6, .inl (c3.1, 5, .inl (fun _ => 0)))]) H := hP
  have hD : va_D A ((h0, .inr (4, [.ref q6, .long 0, .int 0, .int (-9)])) :: [(q6, .inl (c3.1, 5, .inl (fun _ => 0)))]) := hD
  have hP : va_P D vwCl (wX6_init c3 (lkA [h0, q6])) H := hP
  have hD : va_D A (wX6_init c3 (lkA [h0, q6])) := hD
  refine W.widen (k := 1) (n := 5) (by omega) (by omega) ?_
  exact W.vret hx hb hr (fun t ht hW => ⟨⟨lkA [h0, q6], rfl, rfl, by rw [ht]; exact hP, hD⟩, hS.F ht⟩) hS.2.2 dX6_init_27


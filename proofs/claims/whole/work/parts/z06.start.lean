set_option maxHeartbeats 4000000 in
set_option maxRecDepth 100000 in
/-- THE LAW, from its entry -/
theorem whole_start {p : Program} {e : Env} {s : State} {m : MethodId} {below : List Frame} {meth : Method} {c : Code} (l : Launch) {b L : Nat} {xs : Nat → Int32} (hL : L ≤ 384) (C0 : lw_At p s m meth c b L xs) : W p l e room_1 s m #[Value.ref b] below meth c s.heap [] 0 0 (lw_Z below #[Value.ref b] s) (entryFrame m ([Value.ref b] : List Value).toArray 4) := by
  obtain ⟨hx, hb, hr, hml, hown, hts, hX, hbl, hlocks, hgv⟩ := id C0
  have hown : s.vm.findClass RL = some m.cls := hown
  have hts' : ∀ w ∈ wsL_law, w.before #[Value.ref b] s = true := fun w h => hts w (wsL_law_in w h)
  have hA : ∀ q : Nat, s.heap.size ≤ q → (fun q : Nat => s.heap.size ≤ q) q := fun _ h => h
  obtain ⟨D, c3, hK⟩ := z_K hts
  have hg := z_gC hts hgv
  have hE := z_EX7 hts
  have hS : va_S (fun q : Nat => s.heap.size ≤ q) s.heap s.heap [] := va_S.rf
  have hP : va_P D vwCl [] s.heap := fun k q h => by simp at h
  have hD : va_D (fun q : Nat => s.heap.size ≤ q) [] := ⟨fun i j p q h => by simp at h, fun k q h => by simp at h⟩
  have hl := lv_entry ([.ref b]) (n := 4) (Nat.le_of_ble_eq_true rfl)
  rw [lg_entry_eq]
  generalize (lg_sl ([.ref b]) ++ List.replicate (4 - (lg_sl ([.ref b])).length) Slot.unset).toArray = ls at hl ⊢
  have hl : lv_has ls 4 [(0, .ref b)] := hl
  refine va_new (ci := 5) (fs := [.null, .null, .null, .null, .null, .null, .null, .null, .int 0, .int 0, .long 0, .long 0]) (C := RX7) (T := TX7) (N := 12) hx hb hts inX7 tyX7 tyX7_ok hown (z_w0 hts 23 rfl) (z_w0 hts 19 rfl) (z_w0 hts 21 rfl) hK hP hD hS hA rfl (fun j hj => by rcases (show j = 0 ∨ j = 1 ∨ j = 2 ∨ j = 3 ∨ j = 4 ∨ j = 5 ∨ j = 6 ∨ j = 7 ∨ j = 8 ∨ j = 9 ∨ j = 10 ∨ j = 11 by omega) with rfl | rfl | rfl | rfl | rfl | rfl | rfl | rfl | rfl | rfl | rfl | rfl <;> rfl) (by show 0 + 1 ≤ 600000; omega) (by show 0 + 12 ≤ 7302250; omega) dL_law_0 (fun q0 H hP hD hS => ?_)
  refine W.widen (k := 1) (n := 12) (by omega) (by omega) ?_
  refine lv_dup hx hb dL_law_3 rfl ?_
  refine y_goI (wf := wX7_init c3) (W1 := []) (x := (q0, .inr (5, [.null, .null, .null, .null, .null, .null, .null, .null, .int 0, .int 0, .long 0, .long 0]))) hP hD hS hA (va_runI (b := q0) (As := []) (rest := [.ref q0]) ⟨hx, hb, hml, hown, hts'⟩ (ctX7_init l D c3 q0 H.size) (cwI 0 hts' gL_law_X7_init rfl rfl rfl (z_w0 hts 21 rfl) (z_w0 hts 25 rfl) (z_w0 hts 26 rfl) rfl (by decide +kernel) ⟨Nat.le_of_ble_eq_true rfl, Nat.le_of_ble_eq_true rfl⟩) (y_preI EO_7 hK hE hP hD) rfl rfl hl.1 rfl (lv_room (Nat.le_of_ble_eq_true rfl)) dL_law_4 ⟨by show 1 + 43 ≤ 600000; omega, by show 12 + 827 ≤ 7302250; omega⟩) (fun ac H locs eac hP hD hS => ?_)
  have eac : ac 0 = q0 := eac
  refine W.widen (k := 44) (n := 839) (by omega) (by omega) ?_
  have hP : va_P D vwCl (encC c3 ac wC0) H := hP
  have hD : va_D (fun q : Nat => s.heap.size ≤ q) (encC c3 ac wC0) := hD
  refine lv_astore_n (lv' := [(1, .ref q0), (0, .ref b)]) hx hb dL_law_7 rfl hl (by decide) rfl (fun ls hl => ?_)
  refine va_new (ci := 6) (fs := [.null, .int 0, .null, .int 0, .null, .null, .null, .int 0, .null, .null, .null, .null, .int 0, .long 0, .long 0, .int 0, .null, .int 0, .int 0, .int 0, .null, .int 0, .null, .int 0, .int 0, .null, .null, .null, .null, .null, .null, .int 0, .null]) (C := RX8) (T := TX8) (N := 33) hx hb hts inX8 tyX8 tyX8_ok hown (z_w0 hts 24 rfl) (z_w0 hts 20 rfl) (z_w0 hts 22 rfl) hK hP hD hS hA rfl (fun j hj => by rcases (show j = 0 ∨ j = 1 ∨ j = 2 ∨ j = 3 ∨ j = 4 ∨ j = 5 ∨ j = 6 ∨ j = 7 ∨ j = 8 ∨ j = 9 ∨ j = 10 ∨ j = 11 ∨ j = 12 ∨ j = 13 ∨ j = 14 ∨ j = 15 ∨ j = 16 ∨ j = 17 ∨ j = 18 ∨ j = 19 ∨ j = 20 ∨ j = 21 ∨ j = 22 ∨ j = 23 ∨ j = 24 ∨ j = 25 ∨ j = 26 ∨ j = 27 ∨ j = 28 ∨ j = 29 ∨ j = 30 ∨ j = 31 ∨ j = 32 by omega) with rfl | rfl | rfl | rfl | rfl | rfl | rfl | rfl | rfl | rfl | rfl | rfl | rfl | rfl | rfl | rfl | rfl | rfl | rfl | rfl | rfl | rfl | rfl | rfl | rfl | rfl | rfl | rfl | rfl | rfl | rfl | rfl | rfl <;> rfl) (by show 44 + 1 ≤ 600000; omega) (by show 839 + 33 ≤ 7302250; omega) dL_law_8 (fun q1 H hP hD hS => ?_)
  refine W.widen (k := 45) (n := 872) (by omega) (by omega) ?_
  refine lv_dup hx hb dL_law_11 rfl ?_
  refine y_goI (wf := wX8_init c3) (W1 := encC c3 ac wC0) (x := (q1, .inr (6, [.null, .int 0, .null, .int 0, .null, .null, .null, .int 0, .null, .null, .null, .null, .int 0, .long 0, .long 0, .int 0, .null, .int 0, .int 0, .int 0, .null, .int 0, .null, .int 0, .int 0, .null, .null, .null, .null, .null, .null, .int 0, .null]))) hP hD hS hA (va_runI (b := q1) (As := []) (rest := [.ref q1]) ⟨hx, hb, hml, hown, hts'⟩ (ctX8_init l D c3 q1 H.size) (cwI 0 hts' gL_law_X8_init rfl rfl rfl (z_w0 hts 22 rfl) (z_w0 hts 27 rfl) (z_w0 hts 28 rfl) rfl (by decide +kernel) ⟨Nat.le_of_ble_eq_true rfl, Nat.le_of_ble_eq_true rfl⟩) (y_preI EO_t hK trivial hP hD) rfl rfl hl.1 rfl (lv_room (Nat.le_of_ble_eq_true rfl)) dL_law_12 ⟨by show 45 + 19 ≤ 600000; omega, by show 872 + 2255 ≤ 7302250; omega⟩) (fun am H locs eam hP hD hS => ?_)
  have eam : am 0 = q1 := eam
  refine W.widen (k := 64) (n := 3127) (by show 45 + 19 ≤ 64; omega) (by show 872 + 2255 ≤ 3127; omega) ?_
  have hP2 : va_P D vwCl (encC c3 ac wC0 ++ encM c3 am wM0) H := hP
  have hD2 : va_D (fun q : Nat => s.heap.size ≤ q) (encC c3 ac wC0 ++ encM c3 am wM0) := hD
  refine lv_astore_n (lv' := [(2, .ref q1), (1, .ref q0), (0, .ref b)]) hx hb dL_law_15 rfl hl (by decide) rfl (fun ls hl => ?_)
  refine lv_iconst (v := 0) hx hb dL_law_16 (by decide) ?_
  refine lv_istore_n (lv' := [(3, .int 0), (2, .ref q1), (1, .ref q0), (0, .ref b)]) hx hb dL_law_17 rfl hl (by decide) rfl (fun ls hl => ?_)
  subst eac eam
  exact z_loop ⟨hx, hb, hml, hown, hts', hK, fun v => va_D_same (encC_ok c3 ac wC0 v) (z_DL hD2), hA, hg⟩ ⟨hx, hb, hml, hown, hts', hK, fun v => va_D_same (encM_ok c3 am wM0 v) (z_DR hD2), hA, trivial⟩ (fun v w => (z_ap (z_Dsame (encC_ok c3 ac wC0 v) (encM_ok c3 am wM0 w) hD2)).1) (fun v w => (z_ap (z_Dsame (encC_ok c3 ac wC0 w) (encM_ok c3 am wM0 v) hD2)).2) hX hbl (by omega) (by omega) hL hr hlocks (L + 1) 0 H locs ls wC0 wM0 (Nat.zero_le _) (by omega) rel_0 (z_L hP2) (z_R hP2) hS (lv_sub hl [3, 2, 1, 0] rfl)

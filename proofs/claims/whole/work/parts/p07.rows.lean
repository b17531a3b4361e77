/-! PURE: rows and texts -/
theorem c_num1 (x : Int32) (c : Mm) : fX5_isNumber_1 x c = some (if inb x 6 = true then 1 else 0) := num_eq x 6 6 rfl
theorem c_num10 (x : Int32) (c : Mm) : fX5_isNumber_10 x c = some (if inb x 4 = true then 1 else 0) := num_eq x 4 4 rfl
theorem c_num17 (x : Int32) (c : Mm) : fX5_isNumber_17 x c = some (if inb x 3 = true then 1 else 0) := num_eq x 3 3 rfl
theorem nI_ne_m1 {n : Nat} (h : n < 2 ^ 31) : ¬ nI n = -1 := by
  intro q
  have q := congrArg Int32.toInt q
  rw [nI_toInt h] at q
  have : (-1 : Int32).toInt = -1 := rfl
  omega
theorem nI_ge0 {n : Nat} (h : n < 2 ^ 31) : (0 : Int32) ≤ nI n := nI_pos' h
theorem m1_ge0 : ¬ (0 : Int32) ≤ -1 := by decide
theorem c_fillI {q : Nat} (hq : 4 ≤ q ∧ q < 10) (v : Int32) (w : Mm) : fJ7_fill_53178_I q v w = some (sF w q (fun t => if t < 40 then v else w.1 q t)) := by
  unfold fJ7_fill_53178_I fJ7_fill_53178_I_E
  rw [gd_t hq]
  have h := lp_i (f := fJ7_fill_53178_I_5 q v 40) (step := fun j w => sA w q (0 + j) v) (fin := some) (fun _ _ => True) 40 (fun n j w hj _ => ⟨by
    rw [fJ7_fill_53178_I_5, if_neg (show ¬ (40 : Int32) ≤ nI j from nI_ge hj (by decide)), gd_t hq, gd_t (inb_nI hj (by decide)), nI_clamp (by omega), nI_1, Nat.zero_add]; rfl, trivial⟩) (fun n w _ => by rw [fJ7_fill_53178_I_5, if_pos (by decide)]) 40 0 FU w rfl (FU_lt (by decide)) trivial
  have e : (0 : Int32) = nI 0 := rfl
  rw [e, h, itr_fill]
  congr 2
  funext t
  by_cases h : t < 40
  · rw [if_pos h, if_pos (by omega)]
  · rw [if_neg h, if_neg (by omega)]
theorem c_fillT {q : Nat} (hq : 13 ≤ q ∧ q < 17) (v : Int32) (w : Mm) : fJ7_fill_53178_T q v w = some (sF w q (fun t => if t < 60 then v else w.1 q t)) := by
  unfold fJ7_fill_53178_T fJ7_fill_53178_T_E
  rw [gd_t hq]
  have h := lp_i (f := fJ7_fill_53178_T_5 q v 60) (step := fun j w => sA w q (0 + j) v) (fin := some) (fun _ _ => True) 60 (fun n j w hj _ => ⟨by
    rw [fJ7_fill_53178_T_5, if_neg (show ¬ (60 : Int32) ≤ nI j from nI_ge hj (by decide)), gd_t hq, gd_t (inb_nI hj (by decide)), nI_clamp (by omega), nI_1, Nat.zero_add]; rfl, trivial⟩) (fun n w _ => by rw [fJ7_fill_53178_T_5, if_pos (by decide)]) 60 0 FU w rfl (FU_lt (by decide)) trivial
  have e : (0 : Int32) = nI 0 := rfl
  rw [e, h, itr_fill]
  congr 2
  funext t
  by_cases h : t < 60
  · rw [if_pos h, if_pos (by omega)]
  · rw [if_neg h, if_neg (by omega)]
theorem c_make1 {r n : Nat} (hr : r < 6) (hn : n ≤ 40) (v : Int32) (c : Mm) : fX5_make_1 (nI r) (nI n) v c = some (sF (sA c 3 r (nI n)) (4 + r) (fun t => if t < 40 then v else c.1 (4 + r) t)) := by
  unfold fX5_make_1 fX5_make_1_E
  rw [bo_v (c_num1 _ c), if_10, if_pos (inb_nI hr (by decide)), if_neg (nI_pos (by omega)), gd_t (inb_nI hr (by decide)), if_neg (by
    have e : (40 : Int32) = nI 40 := rfl
    rw [e, nI_ltI (by decide) (by omega)]; omega), nI_clamp (by omega)]
  simp only [nm]
  rw [bo_v (c_fillI (by omega) v _), sA_ne (by omega)]
theorem c_make10 {r n : Nat} (hr : r < 4) (hn : n ≤ 60) (v : Int32) (c : Mm) : fX5_make_10 (nI r) (nI n) v c = some (sF (sA c 12 r (nI n)) (13 + r) (fun t => if t < 60 then v else c.1 (13 + r) t)) := by
  unfold fX5_make_10 fX5_make_10_E
  rw [bo_v (c_num10 _ c), if_10, if_pos (inb_nI hr (by decide)), if_neg (nI_pos (by omega)), gd_t (inb_nI hr (by decide)), if_neg (by
    have e : (60 : Int32) = nI 60 := rfl
    rw [e, nI_ltI (by decide) (by omega)]; omega), nI_clamp (by omega)]
  simp only [nm]
  rw [bo_v (c_fillT (by omega) v _), sA_ne (by omega)]
theorem l40 : (40 : Int32) = nI 40 := rfl
theorem l60 : (60 : Int32) = nI 60 := rfl
theorem m_makeRow {r : Nat} (hr : r < 6) (v : Int32) (m : Mm) : fX8_makeRow (nI r) v m = some (sF (sA m 6 r v) 7 (fun t => if 40 * r ≤ t ∧ t < 40 * r + 40 then 0 else m.1 7 t)) := by
  unfold fX8_makeRow fX8_makeRow_E
  rw [gd_t (inb_nI hr (by decide)), nI_clamp (by omega)]
  simp only [nm]
  have h := lp_i (f := fX8_makeRow_9 (nI r)) (step := fun j w => sA w 7 (40 * r + j) 0) (fin := some) (fun _ _ => True) 40 (fun n j w hj _ => ⟨by
    rw [fX8_makeRow_9, l40, if_neg (nI_ge hj (by decide)), pk_mul, nI_add, gd_t (inb_nI (by omega) (by decide)), nI_clamp (by omega), nI_1]; rfl, trivial⟩) (fun n w _ => by rw [fX8_makeRow_9, if_pos (by decide)]) 40 0 FU (sA m 6 r v) rfl (FU_lt (by decide)) trivial
  have e : (0 : Int32) = nI 0 := rfl
  rw [e, h, itr_fill, sA_ne (by decide)]
  rfl
/-- what a row's size is -/
theorem RelRows.sz {c m : Mm} (h : RelRows c m) {r : Nat} (hr : r < 6) : (c.1 3 r = -1 ∧ m.1 6 r = -1) ∨ ∃ n, n ≤ 40 ∧ c.1 3 r = nI n ∧ m.1 6 r = nI n := by
  obtain ⟨h1, h2, -⟩ := h r hr
  rcases h2 with h2 | ⟨n, hn, h2⟩
  · exact Or.inl ⟨h2, by rw [← h1]; exact h2⟩
  · exact Or.inr ⟨n, hn, h2, by rw [← h1]; exact h2⟩
theorem RelTexts.sz {c m : Mm} (h : RelTexts c m) {r : Nat} (hr : r < 4) : (c.1 12 r = -1 ∧ m.1 8 r = -1) ∨ ∃ n, n ≤ 60 ∧ c.1 12 r = nI n ∧ m.1 8 r = nI n := by
  obtain ⟨h1, h2, -⟩ := h r hr
  rcases h2 with h2 | ⟨n, hn, h2⟩
  · exact Or.inl ⟨h2, by rw [← h1]; exact h2⟩
  · exact Or.inr ⟨n, hn, h2, by rw [← h1]; exact h2⟩
/-- a row is made anew -/
theorem Rel.newRow {c m : Mm} (h : Rel c m) {r n : Nat} (hr : r < 6) (hn : n ≤ 40) : Rel (sF (sA c 3 r (nI n)) (4 + r) (fun t => if t < 40 then 0 else c.1 (4 + r) t)) (sF (sA m 6 r (nI n)) 7 (fun t => if 40 * r ≤ t ∧ t < 40 * r + 40 then 0 else m.1 7 t)) := by
  obtain ⟨r1, r2, r3, r4⟩ := h
  refine ⟨r1.cg (fun p h1 h2 => by rw [sF_ne (by omega), sA_ne (by omega)]) (fun p h1 h2 => by rw [sF_ne (by omega), sA_ne (by omega)]) (by rw [sF_ne (by decide), sA_ne (by decide)]) (by rw [sF_ne (by decide), sA_ne (by decide)]) (by rw [sF_ne (by decide), sA_ne (by decide)]), ?_, r3.cg (fun p h1 h2 => by rw [sF_ne (by omega), sA_ne (by omega)]) (by rw [sF_ne (by decide), sA_ne (by decide)]) (by rw [sF_ne (by decide), sA_ne (by decide)]), r4.cg (by rw [sF_ne (by omega), sA_ne (by decide)]) (by rw [sF_ne (by omega), sA_ne (by decide)]) rfl (by rw [sF_ne (by omega), sA_ne (by decide)]) (by rw [sF_ne (by decide), sA_ne (by decide)]) (by rw [sF_ne (by decide), sA_ne (by decide)]) rfl (by rw [sF_ne (by decide), sA_ne (by decide)])⟩
  intro k hk
  rw [sF_ne (by omega), sA_eq, sF_ne (by decide), sA_eq, sF_eq]
  by_cases e : k = r
  · subst e
    rw [upd_eq, upd_eq, sF_eq]
    refine ⟨rfl, Or.inr ⟨n, hn, rfl⟩, fun i hi => ?_⟩
    rw [if_pos hi, if_pos (by omega)]
  · rw [upd_ne e, upd_ne e, sF_ne (by omega), sA_ne (by omega)]
    refine ⟨(r2 k hk).1, (r2 k hk).2.1, fun i hi => ?_⟩
    rw [if_neg (by omega)]
    exact (r2 k hk).2.2 i hi
theorem sim_row {c m : Mm} (h : Rel c m) (x1 x2 : Int32) : Sim (fX7_row x1 x2 c) (fX8_row x1 x2 m) := by
  unfold fX7_row fX7_row_E fX8_row fX8_row_E
  rw [bo_v (c_num1 x1 c), bo_v (isRow_eq x1), if_10, if_10, bd_id, bd_id]
  by_cases h1 : inb x1 6 = true
  · rw [if_pos h1, if_pos h1]
    by_cases h2 : x2 ≤ 40
    · rw [if_pos h2, if_pos h2]
      by_cases h3 : 0 ≤ x2
      · rw [if_pos h3, if_pos h3]
        obtain ⟨r, hr, -, rfl⟩ := inb_ex h1
        obtain ⟨n, hn, rfl⟩ := nI_of2 (M := 40) (n := 40) rfl (Int32.not_lt.mpr h3) h2
        rw [bo_v (c_make1 hr hn 0 c), bo_v (m_makeRow hr _ m)]
        exact Sim.ret (h.newRow hr hn)
      · rw [if_neg h3, if_neg h3]
        exact sim_find h (k := 5) rfl (by decide) (by decide)
    · rw [if_neg h2, if_neg h2]
      exact Sim.ret h
  · rw [if_neg h1, if_neg h1]
    exact Sim.ret h
/-- the first refusals of rows -/
theorem c_there1 {c : Mm} {r : Nat} (hr : r < 6) : fX5_isThere_1 (nI r) c = some (if c.1 3 r = -1 then 0 else 1) := by
  unfold fX5_isThere_1 fX5_isThere_1_E
  rw [bo_v (c_num1 _ c), if_10, if_pos (inb_nI hr (by decide)), gd_t (inb_nI hr (by decide)), nI_clamp (by omega)]
  by_cases h : c.1 3 r = -1
  · rw [if_pos h, if_pos h]
  · rw [if_neg h, if_neg h]
theorem c_there10 {c : Mm} {r : Nat} (hr : r < 4) : fX5_isThere_10 (nI r) c = some (if c.1 12 r = -1 then 0 else 1) := by
  unfold fX5_isThere_10 fX5_isThere_10_E
  rw [bo_v (c_num10 _ c), if_10, if_pos (inb_nI hr (by decide)), gd_t (inb_nI hr (by decide)), nI_clamp (by omega)]
  by_cases h : c.1 12 r = -1
  · rw [if_pos h, if_pos h]
  · rw [if_neg h, if_neg h]
theorem c_there17 {c : Mm} {r : Nat} (hr : r < 3) : fX5_isThere_17 (nI r) c = some (if c.1 19 r = -1 then 0 else 1) := by
  unfold fX5_isThere_17 fX5_isThere_17_E
  rw [bo_v (c_num17 _ c), if_10, if_pos (inb_nI hr (by decide)), gd_t (inb_nI hr (by decide)), nI_clamp (by omega)]
  by_cases h : c.1 19 r = -1
  · rw [if_pos h, if_pos h]
  · rw [if_neg h, if_neg h]
theorem if_01 {α : Type} {p : Prop} [Decidable p] {a b : α} : (if (if p then (0 : Int32) else 1) = 0 then a else b) = if p then a else b := by
  by_cases h : p
  · rw [if_pos h, if_pos h, if_pos rfl]
  · rw [if_neg h, if_neg h, if_neg (by decide)]
theorem c_ref1 {c : Mm} {r : Nat} (hr : r < 6) : fX7_refusalOfRow_0_1 (nI r) c = if c.1 3 r = -1 then fX7_refuse 1 c else some (0, c) := by
  unfold fX7_refusalOfRow_0_1 fX7_refusalOfRow_0_1_E
  rw [bo_v (c_num1 _ c), if_10, if_pos (inb_nI hr (by decide)), bo_v (c_there1 hr), if_01, bd_id]
theorem c_ref1n {c : Mm} {x : Int32} (hx : ¬ inb x 6 = true) : fX7_refusalOfRow_0_1 x c = some (-1, c) := by
  unfold fX7_refusalOfRow_0_1 fX7_refusalOfRow_0_1_E
  rw [bo_v (c_num1 _ c), if_10, if_neg hx]
theorem c_ref10 {c : Mm} {r : Nat} (hr : r < 4) : fX7_refusalOfRow_0_10 (nI r) c = if c.1 12 r = -1 then fX7_refuse 1 c else some (0, c) := by
  unfold fX7_refusalOfRow_0_10 fX7_refusalOfRow_0_10_E
  rw [bo_v (c_num10 _ c), if_10, if_pos (inb_nI hr (by decide)), bo_v (c_there10 hr), if_01, bd_id]
theorem c_ref10n {c : Mm} {x : Int32} (hx : ¬ inb x 4 = true) : fX7_refusalOfRow_0_10 x c = some (-1, c) := by
  unfold fX7_refusalOfRow_0_10 fX7_refusalOfRow_0_10_E
  rw [bo_v (c_num10 _ c), if_10, if_neg hx]
theorem c_ref17 {c : Mm} {r : Nat} (hr : r < 3) : fX7_refusalOfRow_0_17 (nI r) c = if c.1 19 r = -1 then fX7_refuse 1 c else some (0, c) := by
  unfold fX7_refusalOfRow_0_17 fX7_refusalOfRow_0_17_E
  rw [bo_v (c_num17 _ c), if_10, if_pos (inb_nI hr (by decide)), bo_v (c_there17 hr), if_01, bd_id]
theorem c_ref17n {c : Mm} {x : Int32} (hx : ¬ inb x 3 = true) : fX7_refusalOfRow_0_17 x c = some (-1, c) := by
  unfold fX7_refusalOfRow_0_17 fX7_refusalOfRow_0_17_E
  rw [bo_v (c_num17 _ c), if_10, if_neg hx]
/-- refusals that come back as findings -/
theorem refuse_eq (f : Int32) {k : Nat} (hf : f = nI k) (hk : k < 6) (c : Mm) : ∃ c', fX7_refuse f c = some (-3, c') := by
  subst hf
  unfold fX7_refuse fX7_refuse_E
  simp only [nm]
  rw [gd_t (inb_nI (by omega) (by decide))]
  exact ⟨_, rfl⟩
theorem bd_ref {f : Int32} {k : Nat} (hf : f = nI k) (hk : k < 6) {c : Mm} {K : Mm → Option (Int32 × Mm)} : bd (fX7_refuse f c) (fun r w => if r = 0 then K w else some (r, w)) = fX7_refuse f c := by
  obtain ⟨c', h⟩ := refuse_eq f hf hk c
  rw [bd_v h, if_neg (by decide), h]
theorem find_eq (f : Int32) {k : Nat} (hf : f = nI k) (hk : k < 6) (c : Mm) : ∃ c', fX8_find f c = some (-3, c') := by
  subst hf
  unfold fX8_find fX8_find_E
  simp only [nm]
  rw [gd_t (inb_nI (by omega) (by decide))]
  exact ⟨_, rfl⟩
theorem bd_find {f : Int32} {k : Nat} (hf : f = nI k) (hk : k < 6) {c : Mm} {K : Mm → Option (Int32 × Mm)} : bd (fX8_find f c) (fun r w => if r = 0 then K w else some (r, w)) = fX8_find f c := by
  obtain ⟨c', h⟩ := find_eq f hf hk c
  rw [bd_v h, if_neg (by decide), h]
theorem bd_m1 {c : Mm} {K : Mm → Option (Int32 × Mm)} : bd (some ((-1 : Int32), c)) (fun r w => if r = 0 then K w else some (r, w)) = some (-1, c) := rfl
theorem bd_0 {c : Mm} {K : Mm → Option (Int32 × Mm)} : bd (some ((0 : Int32), c)) (fun r w => if r = 0 then K w else some (r, w)) = K c := rfl
theorem sim_tear {c m : Mm} (h : Rel c m) (x1 : Int32) : Sim (fX7_tear x1 c) (fX8_tear x1 m) := by
  unfold fX7_tear fX7_tear_E fX8_tear fX8_tear_E
  rw [bo_v (isRow_eq x1), if_10, bd_id]
  by_cases h1 : inb x1 6 = true
  · rw [if_pos h1]
    obtain ⟨r, hr, -, rfl⟩ := inb_ex h1
    rw [gd_t h1, nI_clamp (by omega), c_ref1 hr]
    rcases h.2.1.sz hr with ⟨e1, e2⟩ | ⟨n, hn, e1, e2⟩
    · rw [e2, if_neg m1_ge0, if_pos e1, bd_ref (f := 1) (k := 1) rfl (by decide)]
      exact sim_find h (k := 1) rfl (by decide) (by decide)
    · rw [e1, e2, if_neg (nI_ne_m1 (by omega)), if_pos (nI_ge0 (by omega)), bd_0, gd_t h1]
      simp only [nm]
      refine Sim.ret ?_
      obtain ⟨r1, r2, r3, r4⟩ := h
      refine ⟨r1.cg (fun p h1 h2 => sA_ne (by omega)) (fun p h1 h2 => sA_ne (by omega)) (by rw [sA_ne (by decide)]) (by rw [sA_ne (by decide)]) (by rw [sA_ne (by decide)]), ?_, r3.cg (fun p h1 h2 => sA_ne (by omega)) (sA_ne (by decide)) (sA_ne (by decide)), r4.cg (by rw [sA_ne (by decide)]) (by rw [sA_ne (by decide)]) rfl (sA_ne (by decide)) (by rw [sA_ne (by decide)]) (by rw [sA_ne (by decide)]) rfl (sA_ne (by decide))⟩
      intro k hk
      rw [sA_eq, sA_eq, sA_ne (by omega), sA_ne (by decide)]
      by_cases e : k = r
      · subst e
        rw [upd_eq, upd_eq]
        exact ⟨rfl, Or.inl rfl, (r2 k hk).2.2⟩
      · rw [upd_ne e, upd_ne e]
        exact r2 k hk
  · rw [if_neg h1, c_ref1n h1, bd_m1]
    exact Sim.ret h

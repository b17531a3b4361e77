/-! PURE: rows and texts, on -/
theorem sA_comm {w : Mm} {q q' k k' : Nat} {x x' : Int32} (h : q ≠ q') : sA (sA w q k x) q' k' x' = sA (sA w q' k' x') q k x := by
  unfold sA
  apply Prod.ext
  · funext p
    by_cases h1 : p = q
    · subst h1; simp [h]
    · by_cases h2 : p = q'
      · subst h2; simp [h1]
      · simp [h1, h2]
  · rfl
theorem Rel.tell {c m : Mm} (h : Rel c m) (v : Int32) : Rel (sA c 0 9 v) (sA m 0 12 v) := by
  obtain ⟨r1, r2, r3, r4⟩ := h
  refine ⟨r1.cg (fun p h1 h2 => sA_ne (by omega)) (fun p h1 h2 => sA_ne (by omega)) (by rw [sA_eq, upd_ne (by decide)]) (by rw [sA_eq, upd_ne (by decide)]) (by rw [sA_eq, upd_ne (by decide)]), r2.cg (fun p h1 h2 => sA_ne (by omega)) (sA_ne (by decide)) (sA_ne (by decide)), r3.cg (fun p h1 h2 => sA_ne (by omega)) (sA_ne (by decide)) (sA_ne (by decide)), ?_⟩
  refine ⟨by rw [sA_eq, upd_eq, sA_eq, upd_eq], r4.2.1, r4.2.2.1, by rw [sA_eq, upd_ne (by decide), sA_eq, upd_ne (by decide)]; exact r4.2.2.2.1, ?_⟩
  rw [sA_ne (by decide), sA_ne (by decide)]
  exact r4.2.2.2.2
theorem Rel.layRow {c m : Mm} (h : Rel c m) {r i : Nat} (hr : r < 6) (hi : i < 40) (v : Int32) : Rel (sA c (4 + r) i v) (sA m 7 (40 * r + i) v) := by
  obtain ⟨r1, r2, r3, r4⟩ := h
  refine ⟨r1.cg (fun p h1 h2 => sA_ne (by omega)) (fun p h1 h2 => sA_ne (by omega)) (by rw [sA_ne (by decide)]) (by rw [sA_ne (by decide)]) (by rw [sA_ne (by decide)]), ?_, r3.cg (fun p h1 h2 => sA_ne (by omega)) (sA_ne (by decide)) (sA_ne (by decide)), r4.cg (by rw [sA_ne (by omega)]) (by rw [sA_ne (by omega)]) rfl (sA_ne (by omega)) (by rw [sA_ne (by decide)]) (by rw [sA_ne (by decide)]) rfl (sA_ne (by decide))⟩
  intro k hk
  obtain ⟨g1, g2, g3⟩ := r2 k hk
  rw [sA_ne (show 3 ≠ 4 + r by omega), sA_ne (show 6 ≠ 7 by decide), sA_eq]
  refine ⟨g1, g2, fun j hj => ?_⟩
  by_cases e : k = r
  · subst e
    rw [sA_eq]
    by_cases e2 : j = i
    · subst e2
      rw [upd_eq, upd_eq]
    · rw [upd_ne e2, upd_ne (by omega)]
      exact g3 j hj
  · rw [sA_ne (by omega), upd_ne (by omega)]
    exact g3 j hj
theorem Rel.layText {c m : Mm} (h : Rel c m) {r i : Nat} (hr : r < 4) (hi : i < 60) (v : Int32) (h1 : -128 ≤ v.toInt) (h2 : v.toInt < 128) : Rel (sA c (13 + r) i v) (sA m 9 (60 * r + i) v) := by
  obtain ⟨r1, r2, r3, r4⟩ := h
  refine ⟨r1.cg (fun p h1 h2 => sA_ne (by omega)) (fun p h1 h2 => sA_ne (by omega)) (by rw [sA_ne (by decide)]) (by rw [sA_ne (by decide)]) (by rw [sA_ne (by decide)]), r2.cg (fun p h1 h2 => sA_ne (by omega)) (sA_ne (by decide)) (sA_ne (by decide)), ?_, r4.cg (by rw [sA_ne (by omega)]) (by rw [sA_ne (by omega)]) rfl (sA_ne (by omega)) (by rw [sA_ne (by decide)]) (by rw [sA_ne (by decide)]) rfl (sA_ne (by decide))⟩
  intro k hk
  obtain ⟨g1, g2, g3⟩ := r3 k hk
  rw [sA_ne (show 12 ≠ 13 + r by omega), sA_ne (show 8 ≠ 9 by decide), sA_eq]
  refine ⟨g1, g2, fun j hj => ?_⟩
  by_cases e : k = r
  · subst e
    rw [sA_eq]
    by_cases e2 : j = i
    · subst e2
      rw [upd_eq, upd_eq]
      exact ⟨rfl, h1, h2⟩
    · rw [upd_ne e2, upd_ne (by omega)]
      exact g3 j hj
  · rw [sA_ne (by omega), upd_ne (by omega)]
    exact g3 j hj
theorem Rel.newText {c m : Mm} (h : Rel c m) {r n : Nat} (hr : r < 4) (hn : n ≤ 60) : Rel (sF (sA c 12 r (nI n)) (13 + r) (fun t => if t < 60 then 32 else c.1 (13 + r) t)) (sF (sA m 8 r (nI n)) 9 (fun t => if 60 * r ≤ t ∧ t < 60 * r + 60 then 32 else m.1 9 t)) := by
  obtain ⟨r1, r2, r3, r4⟩ := h
  refine ⟨r1.cg (fun p h1 h2 => by rw [sF_ne (by omega), sA_ne (by omega)]) (fun p h1 h2 => by rw [sF_ne (by omega), sA_ne (by omega)]) (by rw [sF_ne (by decide), sA_ne (by decide)]) (by rw [sF_ne (by decide), sA_ne (by decide)]) (by rw [sF_ne (by decide), sA_ne (by decide)]), r2.cg (fun p h1 h2 => by rw [sF_ne (by omega), sA_ne (by omega)]) (by rw [sF_ne (by decide), sA_ne (by decide)]) (by rw [sF_ne (by decide), sA_ne (by decide)]), ?_, r4.cg (by rw [sF_ne (by omega), sA_ne (by decide)]) (by rw [sF_ne (by omega), sA_ne (by decide)]) rfl (by rw [sF_ne (by omega), sA_ne (by decide)]) (by rw [sF_ne (by decide), sA_ne (by decide)]) (by rw [sF_ne (by decide), sA_ne (by decide)]) rfl (by rw [sF_ne (by decide), sA_ne (by decide)])⟩
  intro k hk
  rw [sF_ne (by omega), sA_eq, sF_ne (by decide), sA_eq, sF_eq]
  by_cases e : k = r
  · subst e
    rw [upd_eq, upd_eq, sF_eq]
    refine ⟨rfl, Or.inr ⟨n, hn, rfl⟩, fun i hi => ?_⟩
    rw [if_pos hi, if_pos (by omega)]
    exact ⟨rfl, by decide, by decide⟩
  · rw [upd_ne e, upd_ne e, sF_ne (by omega), sA_ne (by omega)]
    refine ⟨(r3 k hk).1, (r3 k hk).2.1, fun i hi => ?_⟩
    rw [if_neg (by omega)]
    exact (r3 k hk).2.2 i hi
theorem c_place1 {c : Mm} {r n : Nat} (hr : r < 6) (hn : n ≤ 40) (hz : c.1 3 r = nI n) (x : Int32) : fX7_refusalOfPlace_0_1 (nI r) x c = if inb x n = true then some (0, c) else fX7_refuse 2 c := by
  unfold fX7_refusalOfPlace_0_1 fX7_refusalOfPlace_0_1_E
  rw [c_ref1 hr, hz, if_neg (nI_ne_m1 (by omega)), bd_0, bd_id]
  have : fX5_hasPlace_1 (nI r) x c = some (if inb x n = true then 1 else 0) := by
    unfold fX5_hasPlace_1 fX5_hasPlace_1_E
    rw [bo_v (c_there1 hr), hz, if_neg (nI_ne_m1 (by omega)), if_neg (by decide), gd_t (inb_nI hr (by decide)), nI_clamp (by omega), hz]
    exact num_eq x (nI n) n (nI_toInt (by omega))
  rw [bo_v this, if_10]
theorem c_place1m {c : Mm} {r : Nat} (hr : r < 6) (hz : c.1 3 r = -1) (x : Int32) : fX7_refusalOfPlace_0_1 (nI r) x c = fX7_refuse 1 c := by
  unfold fX7_refusalOfPlace_0_1 fX7_refusalOfPlace_0_1_E
  rw [c_ref1 hr, if_pos hz]
  exact bd_ref (k := 1) rfl (by decide)
theorem c_place1n {c : Mm} {y : Int32} (hy : ¬ inb y 6 = true) (x : Int32) : fX7_refusalOfPlace_0_1 y x c = some (-1, c) := by
  unfold fX7_refusalOfPlace_0_1 fX7_refusalOfPlace_0_1_E
  rw [c_ref1n hy]
  exact bd_m1
theorem c_place10 {c : Mm} {r n : Nat} (hr : r < 4) (hn : n ≤ 60) (hz : c.1 12 r = nI n) (x : Int32) : fX7_refusalOfPlace_0_10 (nI r) x c = if inb x n = true then some (0, c) else fX7_refuse 2 c := by
  unfold fX7_refusalOfPlace_0_10 fX7_refusalOfPlace_0_10_E
  rw [c_ref10 hr, hz, if_neg (nI_ne_m1 (by omega)), bd_0, bd_id]
  have : fX5_hasPlace_10 (nI r) x c = some (if inb x n = true then 1 else 0) := by
    unfold fX5_hasPlace_10 fX5_hasPlace_10_E
    rw [bo_v (c_there10 hr), hz, if_neg (nI_ne_m1 (by omega)), if_neg (by decide), gd_t (inb_nI hr (by decide)), nI_clamp (by omega), hz]
    exact num_eq x (nI n) n (nI_toInt (by omega))
  rw [bo_v this, if_10]
theorem c_place10m {c : Mm} {r : Nat} (hr : r < 4) (hz : c.1 12 r = -1) (x : Int32) : fX7_refusalOfPlace_0_10 (nI r) x c = fX7_refuse 1 c := by
  unfold fX7_refusalOfPlace_0_10 fX7_refusalOfPlace_0_10_E
  rw [c_ref10 hr, if_pos hz]
  exact bd_ref (k := 1) rfl (by decide)
theorem c_place10n {c : Mm} {y : Int32} (hy : ¬ inb y 4 = true) (x : Int32) : fX7_refusalOfPlace_0_10 y x c = some (-1, c) := by
  unfold fX7_refusalOfPlace_0_10 fX7_refusalOfPlace_0_10_E
  rw [c_ref10n hy]
  exact bd_m1
theorem in_sz {n : Nat} (hn : n < 1000) (x : Int32) : fX8_in x.toInt64 0 (nI n - 1).toInt64 = some (if inb x n = true then 1 else 0) :=
  in_n x _ (nI n - 1) n rfl (by rw [nI_lit1, pk_sub_toInt (by omega) (by decide)]; rfl)
theorem m_refused {m : Mm} {r n : Nat} (hr : r < 6) (hn : n ≤ 40) (hz : m.1 6 r = nI n) (x : Int32) : fX8_refused (nI r) x m = if inb x n = true then some (0, m) else fX8_find 2 m := by
  unfold fX8_refused fX8_refused_E
  rw [bo_v (isRow_eq _), if_10, if_pos (inb_nI hr (by decide)), gd_t (inb_nI hr (by decide)), nI_clamp (by omega), hz, if_pos (nI_ge0 (by omega)), bo_v (in_sz (by omega) x), if_10, bd_id]
theorem m_refusedm {m : Mm} {r : Nat} (hr : r < 6) (hz : m.1 6 r = -1) (x : Int32) : fX8_refused (nI r) x m = fX8_find 1 m := by
  unfold fX8_refused fX8_refused_E
  rw [bo_v (isRow_eq _), if_10, if_pos (inb_nI hr (by decide)), gd_t (inb_nI hr (by decide)), nI_clamp (by omega), hz, if_neg m1_ge0, bd_id]
theorem m_refusedn {m : Mm} {y : Int32} (hy : ¬ inb y 6 = true) (x : Int32) : fX8_refused y x m = some (-1, m) := by
  unfold fX8_refused fX8_refused_E
  rw [bo_v (isRow_eq _), if_10, if_neg hy]
theorem tell_eq (v : Int32) (m : Mm) : fX8_tell v m = some (1, sA m 0 12 v) := rfl
theorem sim_lay {c m : Mm} (h : Rel c m) (x1 x2 x3 : Int32) : Sim (fX7_lay x1 x2 x3 c) (fX8_lay x1 x2 x3 m) := by
  unfold fX7_lay fX7_lay_E fX8_lay fX8_lay_E
  by_cases h1 : inb x1 6 = true
  · obtain ⟨r, hr, -, rfl⟩ := inb_ex h1
    rcases h.2.1.sz hr with ⟨e1, e2⟩ | ⟨n, hn, e1, e2⟩
    · rw [c_place1m hr e1, m_refusedm hr e2, bd_ref (f := 1) (k := 1) rfl (by decide), bd_find (f := 1) (k := 1) rfl (by decide)]
      exact sim_find h (k := 1) rfl (by decide) (by decide)
    · rw [c_place1 hr hn e1, m_refused hr hn e2]
      by_cases h2 : inb x2 n = true
      · rw [if_pos h2, if_pos h2, bd_0, bd_0]
        obtain ⟨i, hi, -, rfl⟩ := inb_ex h2
        simp only [nm, bd_id]
        rw [gd_t h1, gd_t (inb_nI (by omega) (by decide)), l40, pk_mul, nI_add, gd_t (inb_nI (by omega) (by decide)), nI_clamp (show 40 * r + i < 2 ^ 31 by omega), nI_clamp (show r < 2 ^ 31 by omega), nI_clamp (show i < 2 ^ 31 by omega), tell_eq, (h.2.1 r hr).2.2 i (by omega), sA_comm (show 7 ≠ 0 by decide)]
        exact Sim.ret ((h.tell _).layRow hr (by omega) x3)
      · rw [if_neg h2, if_neg h2, bd_ref (f := 2) (k := 2) rfl (by decide), bd_find (f := 2) (k := 2) rfl (by decide)]
        exact sim_find h (k := 2) rfl (by decide) (by decide)
  · rw [c_place1n h1, m_refusedn h1, bd_m1, bd_m1]
    exact Sim.ret h
theorem sim_at {c m : Mm} (h : Rel c m) (x1 x2 : Int32) : Sim (fX7_at x1 x2 c) (fX8_at x1 x2 m) := by
  unfold fX7_at fX7_at_E fX8_at fX8_at_E
  by_cases h1 : inb x1 6 = true
  · obtain ⟨r, hr, -, rfl⟩ := inb_ex h1
    rcases h.2.1.sz hr with ⟨e1, e2⟩ | ⟨n, hn, e1, e2⟩
    · rw [c_place1m hr e1, m_refusedm hr e2, bd_ref (f := 1) (k := 1) rfl (by decide), bd_find (f := 1) (k := 1) rfl (by decide)]
      exact sim_find h (k := 1) rfl (by decide) (by decide)
    · rw [c_place1 hr hn e1, m_refused hr hn e2]
      by_cases h2 : inb x2 n = true
      · rw [if_pos h2, if_pos h2, bd_0, bd_0]
        obtain ⟨i, hi, -, rfl⟩ := inb_ex h2
        simp only [nm, bd_id]
        rw [gd_t h1, gd_t (inb_nI (by omega) (by decide)), l40, pk_mul, nI_add, gd_t (inb_nI (by omega) (by decide)), nI_clamp (show 40 * r + i < 2 ^ 31 by omega), nI_clamp (show r < 2 ^ 31 by omega), nI_clamp (show i < 2 ^ 31 by omega), tell_eq, (h.2.1 r hr).2.2 i (by omega)]
        exact Sim.ret (h.tell _)
      · rw [if_neg h2, if_neg h2, bd_ref (f := 2) (k := 2) rfl (by decide), bd_find (f := 2) (k := 2) rfl (by decide)]
        exact sim_find h (k := 2) rfl (by decide) (by decide)
  · rw [c_place1n h1, m_refusedn h1, bd_m1, bd_m1]
    exact Sim.ret h
theorem m_text {r : Nat} (hr : r < 4) (v : Int32) (m : Mm) : fX8_text_34 (nI r) v FU 0 m = some (v, sF m 9 (fun t => if 60 * r ≤ t ∧ t < 60 * r + 60 then 32 else m.1 9 t)) := by
  have h := lp_i (f := fX8_text_34 (nI r) v) (step := fun j w => sA w 9 (60 * r + j) 32) (fin := fun w => some (v, w)) (fun _ _ => True) 60 (fun n j w hj _ => ⟨by
    rw [fX8_text_34, l60, if_neg (nI_ge hj (by decide)), pk_mul, nI_add, gd_t (inb_nI (by omega) (by decide)), nI_clamp (by omega), nI_1]; rfl, trivial⟩) (fun n w _ => by rw [fX8_text_34, if_pos (by decide)]) 60 0 FU m rfl (FU_lt (by decide)) trivial
  have e : (0 : Int32) = nI 0 := rfl
  rw [e, h, itr_fill]
  rfl
theorem sim_text {c m : Mm} (h : Rel c m) (x1 x2 : Int32) : Sim (fX7_text x1 x2 c) (fX8_text x1 x2 m) := by
  unfold fX7_text fX7_text_E fX8_text fX8_text_E
  rw [bo_v (c_num10 x1 c), bo_v (isText_eq x1), if_10, if_10, bd_id, bd_id]
  by_cases h1 : inb x1 4 = true
  · rw [if_pos h1, if_pos h1]
    by_cases h2 : x2 ≤ 60
    · rw [if_pos h2, if_pos h2]
      by_cases h3 : 0 ≤ x2
      · rw [if_pos h3, if_pos h3]
        obtain ⟨r, hr, -, rfl⟩ := inb_ex h1
        obtain ⟨n, hn, rfl⟩ := nI_of2 (M := 60) (n := 60) rfl (Int32.not_lt.mpr h3) h2
        simp only [nm]
        rw [bo_v (c_make10 hr hn 32 c), gd_t h1, m_text hr, nI_clamp (by omega), sA_ne (by decide)]
        exact Sim.ret (h.newText hr hn)
      · rw [if_neg h3, if_neg h3]
        exact sim_find h (k := 5) rfl (by decide) (by decide)
    · rw [if_neg h2, if_neg h2]
      exact Sim.ret h
  · rw [if_neg h1, if_neg h1]
    exact Sim.ret h
theorem sim_put {c m : Mm} (h : Rel c m) (x1 x2 x3 : Int32) : Sim (fX7_put x1 x2 x3 c) (fX8_put x1 x2 x3 m) := by
  unfold fX7_put fX7_put_E fX8_put fX8_put_E
  rw [bo_v (isText_eq x1), if_10, bd_id, bd_id]
  by_cases h1 : inb x1 4 = true
  · rw [if_pos h1, gd_t h1]
    obtain ⟨r, hr, -, rfl⟩ := inb_ex h1
    rw [nI_clamp (by omega)]
    rcases h.2.2.1.sz hr with ⟨e1, e2⟩ | ⟨n, hn, e1, e2⟩
    · rw [c_place10m hr e1, e2, if_neg m1_ge0, bd_ref (f := 1) (k := 1) rfl (by decide)]
      exact sim_find h (k := 1) rfl (by decide) (by decide)
    · rw [c_place10 hr hn e1, e2, if_pos (nI_ge0 (by omega)), bo_v (in_sz (by omega) x2), if_10]
      by_cases h2 : inb x2 n = true
      · rw [if_pos h2, if_pos h2, bd_0]
        obtain ⟨i, hi, -, rfl⟩ := inb_ex h2
        simp only [nm]
        have hb := fb_byte_rng x3
        rw [gd_t h1, gd_t (inb_nI (by omega) (by decide)), l60, pk_mul, nI_add, gd_t (inb_nI (by omega) (by decide)), nI_clamp (show 60 * r + i < 2 ^ 31 by omega), nI_clamp (show i < 2 ^ 31 by omega), ((h.2.2.1 r hr).2.2 i (by omega)).1]
        exact Sim.ret (h.layText hr (by omega) _ hb.1 hb.2)
      · rw [if_neg h2, if_neg h2, bd_ref (f := 2) (k := 2) rfl (by decide)]
        exact sim_find h (k := 2) rfl (by decide) (by decide)
  · rw [if_neg h1, c_place10n h1, bd_m1]
    exact Sim.ret h
/-! the mean -/
def smL (f : Nat → Int32) : Nat → Int64
  | 0 => 0
  | j + 1 => smL f j + (f j).toInt64
theorem c_mean {c : Mm} {r n : Nat} (hr : r < 6) (hn : n ≤ 40) (h0 : 0 < n) : ∀ k j N, j + k = n → k < N → fX7_mean_42 (nI r) (nI n) N (smL (c.1 (4 + r)) j) (nI j) c = some (1, sA c 0 9 ((smL (c.1 (4 + r)) n / (nI n).toInt64).toInt32)) := by
  have hz : ¬ (nI n).toInt64 = 0 := by
    have e : (0 : Int64) = (0 : Int32).toInt64 := rfl
    rw [e, fa_wide_eq]
    exact nI_ne0 h0 (by omega)
  intro k
  induction k with
  | zero =>
    intro j N hj hN
    obtain ⟨N, rfl⟩ : ∃ t, N = t + 1 := ⟨N - 1, by omega⟩
    have : j = n := by omega
    subst this
    rw [fX7_mean_42, if_pos (nI_le (Nat.le_refl _) (by omega)), gd_t hz]
    rfl
  | succ k ih =>
    intro j N hj hN
    obtain ⟨N, rfl⟩ : ∃ t, N = t + 1 := ⟨N - 1, by omega⟩
    rw [fX7_mean_42, if_neg (nI_ge (by omega) (by omega)), gd_t (inb_nI hr (by decide)), gd_t (inb_nI (by omega) (by decide)), nI_clamp (show j < 2 ^ 31 by omega), nI_clamp (show r < 2 ^ 31 by omega), nI_1]
    exact ih (j + 1) N (by omega) (by omega)
theorem m_mean {m : Mm} {r n : Nat} (hr : r < 6) (hn : n ≤ 40) (h0 : 0 < n) (hs : m.1 6 r = nI n) : ∀ k j N, j + k = n → k < N → fX8_mean_44 (nI r) N (smL (fun i => m.1 7 (40 * r + i)) j) (nI j) m = some (1, sA m 0 12 ((smL (fun i => m.1 7 (40 * r + i)) n / (nI n).toInt64).toInt32)) := by
  have hz : ¬ (nI n).toInt64 = 0 := by
    have e : (0 : Int64) = (0 : Int32).toInt64 := rfl
    rw [e, fa_wide_eq]
    exact nI_ne0 h0 (by omega)
  intro k
  induction k with
  | zero =>
    intro j N hj hN
    obtain ⟨N, rfl⟩ : ∃ t, N = t + 1 := ⟨N - 1, by omega⟩
    have : j = n := by omega
    subst this
    rw [fX8_mean_44, gd_t (inb_nI hr (by decide)), nI_clamp (show r < 2 ^ 31 by omega), hs, if_pos (nI_le (Nat.le_refl _) (by omega)), gd_t hz]
    rfl
  | succ k ih =>
    intro j N hj hN
    obtain ⟨N, rfl⟩ : ∃ t, N = t + 1 := ⟨N - 1, by omega⟩
    rw [fX8_mean_44, gd_t (inb_nI hr (by decide)), nI_clamp (show r < 2 ^ 31 by omega), hs, if_neg (nI_ge (by omega) (by omega)), l40, pk_mul, nI_add, gd_t (inb_nI (by omega) (by decide)), nI_clamp (show 40 * r + j < 2 ^ 31 by omega), nI_1]
    exact ih (j + 1) N (by omega) (by omega)
theorem smL_cong {f g : Nat → Int32} : ∀ {n : Nat}, (∀ i, i < n → f i = g i) → smL f n = smL g n
  | 0, _ => rfl
  | n + 1, h => by rw [smL, smL, smL_cong (fun i hi => h i (by omega)), h n (by omega)]
theorem sim_mean {c m : Mm} (h : Rel c m) (x1 : Int32) : Sim (fX7_mean x1 c) (fX8_mean x1 m) := by
  unfold fX7_mean fX7_mean_E fX8_mean fX8_mean_E
  rw [bo_v (isRow_eq x1), if_10, bd_id, bd_id]
  by_cases h1 : inb x1 6 = true
  · rw [if_pos h1, gd_t h1]
    obtain ⟨r, hr, -, rfl⟩ := inb_ex h1
    rw [nI_clamp (by omega), c_ref1 hr]
    rcases h.2.1.sz hr with ⟨e1, e2⟩ | ⟨n, hn, e1, e2⟩
    · rw [e2, if_neg m1_ge0, if_pos e1, bd_ref (f := 1) (k := 1) rfl (by decide)]
      exact sim_find h (k := 1) rfl (by decide) (by decide)
    · rw [e1, e2, if_neg (nI_ne_m1 (by omega)), if_pos (nI_ge0 (by omega)), bd_0, gd_t h1, e1]
      simp only [nm]
      rw [bd_id]
      by_cases h0 : n = 0
      · rw [h0, if_pos (by decide), if_pos (by decide)]
        exact sim_find h (k := 4) rfl (by decide) (by decide)
      · rw [if_neg (nI_ne0 (by omega) (by omega)), if_neg (nI_ne0 (by omega) (by omega))]
        have a := c_mean (c := c) hr hn (by omega) n 0 FU (by omega) (FU_lt (by omega))
        have b := m_mean (m := m) hr hn (by omega) e2 n 0 FU (by omega) (FU_lt (by omega))
        rw [show smL (c.1 (4 + r)) 0 = 0 from rfl, show nI 0 = 0 from rfl] at a
        rw [show smL (fun i => m.1 7 (40 * r + i)) 0 = 0 from rfl, show nI 0 = 0 from rfl] at b
        rw [a, b, smL_cong (f := c.1 (4 + r)) (g := fun i => m.1 7 (40 * r + i)) (fun i hi => (h.2.1 r hr).2.2 i (by omega))]
        exact Sim.ret (h.tell _)
  · rw [if_neg h1, c_ref1n h1, bd_m1]
    exact Sim.ret h

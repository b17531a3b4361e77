/-! PURE: copying between rows -/
theorem itr_fwd (q S D e : Nat) (hab : D ≤ S ∨ S + e ≤ D) : ∀ (k j : Nat) (w : Mm), j + k ≤ e → itr (fun j w => sA w q (D + j) (w.1 q (S + j))) j k w = sF w q (fun t => if D + j ≤ t ∧ t < D + j + k then w.1 q (S + (t - D)) else w.1 q t) := by
  intro k
  induction k with
  | zero =>
    intro j w _
    show w = _
    have : (fun t => if D + j ≤ t ∧ t < D + j + 0 then w.1 q (S + (t - D)) else w.1 q t) = w.1 q := by
      funext t
      rw [if_neg (by omega)]
    rw [this, sF_self]
  | succ k ih =>
    intro j w hj
    show itr _ (j + 1) k (sA w q (D + j) (w.1 q (S + j))) = _
    rw [ih _ _ (by omega), sF_sA]
    congr 1
    funext t
    rw [sA_eq]
    by_cases h : t = D + j
    · subst h
      rw [if_neg (by omega), upd_eq, if_pos (by omega), Nat.add_sub_cancel_left]
    · rw [upd_ne h]
      by_cases h2 : D + j ≤ t ∧ t < D + j + (k + 1)
      · rw [if_pos (by omega), if_pos h2, upd_ne (by omega)]
      · rw [if_neg (by omega), if_neg h2]
theorem itr_bwd (q S D e : Nat) (hab : S ≤ D ∨ D + e ≤ S) : ∀ (k j : Nat) (w : Mm), j + k = e → itr (fun j w => sA w q (D + (e - 1 - j)) (w.1 q (S + (e - 1 - j)))) j k w = sF w q (fun t => if D ≤ t ∧ t < D + k then w.1 q (S + (t - D)) else w.1 q t) := by
  intro k
  induction k with
  | zero =>
    intro j w _
    show w = _
    have : (fun t => if D ≤ t ∧ t < D + 0 then w.1 q (S + (t - D)) else w.1 q t) = w.1 q := by
      funext t
      rw [if_neg (by omega)]
    rw [this, sF_self]
  | succ k ih =>
    intro j w hj
    show itr _ (j + 1) k (sA w q (D + (e - 1 - j)) (w.1 q (S + (e - 1 - j)))) = _
    rw [ih _ _ (by omega), sF_sA, show e - 1 - j = k by omega]
    congr 1
    funext t
    rw [sA_eq]
    by_cases h : t = D + k
    · subst h
      rw [if_neg (by omega), upd_eq, if_pos (by omega), Nat.add_sub_cancel_left]
    · rw [upd_ne h]
      by_cases h2 : D ≤ t ∧ t < D + (k + 1)
      · rw [if_pos (by omega), if_pos h2, upd_ne (by omega)]
      · rw [if_neg (by omega), if_neg h2]
theorem toI64 (x : Int32) : x.toInt64.toInt = x.toInt := by
  rw [Int32.toInt_toInt64]
theorem c_places {c : Mm} {r s : Nat} (hr : r < 6) (hs : s ≤ 40) (hz : c.1 3 r = nI s) (x y : Int32) (hy : 0 ≤ y.toInt) : fX5_hasPlaces_1 (nI r) x y c = some (if 0 ≤ x.toInt ∧ x.toInt + y.toInt ≤ s then 1 else 0) := by
  unfold fX5_hasPlaces_1 fX5_hasPlaces_1_E
  have h0 : (0 : Int32).toInt = 0 := rfl
  have es : (nI s).toInt = s := nI_toInt (by omega)
  rw [bo_v (c_there1 hr), hz, if_neg (nI_ne_m1 (by omega)), if_neg (by decide), gd_t (inb_nI hr (by decide)), nI_clamp (by omega), hz]
  by_cases h1 : x < 0
  · rw [if_pos h1, if_neg]
    rw [Int32.lt_iff_toInt_lt, h0] at h1
    omega
  · rw [if_neg h1]
    rw [Int32.lt_iff_toInt_lt, h0] at h1
    by_cases h2 : nI s < x
    · rw [if_pos h2, if_neg]
      rw [Int32.lt_iff_toInt_lt, es] at h2
      omega
    · rw [if_neg h2]
      rw [Int32.lt_iff_toInt_lt, es] at h2
      rw [if_neg (by rw [Int32.lt_iff_toInt_lt, h0]; omega)]
      have ed : (nI s - x).toInt = s - x.toInt := by
        rw [fb_subI (by rw [es]; omega) (by rw [es]; omega), es]
      by_cases h3 : nI s - x < y
      · rw [if_pos h3, if_neg]
        rw [Int32.lt_iff_toInt_lt, ed] at h3
        omega
      · rw [if_neg h3, if_pos]
        rw [Int32.lt_iff_toInt_lt, ed] at h3
        omega
theorem m_span {m : Mm} {r s : Nat} (hr : r < 6) (hs : s ≤ 40) (hz : m.1 6 r = nI s) (x y : Int32) : fX8_isSpan (nI r) x y m = some (if 0 ≤ x.toInt ∧ x.toInt + y.toInt ≤ s then 1 else 0) := by
  unfold fX8_isSpan fX8_isSpan_E
  have h0 : (0 : Int32).toInt = 0 := rfl
  have es : (nI s).toInt = s := nI_toInt (by omega)
  have bx := fb_rng x
  have bY := fb_rng y
  rw [gd_t (inb_nI hr (by decide)), nI_clamp (by omega), hz]
  have ea : (x.toInt64 + y.toInt64).toInt = x.toInt + y.toInt := by
    rw [fb_addL (by rw [toI64, toI64]; omega) (by rw [toI64, toI64]; omega), toI64, toI64]
  by_cases h1 : x < 0
  · rw [if_pos h1, if_neg]
    rw [Int32.lt_iff_toInt_lt, h0] at h1
    omega
  · rw [if_neg h1]
    rw [Int32.lt_iff_toInt_lt, h0] at h1
    by_cases h2 : 0 < lg_cmp (x.toInt64 + y.toInt64) (nI s).toInt64
    · rw [if_pos h2, if_neg]
      rw [lg_gt, fa_lt64, ea, toI64, es] at h2
      omega
    · rw [if_neg h2, if_pos]
      rw [lg_gt, fa_lt64, ea, toI64, es] at h2
      omega
theorem m_copy {m : Mm} {r i to j n : Nat} (hr : r < 6) (ht : to < 6) (hi : i + n ≤ 40) (hj : j + n ≤ 40) (b : Int32) (hb : b = if nI j ≤ nI i then 0 else 1) : fX8_copy_96 (nI r) (nI i) (nI to) (nI j) (nI n) b FU 0 m = some (1, sF m 7 (fun t => if 40 * to + j ≤ t ∧ t < 40 * to + j + n then m.1 7 (40 * r + i + (t - (40 * to + j))) else m.1 7 t)) := by
  have e : (0 : Int32) = nI 0 := rfl
  have step : ∀ (N a : Nat) (w : Mm) (k : Int32 → Mm → Option (Int32 × Mm)) (z : Nat), a < n → z < n → fX8_copy_120 k (nI r) (nI i) (nI to) (nI j) (nI n) b (nI a) (nI z) w = k (nI (a + 1)) (sA w 7 (40 * to + j + z) (w.1 7 (40 * r + i + z))) := by
    intro N a w k z ha hz
    unfold fX8_copy_120
    simp only [nm]
    rw [l40, pk_mul, pk_mul, nI_add, nI_add, nI_add, nI_add, gd_t (inb_nI (by omega) (by decide)), gd_t (inb_nI (by omega) (by decide)), nI_clamp (by omega), nI_clamp (by omega), nI_1]
  by_cases h : nI j ≤ nI i
  · rw [if_pos h] at hb
    have hji : j ≤ i := (nI_leI (by omega) (by omega)).mp h
    have hl := lp_i (f := fX8_copy_96 (nI r) (nI i) (nI to) (nI j) (nI n) b) (step := fun a w => sA w 7 (40 * to + j + a) (w.1 7 (40 * r + i + a))) (fin := fun w => some (1, w)) (fun _ _ => True) n (fun N a w ha _ => ⟨by
      rw [fX8_copy_96, if_neg (nI_ge ha (by omega)), if_pos hb, step N a w _ a ha ha], trivial⟩) (fun N w _ => by rw [fX8_copy_96, if_pos (nI_le (Nat.le_refl _) (by omega))]) n 0 FU m (by omega) (FU_lt (by omega)) trivial
    rw [e, hl]
    by_cases q : r = to
    · rw [itr_fwd 7 (40 * r + i) (40 * to + j) n (by omega) n 0 m (by omega)]
      rfl
    · rw [itr_copy 7 (40 * r + i) (40 * to + j) n (by omega) n 0 m (by omega)]
      rfl
  · rw [if_neg h] at hb
    have hji : i < j := Nat.lt_of_not_le (fun q => h ((nI_leI (show j < 2 ^ 31 by omega) (show i < 2 ^ 31 by omega)).mpr q))
    have hl := lp_i (f := fX8_copy_96 (nI r) (nI i) (nI to) (nI j) (nI n) b) (step := fun a w => sA w 7 (40 * to + j + (n - 1 - a)) (w.1 7 (40 * r + i + (n - 1 - a)))) (fin := fun w => some (1, w)) (fun _ _ => True) n (fun N a w ha _ => ⟨by
      rw [fX8_copy_96, if_neg (nI_ge ha (by omega)), if_neg (by rw [hb]; decide), nI_lit1, pk_sub (by omega), pk_sub (by omega), step N a w _ (n - 1 - a) ha (by omega)], trivial⟩) (fun N w _ => by rw [fX8_copy_96, if_pos (nI_le (Nat.le_refl _) (by omega))]) n 0 FU m (by omega) (FU_lt (by omega)) trivial
    rw [e, hl, itr_bwd 7 (40 * r + i) (40 * to + j) n (by by_cases q : r = to <;> omega) n 0 m (by omega)]
theorem Rel.copy {c m : Mm} (h : Rel c m) {r i to j n : Nat} (hr : r < 6) (ht : to < 6) (hi : i + n ≤ 40) (hj : j + n ≤ 40) : Rel (sF c (4 + to) (va_cpy (c.1 (4 + r)) (c.1 (4 + to)) i j n)) (sF m 7 (fun t => if 40 * to + j ≤ t ∧ t < 40 * to + j + n then m.1 7 (40 * r + i + (t - (40 * to + j))) else m.1 7 t)) := by
  obtain ⟨r1, r2, r3, r4⟩ := h
  refine ⟨r1.cg (fun p h1 h2 => sF_ne (by omega)) (fun p h1 h2 => sF_ne (by omega)) (by rw [sF_ne (by decide)]) (by rw [sF_ne (by decide)]) (by rw [sF_ne (by decide)]), ?_, r3.cg (fun p h1 h2 => sF_ne (by omega)) (sF_ne (by decide)) (sF_ne (by decide)), r4.cg (by rw [sF_ne (by omega)]) (by rw [sF_ne (by omega)]) rfl (sF_ne (by omega)) (by rw [sF_ne (by decide)]) (by rw [sF_ne (by decide)]) rfl (sF_ne (by decide))⟩
  intro k hk
  obtain ⟨g1, g2, g3⟩ := r2 k hk
  rw [sF_ne (show 3 ≠ 4 + to by omega), sF_ne (show 6 ≠ 7 by decide), sF_eq]
  refine ⟨g1, g2, fun a ha => ?_⟩
  by_cases e : k = to
  · subst e
    rw [sF_eq]
    by_cases e2 : j ≤ a ∧ a < j + n
    · rw [pk_cpy_in e2.1 e2.2, if_pos (by omega), (r2 r hr).2.2 (i + (a - j)) (by omega), show 40 * r + i + (40 * k + a - (40 * k + j)) = 40 * r + (i + (a - j)) by omega]
    · rw [pk_cpy_out (by omega), if_neg (by omega)]
      exact g3 a ha
  · rw [sF_ne (by omega), if_neg (by omega)]
    exact g3 a ha
theorem sim_copy {c m : Mm} (h : Rel c m) (x1 x2 x3 x4 x5 : Int32) : Sim (fX7_copy x1 x2 x3 x4 x5 c) (fX8_copy x1 x2 x3 x4 x5 m) := by
  unfold fX7_copy fX7_copy_E fX8_copy fX8_copy_E fX7_copy_57 fX7_copy_92 fX8_copy_45 fX8_copy_74
  have h0 : (0 : Int32).toInt = 0 := rfl
  rw [bo_v (c_num1 x1 c), bo_v (isRow_eq x1), bo_v (c_num1 x3 c), bo_v (isRow_eq x3), if_10, if_10, if_10, if_10, bd_id, bd_id, bd_id, bd_id, bd_id, bd_id]
  by_cases h1 : inb x1 6 = true
  · rw [if_pos h1, if_pos h1]
    by_cases h3 : inb x3 6 = true
    · rw [if_pos h3, if_pos h3, gd_t h1, gd_t h1, gd_t h3, gd_t h3]
      obtain ⟨r, hr, -, rfl⟩ := inb_ex h1
      obtain ⟨to, ht, -, rfl⟩ := inb_ex h3
      by_cases h5 : 0 ≤ x5
      · rw [if_pos h5, if_pos h5, nI_clamp (show r < 2 ^ 31 by omega), nI_clamp (show to < 2 ^ 31 by omega), bo_v (c_there1 hr), bo_v (c_there1 ht), if_01, if_01]
        rw [Int32.le_iff_toInt_le, h0] at h5
        rcases h.2.1.sz hr with ⟨e1, e2⟩ | ⟨s, hs, e1, e2⟩
        · rw [if_pos e1, e2, if_pos (by decide)]
          exact sim_find h (k := 1) rfl (by decide) (by decide)
        · rw [e1, if_neg (nI_ne_m1 (by omega)), e2, if_neg (nI_pos (by omega))]
          rcases h.2.1.sz ht with ⟨f1, f2⟩ | ⟨u, hu, f1, f2⟩
          · rw [if_pos f1, f2, if_neg m1_ge0]
            exact sim_find h (k := 1) rfl (by decide) (by decide)
          · rw [f1, if_neg (nI_ne_m1 (by omega)), f2, if_pos (nI_ge0 (by omega)), bo_v (c_places hr hs e1 x2 x5 h5), bo_v (m_span hr hs e2 x2 x5), if_10, if_10]
            by_cases q1 : 0 ≤ x2.toInt ∧ x2.toInt + x5.toInt ≤ s
            · rw [if_pos q1, if_pos q1, bo_v (c_places ht hu f1 x4 x5 h5), bo_v (m_span ht hu f2 x4 x5), if_10, if_10]
              by_cases q2 : 0 ≤ x4.toInt ∧ x4.toInt + x5.toInt ≤ u
              · rw [if_pos q2, if_pos q2]
                obtain ⟨i, hi, ei, rfl⟩ : ∃ i : Nat, i ≤ 40 ∧ x2.toInt = i ∧ x2 = nI i := ⟨x2.toInt.toNat, by omega, by omega, nI_of_toInt (by omega) (by omega)⟩
                obtain ⟨j, hj, ej, rfl⟩ : ∃ i : Nat, i ≤ 40 ∧ x4.toInt = i ∧ x4 = nI i := ⟨x4.toInt.toNat, by omega, by omega, nI_of_toInt (by omega) (by omega)⟩
                obtain ⟨n, hn, en, rfl⟩ : ∃ i : Nat, i ≤ 40 ∧ x5.toInt = i ∧ x5 = nI i := ⟨x5.toInt.toNat, by omega, by omega, nI_of_toInt (by omega) (by omega)⟩
                rw [gd_t ⟨nI_pos (by omega), nI_pos (by omega), nI_pos (by omega), by rw [nI_clamp (by omega), nI_clamp (by omega)]; omega, by rw [nI_clamp (by omega), nI_clamp (by omega)]; omega⟩]
                rw [nI_clamp (show i < 2 ^ 31 by omega), nI_clamp (show j < 2 ^ 31 by omega), nI_clamp (show n < 2 ^ 31 by omega)]
                simp only [nm]
                unfold fX8_copy_91
                by_cases hb : nI j ≤ nI i
                · rw [if_pos hb, m_copy hr ht (by omega) (by omega) 0 (by rw [if_pos hb])]
                  exact Sim.ret (h.copy hr ht (by omega) (by omega))
                · rw [if_neg hb, m_copy hr ht (by omega) (by omega) 1 (by rw [if_neg hb])]
                  exact Sim.ret (h.copy hr ht (by omega) (by omega))
              · rw [if_neg q2, if_neg q2]
                exact sim_find h (k := 2) rfl (by decide) (by decide)
            · rw [if_neg q1, if_neg q1]
              exact sim_find h (k := 2) rfl (by decide) (by decide)
      · rw [if_neg h5, if_neg h5]
        exact sim_find h (k := 5) rfl (by decide) (by decide)
    · rw [if_neg h3, if_neg h3]
      exact Sim.ret h
  · rw [if_neg h1, if_neg h1]
    exact Sim.ret h

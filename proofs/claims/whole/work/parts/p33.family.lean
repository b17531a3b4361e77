/-! PURE: family -/
theorem m_k91 {Q : Nat} (hQ : Q ≤ 6) : ∀ k i N (w : Mm), i + k = Q → k < N → w.1 0 3 = nI Q → ∃ w', fX8_family_91 N (nI i) w = fX8_family_153 FU 0 w' ∧ (∀ j, i ≤ j → j < Q → w'.1 3 j = w.1 12 (3 * j) ∧ w'.1 4 j = w.1 12 (3 * j + 1) ∧ w'.1 5 j = w.1 12 (3 * j + 2)) ∧ (∀ j, j < i → w'.1 3 j = w.1 3 j ∧ w'.1 4 j = w.1 4 j ∧ w'.1 5 j = w.1 5 j) ∧ (∀ p, p ≠ 3 → p ≠ 4 → p ≠ 5 → w'.1 p = w.1 p) ∧ w'.2 = w.2 := by
  intro k
  induction k with
  | zero =>
    intro i N w hi hN h3
    obtain ⟨N, rfl⟩ : ∃ t, N = t + 1 := ⟨N - 1, by omega⟩
    rw [fX8_family_91, h3, if_pos (nI_le (by omega) (by omega))]
    exact ⟨w, rfl, fun j h1 h2 => by omega, fun _ _ => ⟨rfl, rfl, rfl⟩, fun _ _ _ _ => rfl, rfl⟩
  | succ k ih =>
    intro i N w hi hN h3
    obtain ⟨N, rfl⟩ : ∃ t, N = t + 1 := ⟨N - 1, by omega⟩
    rw [fX8_family_91, h3, if_neg (nI_ge (by omega) (by omega))]
    simp only [nm]
    rw [show (3 : Int32) * nI i = nI (3 * i) from pk_mul 3 i, gd_t (inb_nI (show 3 * i < 18 by omega) (by decide)), gd_t (inb_nI (show i < 6 by omega) (by decide)), nI_1 (3 * i), gd_t (inb_nI (show 3 * i + 1 < 18 by omega) (by decide)), show nI (3 * i) + 2 = nI (3 * i + 2) from nI_add _ 2, gd_t (inb_nI (show 3 * i + 2 < 18 by omega) (by decide)), nI_clamp (show 3 * i < 2 ^ 31 by omega), nI_clamp (show i < 2 ^ 31 by omega), nI_clamp (show 3 * i + 1 < 2 ^ 31 by omega), nI_clamp (show 3 * i + 2 < 2 ^ 31 by omega), nI_1]
    generalize hw : sA (sA (sA w 3 i (w.1 12 (3 * i))) 4 i ((sA w 3 i (w.1 12 (3 * i))).1 12 (3 * i + 1))) 5 i ((sA (sA w 3 i (w.1 12 (3 * i))) 4 i ((sA w 3 i (w.1 12 (3 * i))).1 12 (3 * i + 1))).1 12 (3 * i + 2)) = w1
    have p0 : ∀ p, p ≠ 3 → p ≠ 4 → p ≠ 5 → w1.1 p = w.1 p := fun p h1 h2 h3 => by rw [← hw, sA_ne h3, sA_ne h2, sA_ne h1]
    have e3 : ∀ j, w1.1 3 j = if j = i then w.1 12 (3 * i) else w.1 3 j := fun j => by
      rw [← hw, sA_ne (by decide), sA_ne (by decide), sA_eq]
      by_cases e : j = i
      · rw [e, upd_eq, if_pos rfl]
      · rw [upd_ne e, if_neg e]
    have e4 : ∀ j, w1.1 4 j = if j = i then w.1 12 (3 * i + 1) else w.1 4 j := fun j => by
      rw [← hw, sA_ne (by decide), sA_eq, sA_ne (show (12 : Nat) ≠ 3 by decide), sA_ne (show (4 : Nat) ≠ 3 by decide)]
      by_cases e : j = i
      · rw [e, upd_eq, if_pos rfl]
      · rw [upd_ne e, if_neg e]
    have e5 : ∀ j, w1.1 5 j = if j = i then w.1 12 (3 * i + 2) else w.1 5 j := fun j => by
      rw [← hw, sA_eq, sA_ne (show (12 : Nat) ≠ 4 by decide), sA_ne (show (12 : Nat) ≠ 3 by decide), sA_ne (show (5 : Nat) ≠ 4 by decide), sA_ne (show (5 : Nat) ≠ 3 by decide)]
      by_cases e : j = i
      · rw [e, upd_eq, if_pos rfl]
      · rw [upd_ne e, if_neg e]
    have w2 : w1.2 = w.2 := by rw [← hw]; rfl
    obtain ⟨w', g1, g2, g3, g4, g5⟩ := ih (i + 1) N w1 (by omega) (by omega) (by rw [p0 0 (by decide) (by decide) (by decide)]; exact h3)
    refine ⟨w', g1, fun j h1 h2 => ?_, fun j hj => ?_, fun p q1 q2 q3 => by rw [g4 p q1 q2 q3, p0 p q1 q2 q3], by rw [g5, w2]⟩
    · by_cases e : j = i
      · subst e
        obtain ⟨u1, u2, u3⟩ := g3 j (by omega)
        rw [u1, u2, u3, e3, e4, e5, if_pos rfl, if_pos rfl, if_pos rfl]
        exact ⟨rfl, rfl, rfl⟩
      · obtain ⟨u1, u2, u3⟩ := g2 j (by omega) h2
        rw [u1, u2, u3, p0 12 (by decide) (by decide) (by decide)]
        exact ⟨rfl, rfl, rfl⟩
    · obtain ⟨u1, u2, u3⟩ := g3 j (by omega)
      rw [u1, u2, u3, e3, e4, e5, if_neg (by omega), if_neg (by omega), if_neg (by omega)]
      exact ⟨rfl, rfl, rfl⟩
theorem m_k63 {P : Nat} (hP : P ≤ 4) : ∀ k i N (w : Mm), i + k = P → k < N → w.1 0 1 = nI P → ∃ w', fX8_family_63 N (nI i) w = fX8_family_91 FU 0 w' ∧ (∀ j, i ≤ j → j < P → w'.1 2 j = w.1 11 j) ∧ (∀ j, j < i → w'.1 2 j = w.1 2 j) ∧ (∀ p, p ≠ 2 → w'.1 p = w.1 p) ∧ w'.2 = w.2 := by
  intro k
  induction k with
  | zero =>
    intro i N w hi hN h3
    obtain ⟨N, rfl⟩ : ∃ t, N = t + 1 := ⟨N - 1, by omega⟩
    rw [fX8_family_63, h3, if_pos (nI_le (by omega) (by omega))]
    exact ⟨w, rfl, fun j h1 h2 => by omega, fun _ _ => rfl, fun _ _ => rfl, rfl⟩
  | succ k ih =>
    intro i N w hi hN h3
    obtain ⟨N, rfl⟩ : ∃ t, N = t + 1 := ⟨N - 1, by omega⟩
    rw [fX8_family_63, h3, if_neg (nI_ge (by omega) (by omega)), gd_t (inb_nI (show i < 4 by omega) (by decide)), nI_clamp (show i < 2 ^ 31 by omega), nI_1]
    simp only [nm]
    obtain ⟨w', g1, g2, g3, g4, g5⟩ := ih (i + 1) N (sA w 2 i (w.1 11 i)) (by omega) (by omega) (by rw [sA_ne (by decide)]; exact h3)
    refine ⟨w', g1, fun j h1 h2 => ?_, fun j hj => ?_, fun p hp => by rw [g4 p hp, sA_ne hp], g5⟩
    · by_cases e : j = i
      · subst e
        rw [g3 j (by omega), sA_eq, upd_eq]
      · rw [g2 j (by omega) h2, sA_ne (by decide)]
    · rw [g3 j (by omega), sA_eq, upd_ne (by omega)]
theorem c_become {c : Mm} {F : Fam} (hF : FamOk F) (hD : DrC F c) : ∃ c', fX2_become_23_31 c = some c' ∧ FamC F c' ∧ DynC dyn0 c' ∧ c'.1 23 11 = nI 0 ∧ (∀ p, p < 23 ∨ 28 < p → c'.1 p = c.1 p) ∧ c'.2 = c.2 := by
  unfold fX2_become_23_31 fX2_become_23_31_E
  obtain ⟨d1, d2, d3, d4, d5⟩ := hD
  have hP := hF.p
  have hQ := hF.q
  simp only [nm]
  rw [gd_t (by decide), gd_t (by decide), d1]
  generalize hw1 : sA c 23 0 (nI (fP F)) = w1
  have a1 : w1.1 31 = c.1 31 := by rw [← hw1, sA_ne (by decide)]
  rw [a1, d2]
  generalize hw2 : sA w1 23 2 (nI (fQ F)) = w2
  have a2 : w2.1 31 = c.1 31 := by rw [← hw2, sA_ne (by decide), a1]
  rw [a2, d3]
  generalize hw3 : sA w2 23 6 (nI (fU F)) = w3
  have p3 : ∀ p, p ≠ 23 → w3.1 p = c.1 p := fun p hp => by rw [← hw3, sA_ne hp, ← hw2, sA_ne hp, ← hw1, sA_ne hp]
  have f0 : w3.1 23 0 = nI (fP F) := by rw [← hw3, sA_eq, upd_ne (by decide), ← hw2, sA_eq, upd_ne (by decide), ← hw1, sA_eq, upd_eq]
  have f2 : w3.1 23 2 = nI (fQ F) := by rw [← hw3, sA_eq, upd_ne (by decide), ← hw2, sA_eq, upd_eq]
  have f6 : w3.1 23 6 = nI (fU F) := by rw [← hw3, sA_eq, upd_eq]
  have s3 : w3.2 = c.2 := by rw [← hw3, ← hw2, ← hw1]; rfl
  rw [p3 32 (by decide)]
  generalize hw5 : sF w3 24 (va_cpy (c.1 32) (w3.1 24) (0 : Int32).toNatClampNeg (0 : Int32).toNatClampNeg (4 : Int32).toNatClampNeg) = w5
  have p5 : ∀ p, p ≠ 24 → w5.1 p = w3.1 p := fun p hp => by rw [← hw5, sF_ne hp]
  have b5 : ∀ j, j < 4 → w5.1 24 j = c.1 32 j := fun j hj => by rw [← hw5, sF_eq]; exact cp0 hj
  rw [p5 33 (by decide), p3 33 (by decide)]
  generalize hw7 : sF w5 25 (va_cpy (c.1 33) (w5.1 25) (0 : Int32).toNatClampNeg (0 : Int32).toNatClampNeg (6 : Int32).toNatClampNeg) = w7
  have p7 : ∀ p, p ≠ 25 → w7.1 p = w5.1 p := fun p hp => by rw [← hw7, sF_ne hp]
  have b7 : ∀ j, j < 6 → w7.1 25 j = c.1 33 j := fun j hj => by rw [← hw7, sF_eq]; exact cp0 hj
  rw [p7 34 (by decide), p5 34 (by decide), p3 34 (by decide)]
  generalize hw8 : sF w7 26 (va_cpy (c.1 34) (w7.1 26) (0 : Int32).toNatClampNeg (0 : Int32).toNatClampNeg (6 : Int32).toNatClampNeg) = w8
  have p8 : ∀ p, p ≠ 26 → w8.1 p = w7.1 p := fun p hp => by rw [← hw8, sF_ne hp]
  have b8 : ∀ j, j < 6 → w8.1 26 j = c.1 34 j := fun j hj => by rw [← hw8, sF_eq]; exact cp0 hj
  rw [p8 35 (by decide), p7 35 (by decide), p5 35 (by decide), p3 35 (by decide)]
  generalize hw9 : sF w8 27 (va_cpy (c.1 35) (w8.1 27) (0 : Int32).toNatClampNeg (0 : Int32).toNatClampNeg (6 : Int32).toNatClampNeg) = w9
  have p9 : ∀ p, p ≠ 27 → w9.1 p = w8.1 p := fun p hp => by rw [← hw9, sF_ne hp]
  have b9 : ∀ j, j < 6 → w9.1 27 j = c.1 35 j := fun j hj => by rw [← hw9, sF_eq]; exact cp0 hj
  have s9 : w9.2 = c.2 := by rw [← hw9, ← hw8, ← hw7, ← hw5]; exact s3
  have e23 : w9.1 23 = w3.1 23 := by rw [p9 23 (by decide), p8 23 (by decide), p7 23 (by decide), p5 23 (by decide)]
  have hc9 : FamC F w9 := by
    refine ⟨by rw [e23]; exact f0, by rw [e23]; exact f2, by rw [e23]; exact f6, fun x hx => ?_, fun i hi => ⟨?_, ?_, ?_⟩⟩
    · rw [p9 24 (by decide), p8 24 (by decide), p7 24 (by decide), b5 x (by omega)]; exact d4 x hx
    · rw [p9 25 (by decide), p8 25 (by decide), b7 i (by omega)]; exact (d5 i hi).1
    · rw [p9 26 (by decide), b8 i (by omega)]; exact (d5 i hi).2.1
    · rw [b9 i (by omega)]; exact (d5 i hi).2.2
  obtain ⟨c', g1, g2, g3, g4⟩ := c_anew w9
  rw [bo_v g1]
  refine ⟨c', rfl, hc9.frB g4, g2, g3, fun p hp => ?_, by rw [g4.2.2, s9]⟩
  rw [g4.1 p (by omega) (by omega), p9 p (by omega), p8 p (by omega), p7 p (by omega), p5 p (by omega), p3 p (by omega)]
theorem sim_family {c m : Mm} (h : Rel c m) (x1 : Int32) : Sim (fX7_family x1 c) (fX8_family x1 m) := by
  unfold fX7_family fX7_family_E fX8_family fX8_family_E
  rw [bo_v (isText_eq x1), if_10]
  by_cases h1 : inb x1 4 = true
  · rw [if_pos h1, gd_t h1]
    obtain ⟨t, ht, -, rfl⟩ := inb_ex h1
    rw [c_ref10 ht, nI_clamp (by omega), bd_id]
    rcases h.2.2.1.sz ht with ⟨e1, e2⟩ | ⟨n, hn, e1, e2⟩
    · rw [if_pos e1, e2, if_neg m1_ge0, bd_ref (f := 1) (k := 1) rfl (by decide)]
      exact sim_find h (k := 1) rfl (by decide) (by decide)
    · rw [e1, e2, if_neg (nI_ne_m1 (by omega)), if_pos (nI_ge0 (by omega)), bd_0, gd_t h1, e1]
      obtain ⟨r, q, F', c', m', a1, a2, a3, a4, a5, a6⟩ := rd_fault (h.tx ht hn) e2
      rw [bd_v a1, bd_v a2]
      have hr := h.sc a3.1 a4.1
      rcases a6 with ⟨e9, hP, hQ⟩ | ⟨k, ek, hk⟩
      · rw [if_pos e9, if_pos e9]
        have hF' : FamOk F' := ⟨a5.1, a5.2.1, a5.2.2.1, a5.2.2.2.1, a5.2.2.2.2, by omega⟩
        have hQ6 := hF'.q
        have hP4 := hF'.p
        obtain ⟨c2, b1, b2, b3, b4, b5, b6⟩ := c_become hF' a3.2.2.2
        rw [bo_v b1]
        obtain ⟨c3, k1, k2, k3, k4, k5⟩ := c_kept (fun _ => True) 3 0 FU c2 (by omega) (FU_lt (by decide))
        have k1' : fX7_family_65 FU 0 c2 = _ := k1
        rw [k1', k4 23 (by decide), b2.2.1]
        -- the reference
        simp only [nm]
        obtain ⟨-, u17, u18, u19, u1, u2, u3, u4, u5⟩ := a4
        have x23 : (sA m' 0 1 (m'.1 0 21)).1 0 23 = m'.1 0 23 := by rw [sA_eq, upd_ne (by decide)]
        rw [x23]
        have x24 : (sA (sA m' 0 1 (m'.1 0 21)) 0 3 (m'.1 0 23)).1 0 24 = m'.1 0 24 := by rw [sA_eq, upd_ne (by decide), sA_eq, upd_ne (by decide)]
        rw [x24, u1, u2, u3]
        generalize hm1 : sA (sA (sA m' 0 1 (nI (fP F'))) 0 3 (nI (fQ F'))) 0 7 (nI (fU F')) = m1
        have q0 : ∀ p, p ≠ 0 → m1.1 p = m'.1 p := fun p hp => by rw [← hm1, sA_ne hp, sA_ne hp, sA_ne hp]
        have qf : ∀ f, f ≠ 1 → f ≠ 3 → f ≠ 7 → m1.1 0 f = m'.1 0 f := fun f h1 h2 h3 => by rw [← hm1, sA_eq, upd_ne h3, sA_eq, upd_ne h2, sA_eq, upd_ne h1]
        have q1 : m1.1 0 1 = nI (fP F') := by rw [← hm1, sA_eq, upd_ne (by decide), sA_eq, upd_ne (by decide), sA_eq, upd_eq]
        have q3 : m1.1 0 3 = nI (fQ F') := by rw [← hm1, sA_eq, upd_ne (by decide), sA_eq, upd_eq]
        have q7 : m1.1 0 7 = nI (fU F') := by rw [← hm1, sA_eq, upd_eq]
        have qs : m1.2 = m'.2 := by rw [← hm1]; rfl
        obtain ⟨m2, v1, v2, -, v4, v5⟩ := m_k63 hP4 (fP F') 0 FU m1 (by omega) (FU_lt (by omega)) q1
        have v1' : fX8_family_63 FU 0 m1 = _ := v1
        obtain ⟨m3, w1, w2, -, w4, w5⟩ := m_k91 hQ6 (fQ F') 0 FU m2 (by omega) (FU_lt (by omega)) (by rw [v4 0 (by decide)]; exact q3)
        have w1' : fX8_family_91 FU 0 m2 = _ := w1
        obtain ⟨m4, z1, z2, z3, z4, z5⟩ := m_k153 m3
        rw [v1', w1', z1]
        have m40 : m4.1 0 = m1.1 0 := by rw [z4 0 (by decide), w4 0 (by decide) (by decide) (by decide), v4 0 (by decide)]
        have mp : ∀ p, 6 ≤ p → m4.1 p = m'.1 p := fun p hp => by rw [z4 p (by omega), w4 p (by omega) (by omega) (by omega), v4 p (by omega), q0 p (by omega)]
        rw [m40, q3]
        refine Sim.ret ?_
        have cp : ∀ p, p < 19 ∨ 28 < p → c3.1 p = c'.1 p := fun p hp => by rw [k4 p (by omega), b5 p (by omega)]
        have hm4 : FamM F' m4 := by
          refine ⟨by rw [m40]; exact q1, by rw [m40]; exact q3, by rw [m40]; exact q7, fun x hx => ?_, fun i hi => ?_⟩
          · rw [z4 2 (by decide), w4 2 (by decide) (by decide) (by decide), v2 x (by omega) hx, q0 11 (by decide)]; exact u4 x hx
          · obtain ⟨y1, y2, y3⟩ := w2 i (by omega) hi
            rw [z4 3 (by decide), z4 4 (by decide), z4 5 (by decide), y1, y2, y3, v4 12 (by decide), q0 12 (by decide)]
            exact u5 i hi
        have hc3 : FamC F' c3 := by
          unfold FamC
          rw [k4 23 (by decide), k4 24 (by decide), k4 25 (by decide), k4 26 (by decide), k4 27 (by decide)]
          exact b2
        obtain ⟨-, r2, r3, r4⟩ := hr
        refine ⟨⟨F', 0, hF', hc3, hm4, ⟨⟨Nat.zero_le _, fun j hj => by omega⟩, by rw [k4 23 (by decide)]; exact b4, b3.cg (k4 23 (by decide)) (k4 28 (by decide)), ?_⟩, fun k hk => Or.inl ⟨k2 k (by omega) hk, z2 (k + 1) (by omega) (by omega)⟩⟩, r2.cg (fun p h1 h2 => cp p (by omega)) (mp 6 (by decide)) (mp 7 (by decide)), r3.cg (fun p h1 h2 => cp p (by omega)) (mp 8 (by decide)) (mp 9 (by decide)), r4.cg (by rw [cp 0 (by omega)]) (by rw [cp 0 (by omega)]) (by rw [k5, b6]) (cp 43 (by omega)) (by rw [m40, qf 12 (by decide) (by decide) (by decide)]) (by rw [m40, qf 15 (by decide) (by decide) (by decide)]) (by rw [z5, w5, v5, qs]) (mp 10 (by decide))⟩
        refine ⟨by rw [z3 0 (by decide), if_neg (by decide)]; rfl, ⟨?_, ?_, ?_, ?_, fun i hi => ?_⟩, fun j hj => by omega⟩
        · rw [z3 _ (by decide), if_neg (by decide)]; rfl
        · rw [z3 _ (by decide), if_neg (by decide)]; rfl
        · rw [z3 _ (by decide), if_neg (by decide)]; rfl
        · rw [z3 _ (by decide), if_pos rfl]; rfl
        · rw [z3 _ (by omega), if_neg (by omega)]; rfl
      · rw [ek, if_neg (nI_ne9 (by omega)), if_neg (nI_ne9 (by omega))]
        exact Sim.ret hr
  · rw [if_neg h1, c_ref10n h1]
    exact Sim.ret h

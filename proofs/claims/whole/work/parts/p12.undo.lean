/-! PURE: undo, keep, on -/
theorem m_undo {m : Mm} {n k : Nat} (hn : n ≤ 40) (hk : k < n) : fX8_undo_29 (nI k) (nI (n - k)) FU 0 m = some (nI (n - k), sA (sF m 1 (fun t => if 1 ≤ t ∧ t < 11 then m.1 1 (11 + 10 * k + (t - 1)) else m.1 1 t)) 1 0 (nI k)) := by
  have e10 : (10 : Int32) = nI 10 := rfl
  have e11 : (11 : Int32) = nI 11 := rfl
  have h := lp_i (f := fX8_undo_29 (nI k) (nI (n - k))) (step := fun j w => sA w 1 (1 + j) (w.1 1 (11 + 10 * k + j))) (fin := fun w => some (nI (n - k), sA w 1 0 (nI k))) (fun _ _ => True) 10 (fun N j w hj _ => ⟨by
    rw [fX8_undo_29, if_neg (show ¬ (10 : Int32) ≤ nI j from nI_ge hj (by decide)), if_neg (nI_nle (by omega) (by omega)), nI_lit1, e10, e11, pk_mul, nI_add, nI_add, nI_add, gd_t (inb_nI (by omega) (by decide)), gd_t (inb_nI (by omega) (by decide)), nI_clamp (show 11 + 10 * k + j < 2 ^ 31 by omega), nI_clamp (show 1 + j < 2 ^ 31 by omega), nI_add]; rfl, trivial⟩) (fun N w _ => by rw [fX8_undo_29, if_pos (by decide)]; rfl) 10 0 FU m rfl (FU_lt (by decide)) trivial
  have e : (0 : Int32) = nI 0 := rfl
  rw [e, h, itr_copy 1 (11 + 10 * k) 1 10 (by omega) 10 0 m (by omega)]
theorem m_undo0 {m : Mm} {k : Nat} : fX8_undo_29 (nI k) (nI 0) FU 0 m = some (nI 0, sA m 1 0 (nI k)) := by
  have hF : FU = 999999999999 + 1 := rfl
  rw [hF, fX8_undo_29, if_neg (by decide), if_pos (by decide)]
  rfl
/-- the class has gone back; the reference's row has what it had then -/
theorem rel_back {c m c' m' : Mm} {F : Fam} {k : Nat} (r2 : RelRows c m) (r3 : RelTexts c m) (r4 : RelTell c m) (hF : FamOk F) (hc : FamC F c) (hm : FamM F m) (hk : RelKept F c m) (ho : okD F (c.1 29) k) (a1 : DynC (rep F (c.1 29) k) c') (a2 : c'.1 23 11 = nI k) (a3 : FrB c c') (hB : BlockM F (c.1 29) k 0 (m'.1 1)) (hp : ∀ p, p ≠ 1 → m'.1 p = m.1 p) (h2 : m'.2 = m.2) (hl : ∀ t, 411 ≤ t → t < 1644 → m'.1 1 t = m.1 1 t) : Rel c' m' := by
  have f29 : c'.1 29 = c.1 29 := a3.1 29 (by decide) (by decide)
  refine ⟨⟨F, k, hF, hc.frB a3, ?_, ⟨by rw [f29]; exact ho, a2, by rw [f29]; exact a1, by rw [f29]; exact hB⟩, hk.cg (a3.1 19 (by decide) (by decide)) (fun k hk => a3.1 _ (by omega) (by omega)) hl⟩, r2.cg (fun p h1 h2 => a3.1 p (by omega) (by omega)) (hp 6 (by decide)) (hp 7 (by decide)), r3.cg (fun p h1 h2 => a3.1 p (by omega) (by omega)) (hp 8 (by decide)) (hp 9 (by decide)), r4.cg (by rw [a3.1 0 (by decide) (by decide)]) (by rw [a3.1 0 (by decide) (by decide)]) (by rw [a3.2.2]) (a3.1 43 (by decide) (by decide)) (by rw [hp 0 (by decide)]) (by rw [hp 0 (by decide)]) (by rw [h2]) (hp 10 (by decide))⟩
  obtain ⟨g1, g2, g3, g4, g5⟩ := hm
  refine ⟨by rw [hp 0 (by decide)]; exact g1, by rw [hp 0 (by decide)]; exact g2, by rw [hp 0 (by decide)]; exact g3, fun x hx => by rw [hp 2 (by decide)]; exact g4 x hx, fun i hi => ?_⟩
  rw [hp 3 (by decide), hp 4 (by decide), hp 5 (by decide)]
  exact g5 i hi
theorem sim_undo {c m : Mm} (h : Rel c m) (x1 : Int32) : Sim (fX7_undo x1 c) (fX8_undo x1 m) := by
  unfold fX7_undo fX7_undo_E fX8_undo fX8_undo_E
  obtain ⟨F, n, hF, hc, hm, ⟨ho, hz, hd, hB⟩, hk⟩ := id h.1
  have hn := ho.1
  have h0 : (0 : Int32).toInt = 0 := rfl
  rw [hB.1, bo_v (in_n x1 _ (nI n) (n + 1) rfl (by rw [nI_toInt (by omega)]; omega)), if_10, hz]
  simp only [nm]
  by_cases h1 : inb x1 (n + 1) = true
  · rw [if_pos h1]
    obtain ⟨k, hk1, -, rfl⟩ := inb_ex h1
    rw [if_neg (nI_pos (by omega)), if_pos (nI_le (by omega) (by omega)), pk_sub (by omega)]
    have hok : okD F (c.1 29) k := ho.le (by omega)
    obtain ⟨c', a0, a1, a2, a3⟩ := c_goBack hF hc hok
    rw [bo_v a0]
    by_cases e : k = n
    · subst e
      rw [Nat.sub_self, m_undo0]
      refine Sim.ret (rel_back h.2.1 h.2.2.1 h.2.2.2 hF hc hm hk hok a1 a2 a3 ?_ (fun p hp => sA_ne hp) rfl (fun t h1 h2 => by rw [sA_eq, upd_ne (by omega)]))
      refine ⟨by rw [sA_eq, upd_eq], hB.2.1.cg (fun t ht => by rw [sA_eq, upd_ne (by omega)]), fun j hj => (hB.2.2 j hj).cg (fun t ht => by rw [sA_eq, upd_ne (by omega)])⟩
    · rw [m_undo hn (by omega)]
      refine Sim.ret (rel_back h.2.1 h.2.2.1 h.2.2.2 hF hc hm hk hok a1 a2 a3 ?_ (fun p hp => by rw [sA_ne hp, sF_ne hp]) rfl (fun t h1 h2 => by rw [sA_eq, upd_ne (by omega), sF_eq, if_neg (by omega)]))
      refine ⟨by rw [sA_eq, upd_eq], (hB.2.2 k (by omega)).cg (fun t ht => ?_), fun j hj => (hB.2.2 j (by omega)).cg (fun t ht => ?_)⟩
      · rw [sA_eq, upd_ne (by omega), sF_eq, if_pos (by omega), show 11 + 10 * k + (0 + 1 + t - 1) = 0 + 10 + 10 * k + 1 + t by omega]
      · rw [sA_eq, upd_ne (by omega), sF_eq, if_neg (by omega)]
  · rw [if_neg h1]
    have h1 := inb_no h1
    by_cases q : x1 < 0
    · rw [if_pos q]
      exact Sim.ret h
    · rw [if_neg q, if_neg]
      · exact Sim.ret h
      · rw [Int32.lt_iff_toInt_lt, h0] at q
        rw [Int32.le_iff_toInt_le, nI_toInt (by omega)]
        omega
theorem m_copyFam {m : Mm} {a b : Nat} (ha : a ≤ 1233) (hb : b ≤ 1233) (hab : a + 411 ≤ b ∨ b + 411 ≤ a) : fX8_copyFamily (nI a) (nI b) m = some (sF m 1 (fun t => if b ≤ t ∧ t < b + 411 then m.1 1 (a + (t - b)) else m.1 1 t)) := by
  unfold fX8_copyFamily fX8_copyFamily_E
  have h := lp_i (f := fX8_copyFamily_2 (nI a) (nI b)) (step := fun j w => sA w 1 (b + j) (w.1 1 (a + j))) (fin := some) (fun _ _ => True) 411 (fun N j w hj _ => ⟨by
    rw [fX8_copyFamily_2, if_neg (show ¬ (411 : Int32) ≤ nI j from nI_ge hj (by decide)), nI_add, nI_add, gd_t (inb_nI (by omega) (by decide)), gd_t (inb_nI (by omega) (by decide)), nI_clamp (show b + j < 2 ^ 31 by omega), nI_clamp (show a + j < 2 ^ 31 by omega), nI_1]; rfl, trivial⟩) (fun N w _ => by rw [fX8_copyFamily_2, if_pos (by decide)]) 411 0 FU m rfl (FU_lt (by decide)) trivial
  have e : (0 : Int32) = nI 0 := rfl
  rw [e, h, itr_copy 1 a b 411 hab 411 0 m (by omega)]
  rfl
theorem cp0 {f g : Nat → Int32} {n j : Nat} (h : j < n) : va_cpy f g (0 : Int32).toNatClampNeg (0 : Int32).toNatClampNeg n j = f j := by
  have e : (0 : Int32).toNatClampNeg = 0 := rfl
  rw [e, pk_cpy_in (by omega) (by omega)]
  congr 1
  omega
theorem in3 (x : Int32) : fX8_in x.toInt64 0 2 = some (if inb x 3 = true then 1 else 0) := in_n x 2 2 3 rfl rfl
theorem sim_keep {c m : Mm} (h : Rel c m) (x1 : Int32) : Sim (fX7_keep x1 c) (fX8_keep x1 m) := by
  unfold fX7_keep fX7_keep_E fX8_keep fX8_keep_E
  obtain ⟨F, n, hF, hc, hm, ⟨ho, hz, hd, hB⟩, hk⟩ := id h.1
  have hn := ho.1
  rw [bo_v (c_num17 x1 c), bo_v (in3 x1), if_10, if_10, bo_v (c_isEmpty hF hc), if_10]
  by_cases h1 : inb x1 3 = true
  · rw [if_pos h1, if_pos h1]
    by_cases he : fQ F = 0
    · rw [if_pos he, if_pos ((q0 hF hm).mpr he)]
      exact Sim.ret h
    · rw [if_neg he, if_neg (fun q => he ((q0 hF hm).mp q)), gd_t h1]
      obtain ⟨k, hk3, -, rfl⟩ := inb_ex h1
      have e411 : (411 : Int32) = nI 411 := rfl
      rw [hz, gd_t ⟨by decide, by decide, nI_pos (by omega), by rw [nI_clamp (by omega)]; show 0 + n ≤ 40; omega, by rw [nI_clamp (by omega)]; show 0 + n ≤ 40; omega⟩, nI_clamp (show k < 2 ^ 31 by omega), nI_clamp (show n < 2 ^ 31 by omega), e411, nI_lit1, nI_add, pk_mul, nI_lit0, bo_v (m_copyFam (a := 0) (b := 411 * (1 + k)) (by decide) (by omega) (by omega))]
      simp only [nm]
      have e1 : (sF c (20 + k) (va_cpy (c.1 29) (c.1 (20 + k)) (nI 0).toNatClampNeg (nI 0).toNatClampNeg n)).1 23 11 = nI n := by rw [sF_ne (by omega)]; exact hz
      have e2 : (sA (sF c (20 + k) (va_cpy (c.1 29) (c.1 (20 + k)) (nI 0).toNatClampNeg (nI 0).toNatClampNeg n)) 19 k (nI n)).1 23 11 = nI n := by rw [sA_ne (by decide)]; exact e1
      rw [e1, e2]
      have e3 : (sF m 1 (fun t => if 411 * (1 + k) ≤ t ∧ t < 411 * (1 + k) + 411 then m.1 1 (0 + (t - 411 * (1 + k))) else m.1 1 t)).1 1 0 = nI n := by rw [sF_eq, if_neg (by omega)]; exact hB.1
      rw [e3]
      refine Sim.ret ?_
      obtain ⟨r1, r2, r3, r4⟩ := h
      have cp : ∀ p, p ≠ 19 → p ≠ 20 + k → (sA (sF c (20 + k) (va_cpy (c.1 29) (c.1 (20 + k)) (nI 0).toNatClampNeg (nI 0).toNatClampNeg n)) 19 k (nI n)).1 p = c.1 p := fun p h1 h2 => by rw [sA_ne h1, sF_ne h2]
      have mp : ∀ p, p ≠ 1 → (sF m 1 (fun t => if 411 * (1 + k) ≤ t ∧ t < 411 * (1 + k) + 411 then m.1 1 (0 + (t - 411 * (1 + k))) else m.1 1 t)).1 p = m.1 p := fun p h1 => sF_ne h1
      refine ⟨⟨F, n, hF, ?_, ?_, ?_, ?_⟩, r2.cg (fun p h1 h2 => cp p (by omega) (by omega)) (mp 6 (by decide)) (mp 7 (by decide)), r3.cg (fun p h1 h2 => cp p (by omega) (by omega)) (mp 8 (by decide)) (mp 9 (by decide)), r4.cg (by rw [cp 0 (by decide) (by omega)]) (by rw [cp 0 (by decide) (by omega)]) rfl (cp 43 (by decide) (by omega)) (by rw [mp 0 (by decide)]) (by rw [mp 0 (by decide)]) rfl (mp 10 (by decide))⟩
      · unfold FamC
        rw [cp 23 (by decide) (by omega), cp 24 (by decide) (by omega), cp 25 (by decide) (by omega), cp 26 (by decide) (by omega), cp 27 (by decide) (by omega)]
        exact hc
      · unfold FamM
        rw [mp 0 (by decide), mp 2 (by decide), mp 3 (by decide), mp 4 (by decide), mp 5 (by decide)]
        exact hm
      · unfold RelDeeds DynC
        rw [cp 23 (by decide) (by omega), cp 28 (by decide) (by omega), cp 29 (by decide) (by omega)]
        exact ⟨ho, hz, hd, hB.cg hn (fun t ht => by rw [sF_eq, if_neg (by omega)])⟩
      · intro k' hk'
        by_cases e : k' = k
        · subst e
          rw [sA_eq, upd_eq, sA_ne (by omega), sF_eq, sF_eq]
          have hcp : ∀ j, j < n → c.1 29 j = va_cpy (c.1 29) (c.1 (20 + k')) (nI 0).toNatClampNeg (nI 0).toNatClampNeg n j := fun j hj => (cp0 hj).symm
          refine Or.inr ⟨n, rfl, ho.cong hcp, (hB.congD hcp).cg hn (fun t ht => ?_)⟩
          rw [if_pos (by omega), show 0 + (411 * (k' + 1) + t - 411 * (1 + k')) = 0 + t by omega]
        · rw [sA_eq, upd_ne e, sF_ne (by omega), cp (20 + k') (by omega) (by omega), sF_eq]
          rcases hk k' hk' with g | ⟨n', g1, g2, g3⟩
          · exact Or.inl ⟨g.1, by rw [if_neg (by omega)]; exact g.2⟩
          · exact Or.inr ⟨n', g1, g2, g3.cg g2.1 (fun t ht => by rw [if_neg (by omega)])⟩
  · rw [if_neg h1, if_neg h1]
    exact Sim.ret h
theorem m_on {m : Mm} {k : Nat} (hk : k < 3) : fX8_on (nI k) m = if 0 ≤ m.1 1 (411 * (k + 1)) then bo (fX8_copyFamily (nI (411 * (k + 1))) (nI 0) m) (fun w => some (w.1 1 0, w)) else fX8_find 1 m := by
  unfold fX8_on fX8_on_E
  have e1 : (411 : Int32) * (1 + nI k) = nI (411 * (k + 1)) := by
    have e411 : (411 : Int32) = nI 411 := rfl
    rw [e411, nI_lit1, nI_add, pk_mul, Nat.add_comm 1 k]
  have e2 : nI (411 * (k + 1)) + 0 = nI (411 * (k + 1)) := by rw [nI_lit0, nI_add, Nat.add_zero]
  rw [bo_v (in3 _), if_10, if_pos (inb_nI hk (by decide)), bd_id, e1, e2, gd_t (inb_nI (by omega) (by decide)), nI_clamp (by omega)]
  rfl
theorem m_onn {m : Mm} {x : Int32} (hx : ¬ inb x 3 = true) : fX8_on x m = some (-1, m) := by
  unfold fX8_on fX8_on_E
  rw [bo_v (in3 _), if_10, if_neg hx]
theorem sim_on {c m : Mm} (h : Rel c m) (x1 : Int32) : Sim (fX7_on x1 c) (fX8_on x1 m) := by
  unfold fX7_on fX7_on_E
  obtain ⟨F, n, hF, hc, hm, ⟨ho, hz, hd, hB⟩, hk⟩ := id h.1
  have hn := ho.1
  by_cases h1 : inb x1 3 = true
  · obtain ⟨k, hk3, -, rfl⟩ := inb_ex h1
    rw [m_on hk3, c_ref17 hk3]
    rcases hk k hk3 with ⟨g1, g2⟩ | ⟨nk, g1, g2, g3⟩
    · rw [if_pos g1, g2, if_neg m1_ge0, bd_ref (f := 1) (k := 1) rfl (by decide)]
      exact sim_find h (k := 1) rfl (by decide) (by decide)
    · have hnk := g2.1
      have e0 : m.1 1 (411 * (k + 1)) = nI nk := g3.1
      rw [e0, if_pos (nI_ge0 (by omega)), if_neg (by rw [g1]; exact nI_ne_m1 (by omega)), bd_0, gd_t h1, nI_clamp (by omega), g1, gd_t ⟨by decide, by decide, nI_pos (by omega), by rw [nI_clamp (by omega)]; show 0 + nk ≤ 40; omega, by rw [nI_clamp (by omega)]; show 0 + nk ≤ 40; omega⟩, nI_clamp (by omega), bo_v (m_copyFam (a := 411 * (k + 1)) (b := 0) (by omega) (by decide) (by omega))]
      simp only [nm]
      generalize hw : sF c 29 (va_cpy (c.1 (20 + k)) (c.1 29) (0 : Int32).toNatClampNeg (0 : Int32).toNatClampNeg nk) = w
      have p1 : ∀ p, p ≠ 29 → w.1 p = c.1 p := fun p hp => by rw [← hw, sF_ne hp]
      have p2 : ∀ j, j < nk → c.1 (20 + k) j = w.1 29 j := fun j hj => by rw [← hw, sF_eq, cp0 hj]
      have p3 : w.2 = c.2 := by rw [← hw]; rfl
      have hok : okD F (w.1 29) nk := g2.cong p2
      have hcw : FamC F w := by
        unfold FamC
        rw [p1 23 (by decide), p1 24 (by decide), p1 25 (by decide), p1 26 (by decide), p1 27 (by decide)]
        exact hc
      obtain ⟨c', a0, a1, a2, a3⟩ := c_goBack hF hcw hok
      rw [p1 19 (by decide), g1, bo_v a0, a2]
      generalize hm' : sF m 1 (fun t => if 0 ≤ t ∧ t < 0 + 411 then m.1 1 (411 * (k + 1) + (t - 0)) else m.1 1 t) = m'
      have q1 : ∀ p, p ≠ 1 → m'.1 p = m.1 p := fun p hp => by rw [← hm', sF_ne hp]
      have q2 : ∀ t, t < 411 → m'.1 1 t = m.1 1 (411 * (k + 1) + t) := fun t ht => by rw [← hm', sF_eq, if_pos (by omega), Nat.sub_zero]
      have q3 : ∀ t, 411 ≤ t → m'.1 1 t = m.1 1 t := fun t ht => by rw [← hm', sF_eq, if_neg (by omega)]
      have q4 : m'.2 = m.2 := by rw [← hm']; rfl
      have hB' : BlockM F (w.1 29) nk 0 (m'.1 1) := (g3.congD p2).cg hnk (fun t ht => by rw [Nat.zero_add, q2 t ht])
      rw [hB'.1]
      refine Sim.ret ?_
      obtain ⟨r1, r2, r3, r4⟩ := h
      exact rel_back (c := w) (r2.cg (fun p h1 h2 => p1 p (by omega)) rfl rfl) (r3.cg (fun p h1 h2 => p1 p (by omega)) rfl rfl) (r4.cg (by rw [p1 0 (by decide)]) (by rw [p1 0 (by decide)]) (by rw [p3]) (p1 43 (by decide)) rfl rfl rfl rfl) hF hcw hm (hk.cg (p1 19 (by decide)) (fun k hk => p1 _ (by omega)) (fun t _ _ => rfl)) hok a1 a2 a3 hB' q1 q4 (fun t h1 h2 => q3 t h1)
  · rw [m_onn h1, c_ref17n h1, bd_m1]
    exact Sim.ret h
